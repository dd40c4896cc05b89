/-! ranges: both sides -/
def isR (f : Nat → Nat) (R r k : Nat) : Prop := r < R ∧ f r ≤ k ∧ (r + 1 < R → k < f (r + 1))
section RNG
variable {nt B R : Nat} {C M : St} {f : Nat → Nat}
theorem f_mono (hf : ∀ r, r + 1 < R → f r < f (r + 1)) : ∀ {a b : Nat}, a ≤ b → b < R → f a + (b - a) ≤ f b := by
  intro a b hab hb
  induction b with
  | zero =>
    have : a = 0 := by omega
    subst this
    omega
  | succ b ih =>
    rcases Nat.lt_or_eq_of_le hab with h | h
    · have h1 := ih (by omega) (by omega)
      have h2 := hf b hb
      omega
    · subst h
      omega
theorem isR_un (hf : ∀ r, r + 1 < R → f r < f (r + 1)) {r r' k : Nat} (h : isR f R r k) (h' : isR f R r' k) : r = r' := by
  obtain ⟨h1, h2, h3⟩ := h
  obtain ⟨g1, g2, g3⟩ := h'
  rcases Nat.lt_trichotomy r r' with e | e | e
  · have := f_mono hf (show r + 1 ≤ r' from e) g1
    have := h3 (by omega)
    omega
  · exact e
  · have := f_mono hf (show r' + 1 ≤ r from e) h1
    have := g3 (by omega)
    omega
theorem isR_ex (hR : 1 ≤ R) (h0 : f 0 = 0) (hf : ∀ r, r + 1 < R → f r < f (r + 1)) : ∀ k, ∃ r, isR f R r k := by
  intro k
  induction k with
  | zero =>
    refine ⟨0, hR, by omega, fun h => ?_⟩
    have := hf 0 h
    omega
  | succ k ih =>
    obtain ⟨r, h1, h2, h3⟩ := ih
    by_cases q : r + 1 < R ∧ f (r + 1) = k + 1
    · refine ⟨r + 1, q.1, by omega, fun h => ?_⟩
      have := hf (r + 1) h
      omega
    · refine ⟨r, h1, by omega, fun h => ?_⟩
      have := h3 h
      have : f (r + 1) ≠ k + 1 := fun z => q ⟨h, z⟩
      omega
theorem ro2_ok (hR2 : R ≤ 32) (h4 : M 4 0 = nI R) (hf : ∀ r, r + 1 < R → f r < f (r + 1)) (h5 : ∀ r, r < R → f r < 32 ∧ M 5 r = nI (f r)) {k r0 : Nat} (hk : k < 32) (h : isR f R r0 k) : ∀ (n r : Nat), r ≤ r0 → r0 ≤ r + n → s_rangeOf_2 (nI k) n r M = nI r0
  | 0, r, h1, h2 => by
    have : r = r0 := by omega
    subst this
    rfl
  | n + 1, r, h1, h2 => by
    unfold s_rangeOf_2
    rw [h4, nI_1]
    obtain ⟨g1, g2, g3⟩ := h
    by_cases q : R ≤ r + 1
    · rw [if_pos (nI_le q (by omega))]
      congr 1; omega
    · rw [if_neg (nI_ge (by omega) (by omega)), (h5 (r + 1) (by omega)).2]
      have b5 := (h5 (r + 1) (by omega)).1
      by_cases q2 : k < f (r + 1)
      · rw [if_pos (nI_lt q2 (by omega))]
        congr 1
        apply Classical.byContradiction
        intro z
        have := f_mono hf (show r + 1 ≤ r0 by omega) g1
        omega
      · rw [if_neg (nI_nlt (by omega) (by omega))]
        refine ro2_ok hR2 h4 hf h5 hk ⟨g1, g2, g3⟩ n (r + 1) ?_ (by omega)
        apply Classical.byContradiction
        intro z
        have : r = r0 := by omega
        subst this
        exact q2 (g3 (by omega))
theorem rg_ok (hf : ∀ r, r + 1 < R → f r < f (r + 1)) (h5 : ∀ k, k < 32 → (¬ C 5 k = 0 ↔ ∃ r, r < R ∧ f r = k)) {b : Nat} : ∀ (n i a : Nat), 1 ≤ i → i + n ≤ 32 → isR f R a (i - 1) → isR f R b (i - 1 + n) → rgS C n i (nI a) = nI b
  | 0, i, a, h1, h2, h3, h4 => by
    have := isR_un hf h3 h4
    subst this
    rfl
  | n + 1, i, a, h1, h2, h3, h4 => by
    unfold rgS
    by_cases q : C 5 i = 0
    · rw [if_pos q]
      refine rg_ok hf h5 n (i + 1) a (by omega) (by omega) ?_ (by rw [show i + 1 - 1 + n = i - 1 + (n + 1) by omega]; exact h4)
      obtain ⟨g1, g2, g3⟩ := h3
      refine ⟨g1, by omega, fun z => ?_⟩
      have y := g3 z
      have : f (a + 1) ≠ i := fun w => (h5 i (by omega)).mpr ⟨a + 1, z, w⟩ q
      omega
    · rw [if_neg q, nI_1]
      refine rg_ok hf h5 n (i + 1) (a + 1) (by omega) (by omega) ?_ (by rw [show i + 1 - 1 + n = i - 1 + (n + 1) by omega]; exact h4)
      obtain ⟨r, r1, r2⟩ := (h5 i (by omega)).mp q
      obtain ⟨g1, g2, g3⟩ := h3
      have e : r = a + 1 := by
        have ha : a < r := by
          apply Classical.byContradiction
          intro z
          have := f_mono hf (show r ≤ a by omega) g1
          omega
        apply Classical.byContradiction
        intro z
        have y := g3 (by omega)
        have := f_mono hf (show a + 1 ≤ r by omega) r1
        omega
      subst e
      refine ⟨r1, by omega, fun z => ?_⟩
      have := hf (a + 1) z
      omega
theorem fk_ok (hf : ∀ r, r + 1 < R → f r < f (r + 1)) (h32 : ∀ r, r < R → f r < 32) (h5 : ∀ k, k < 32 → (¬ C 5 k = 0 ↔ ∃ r, r < R ∧ f r = k)) {r : Nat} (hr : r < 2 ^ 31) : ∀ (n i a : Nat), i + n = 32 → a ≤ r → a ≤ R → (∀ j, j < a → f j < i) → (a < R → i ≤ f a) → fkS C (nI r) n i (nI a) = nI (if r < R then f r else 32)
  | 0, i, a, h1, h2, h2b, h3, h4 => by
    rw [if_neg]
    · rfl
    · intro z
      have := h4 (by omega)
      have := h32 a (by omega)
      omega
  | n + 1, i, a, h1, h2, h2b, h3, h4 => by
    unfold fkS
    by_cases q : C 5 i = 0
    · rw [if_pos q]
      refine fk_ok hf h32 h5 hr n (i + 1) a (by omega) h2 h2b (fun j hj => by have := h3 j hj; omega) (fun z => ?_)
      have y := h4 z
      have : f a ≠ i := fun w => (h5 i (by omega)).mpr ⟨a, z, w⟩ q
      omega
    · rw [if_neg q]
      obtain ⟨p, p1, p2⟩ := (h5 i (by omega)).mp q
      have e : p = a := by
        have ha : a ≤ p := by
          apply Classical.byContradiction
          intro z
          have := h3 p (by omega)
          omega
        have y := h4 (by omega)
        have := f_mono hf ha p1
        omega
      subst e
      by_cases q2 : p = r
      · subst q2
        rw [if_pos rfl, if_pos p1, p2]
      · rw [if_neg (fun z => q2 ((nI_eq (by omega) hr).mp z)), nI_1]
        refine fk_ok hf h32 h5 hr n (i + 1) (p + 1) (by omega) (by omega) (by omega) (fun j hj => ?_) (fun z => ?_)
        · rcases Nat.lt_or_eq_of_le (show j ≤ p by omega) with y | y
          · have := h3 j y; omega
          · subst y; omega
        · have := hf p z
          omega
theorem Inv.node (h : Inv nt B R C M) {k : Nat} (hk : k < 32) : s_nodeOf (nI k) M = C 4 k := by
  obtain ⟨h1, h2, h3, h4, f, f0, f1, f2, f3, f4⟩ := h.r
  obtain ⟨r, hr⟩ := isR_ex h1 f0 f1 k
  have e : s_rangeOf (nI k) M = nI r := ro2_ok h2 h3 f1 f2 hk hr 31 0 (by omega) (by have := hr.1; omega)
  unfold s_nodeOf
  rw [e, nI_clamp (by have := hr.1; omega), f4 k r hk hr.1 hr.2.1 hr.2.2]
theorem Inv.rng (h : Inv nt B R C M) {k : Nat} (hk : k < 32) : rgS C k 1 0 = s_rangeOf (nI k) M := by
  obtain ⟨h1, h2, h3, h4, f, f0, f1, f2, f3, f4⟩ := h.r
  obtain ⟨r, hr⟩ := isR_ex h1 f0 f1 k
  have e : s_rangeOf (nI k) M = nI r := ro2_ok h2 h3 f1 f2 hk hr 31 0 (by omega) (by have := hr.1; omega)
  rw [e]
  refine rg_ok f1 f3 k 1 0 (by omega) (by omega) ⟨h1, by omega, fun z => ?_⟩ (by rw [show 1 - 1 + k = k by omega]; exact hr)
  have := f1 0 z
  omega
theorem IR_last {c4 c5 m4 m5 m6 : Nat → Int32} (h : IR R c4 c5 m4 m5 m6) {C : St} (e5 : C 5 = c5) : rgS C 31 1 0 = nI (R - 1) := by
  obtain ⟨h1, h2, h3, h4, f, f0, f1, f2, f3, f4⟩ := h
  subst e5
  refine rg_ok f1 f3 31 1 0 (by omega) (by omega) ⟨h1, by omega, fun z => ?_⟩ ⟨by omega, ?_, fun z => by omega⟩
  · have := f1 0 z
    omega
  · have := (f2 (R - 1) (by omega)).1
    omega
theorem Inv.last (h : Inv nt B R C M) : rgS C 31 1 0 = nI (R - 1) := IR_last h.r rfl
/-- the groups beside the ranges, where rows 4, 5 and 4, 5, 6 alone change -/
theorem Inv.rng_cg {C' M' : St} {R' : Nat} (h : Inv nt B R C M) (eC : ∀ w, w ≠ 4 → w ≠ 5 → C' w = C w) (eM : ∀ w, w ≠ 4 → w ≠ 5 → w ≠ 6 → M' w = M w) (hW : WF nt C') (hR : IR R' (C' 4) (C' 5) (M' 4) (M' 5) (M' 6)) : Inv nt B R' C' M' := by
  obtain ⟨-, hN, -, hK, hT, hG, hO, hV, hQ⟩ := h
  have e0 : (fun i => C' (50 + 3 * i)) = fun i => C (50 + 3 * i) := by funext i; exact eC _ (by omega) (by omega)
  have e1 : (fun i => C' (51 + 3 * i)) = fun i => C (51 + 3 * i) := by funext i; exact eC _ (by omega) (by omega)
  have e2 : (fun i => C' (52 + 3 * i)) = fun i => C (52 + 3 * i) := by funext i; exact eC _ (by omega) (by omega)
  unfold Inv
  rw [e0, e1, e2]
  simp (disch := decide) only [eC, eM]
  exact ⟨hW, hN, hR, hK, hT, hG, hO, hV, hQ⟩
-- split
theorem sp59 {k z : Nat} (hz : 1 ≤ z) : ∀ (n r : Nat) (M : St), z ≤ r → r ≤ z + n → r < 2 ^ 31 → (s_split_59 (nI k) n (nI z) (nI r) M).1 = M 4 0 + 1 ∧ (∀ w, w ≠ 4 → w ≠ 5 → w ≠ 6 → (s_split_59 (nI k) n (nI z) (nI r) M).2 w = M w) ∧ (s_split_59 (nI k) n (nI z) (nI r) M).2 4 0 = M 4 0 + 1 ∧ (∀ j, (s_split_59 (nI k) n (nI z) (nI r) M).2 5 j = if j = z then nI k else if z < j ∧ j ≤ r then M 5 (j - 1) else M 5 j) ∧ (∀ j, (s_split_59 (nI k) n (nI z) (nI r) M).2 6 j = if j = z then M 6 (z - 1) else if z < j ∧ j ≤ r then M 6 (j - 1) else M 6 j) := by
  have base : ∀ (r : Nat) (M : St), z = r → r < 2 ^ 31 → (((M 4 0) + (1 : Int32), (up (up (up M 5 (nI z).toNatClampNeg (nI k)) 6 (nI z).toNatClampNeg (M 6 ((nI z - (1 : Int32)).toNatClampNeg))) 4 0 ((M 4 0) + (1 : Int32)))) : Int32 × St).1 = M 4 0 + 1 ∧ (∀ w, w ≠ 4 → w ≠ 5 → w ≠ 6 → (((M 4 0) + (1 : Int32), (up (up (up M 5 (nI z).toNatClampNeg (nI k)) 6 (nI z).toNatClampNeg (M 6 ((nI z - (1 : Int32)).toNatClampNeg))) 4 0 ((M 4 0) + (1 : Int32)))) : Int32 × St).2 w = M w) ∧ (((M 4 0) + (1 : Int32), (up (up (up M 5 (nI z).toNatClampNeg (nI k)) 6 (nI z).toNatClampNeg (M 6 ((nI z - (1 : Int32)).toNatClampNeg))) 4 0 ((M 4 0) + (1 : Int32)))) : Int32 × St).2 4 0 = M 4 0 + 1 ∧ (∀ j, (((M 4 0) + (1 : Int32), (up (up (up M 5 (nI z).toNatClampNeg (nI k)) 6 (nI z).toNatClampNeg (M 6 ((nI z - (1 : Int32)).toNatClampNeg))) 4 0 ((M 4 0) + (1 : Int32)))) : Int32 × St).2 5 j = if j = z then nI k else if z < j ∧ j ≤ r then M 5 (j - 1) else M 5 j) ∧ (∀ j, (((M 4 0) + (1 : Int32), (up (up (up M 5 (nI z).toNatClampNeg (nI k)) 6 (nI z).toNatClampNeg (M 6 ((nI z - (1 : Int32)).toNatClampNeg))) 4 0 ((M 4 0) + (1 : Int32)))) : Int32 × St).2 6 j = if j = z then M 6 (z - 1) else if z < j ∧ j ≤ r then M 6 (j - 1) else M 6 j) := by
    intro r M e hr
    subst e
    obtain ⟨y, rfl⟩ : ∃ y, z = y + 1 := ⟨z - 1, by omega⟩
    rw [nI_pred, nI_clamp (by omega), nI_clamp (by omega)]
    refine ⟨rfl, fun w h1 h2 h3 => ?_, ?_, fun j => ?_, fun j => ?_⟩
    · show up _ 4 0 _ w = _
      rw [up_row h1, up_row h3, up_row h2]
    · exact up_eq (S := up (up M 5 (y + 1) (nI k)) 6 (y + 1) (M 6 y)) (v := 4) (i := 0) (x := M 4 0 + 1)
    · show up (up (up M 5 (y + 1) (nI k)) 6 (y + 1) (M 6 y)) 4 0 (M 4 0 + 1) 5 j = _
      rw [up_row (by decide), up_row (by decide), up_self]
      by_cases e : j = y + 1
      · subst e; rw [pk_us, if_pos rfl]
      · rw [pk_un e, if_neg e, if_neg (by omega)]
    · show up (up (up M 5 (y + 1) (nI k)) 6 (y + 1) (M 6 y)) 4 0 (M 4 0 + 1) 6 j = _
      rw [up_row (by decide), up_self]
      by_cases e : j = y + 1
      · subst e; rw [pk_us, if_pos rfl]; rfl
      · rw [pk_un e, if_neg e, if_neg (by omega), up_row (by decide)]
  intro n
  induction n with
  | zero =>
    intro r M h1 h2 h3
    exact base r M (by omega) h3
  | succ n ih =>
    intro r M h1 h2 h3
    unfold s_split_59
    by_cases q : r = z
    · rw [if_pos (nI_le (by omega) (by omega))]
      exact base r M q.symm h3
    · rw [if_neg (nI_ge (by omega) h3)]
      obtain ⟨y, rfl⟩ : ∃ y, r = y + 1 := ⟨r - 1, by omega⟩
      rw [nI_pred, pk_m1, nI_clamp (by omega), nI_clamp (by omega)]
      obtain ⟨g1, g2, g3, g4, g5⟩ := ih y (up (up M 5 (y + 1) (M 5 y)) 6 (y + 1) (M 6 y)) (by omega) (by omega) (by omega)
      refine ⟨by rw [g1, up_row (by decide), up_row (by decide)], fun w h1 h2 h3 => by rw [g2 w h1 h2 h3, up_row h3, up_row h2], by rw [g3, up_row (by decide), up_row (by decide)], fun j => ?_, fun j => ?_⟩
      · rw [g4 j, up_row (by decide), up_self]
        by_cases e : j = z
        · rw [if_pos e, if_pos e]
        · rw [if_neg e, if_neg e]
          by_cases e2 : z < j ∧ j ≤ y
          · rw [if_pos e2, if_pos (by omega), pk_un (by omega)]
          · rw [if_neg e2]
            by_cases e3 : j = y + 1
            · subst e3
              rw [pk_us, if_pos (by omega), Nat.add_sub_cancel]
            · rw [pk_un e3, if_neg (by omega)]
      · rw [g5 j, up_self]
        by_cases e : j = z
        · rw [if_pos e, if_pos e, pk_un (by omega), up_row (by decide)]
        · rw [if_neg e, if_neg e]
          by_cases e2 : z < j ∧ j ≤ y
          · rw [if_pos e2, if_pos (by omega), pk_un (by omega), up_row (by decide)]
          · rw [if_neg e2]
            by_cases e3 : j = y + 1
            · subst e3
              rw [pk_us, if_pos (by omega), Nat.add_sub_cancel]
            · rw [pk_un e3, if_neg (by omega), up_row (by decide)]
/-- split at a key where no range begins -/
theorem Inv.split (h : Inv nt B R C M) {k : Nat} (hk : k < 32) : (M 5 (s_rangeOf (nI k) M).toNatClampNeg = nI k ↔ ¬ C 5 k = 0) ∧ (C 5 k = 0 → R < 32 ∧ Inv nt B (R + 1) (up C 5 k 1) (s_split_59 (nI k) 32 ((s_rangeOf (nI k) M) + 1) (M 4 0) M).2 ∧ (s_split_59 (nI k) 32 ((s_rangeOf (nI k) M) + 1) (M 4 0) M).1 = rgS (up C 5 k 1) 31 1 0 + 1 ∧ (s_split_59 (nI k) 32 ((s_rangeOf (nI k) M) + 1) (M 4 0) M).2 31 = M 31) := by
  obtain ⟨h1, h2, h3, h4, f, f0, f1, f2, f3, f4⟩ := h.r
  obtain ⟨r, hr⟩ := isR_ex h1 f0 f1 k
  have e : s_rangeOf (nI k) M = nI r := ro2_ok h2 h3 f1 f2 hk hr 31 0 (by omega) (by have := hr.1; omega)
  obtain ⟨r1, r2, r3⟩ := hr
  have b5 := f2 r r1
  rw [e, nI_clamp (by omega)]
  have hiff : f r = k ↔ ¬ C 5 k = 0 := by
    rw [f3 k hk]
    refine ⟨fun z => ⟨r, r1, z⟩, ?_⟩
    rintro ⟨p, p1, p2⟩
    have : isR f R p k := ⟨p1, by omega, fun z => by have := f1 p z; omega⟩
    have := isR_un f1 this ⟨r1, r2, r3⟩
    subst this
    exact p2
  refine ⟨by rw [b5.2, nI_eq (by omega) (by omega)]; exact hiff, fun q => ?_⟩
  have hne : f r ≠ k := fun z => hiff.mp z q
  have hR32 : R < 32 := by
    apply Classical.byContradiction
    intro z
    have hR : R = 32 := by omega
    have a1 := f_mono f1 (show k ≤ 31 by omega) (by omega)
    have a2 := (f2 31 (by omega)).1
    have a3 := f_mono f1 (show 0 ≤ k by omega) (by omega)
    exact (f3 k hk).mpr ⟨k, by omega, by omega⟩ q
  rw [nI_1, h3]
  obtain ⟨g1, g2, g3, g4, g5⟩ := sp59 (k := k) (z := r + 1) (by omega) 32 R M (by omega) (by omega) (by omega)
  generalize s_split_59 (nI k) 32 (nI (r + 1)) (nI R) M = X at g1 g2 g3 g4 g5
  have hIR : IR (R + 1) (up C 5 k 1 4) (up C 5 k 1 5) (X.2 4) (X.2 5) (X.2 6) := by
    refine ⟨by omega, by omega, by rw [g3, h3, nI_1], fun j hj => ?_, fun j => if j ≤ r then f j else if j = r + 1 then k else f (j - 1), ?_, fun j hj => ?_, fun j hj => ?_, fun j hj => ?_, fun j p hj hp => ?_⟩
    · rw [g5 j]
      split
      · exact h4 _ (by omega)
      · split
        · exact h4 _ (by omega)
        · exact h4 _ hj
    · show (if 0 ≤ r then f 0 else _) = 0
      rw [if_pos (by omega), f0]
    · show (if j ≤ r then f j else if j = r + 1 then k else f (j - 1)) < (if j + 1 ≤ r then f (j + 1) else if j + 1 = r + 1 then k else f (j + 1 - 1))
      rcases Nat.lt_trichotomy j r with z | z | z
      · rw [if_pos (by omega), if_pos (by omega)]
        exact f1 j (by omega)
      · subst z
        rw [if_pos (by omega), if_neg (by omega), if_pos rfl]
        omega
      · rw [if_neg (by omega), if_neg (show ¬ j + 1 ≤ r by omega), if_neg (show ¬ j + 1 = r + 1 by omega), Nat.add_sub_cancel]
        by_cases y : j = r + 1
        · subst y
          rw [if_pos rfl]
          exact r3 (by omega)
        · rw [if_neg y]
          have := f1 (j - 1) (by omega)
          rw [show j - 1 + 1 = j by omega] at this
          exact this
    · show (if j ≤ r then f j else if j = r + 1 then k else f (j - 1)) < 32 ∧ X.2 5 j = nI (if j ≤ r then f j else if j = r + 1 then k else f (j - 1))
      rw [g4 j]
      rcases Nat.lt_trichotomy j (r + 1) with z | z | z
      · rw [if_pos (by omega), if_neg (by omega), if_neg (by omega)]
        exact f2 j (by omega)
      · subst z
        rw [if_neg (by omega), if_pos rfl, if_pos rfl]
        exact ⟨hk, rfl⟩
      · rw [if_neg (by omega), if_neg (by omega), if_neg (by omega), if_pos (by omega)]
        exact f2 (j - 1) (by omega)
    · rw [up_self]
      by_cases z : j = k
      · subst z
        rw [pk_us]
        refine ⟨fun _ => ⟨r + 1, by omega, ?_⟩, fun _ => by decide⟩
        show (if r + 1 ≤ r then _ else if r + 1 = r + 1 then j else _) = j
        rw [if_neg (by omega), if_pos rfl]
      · rw [pk_un z, f3 j hj]
        constructor
        · rintro ⟨p, p1, p2⟩
          by_cases y : p ≤ r
          · refine ⟨p, by omega, ?_⟩
            show (if p ≤ r then f p else _) = j
            rw [if_pos y, p2]
          · refine ⟨p + 1, by omega, ?_⟩
            show (if p + 1 ≤ r then _ else if p + 1 = r + 1 then _ else f (p + 1 - 1)) = j
            rw [if_neg (by omega), if_neg (by omega), Nat.add_sub_cancel, p2]
        · rintro ⟨p, p1, p2⟩
          have p2' : (if p ≤ r then f p else if p = r + 1 then k else f (p - 1)) = j := p2
          by_cases y : p ≤ r
          · rw [if_pos y] at p2'
            exact ⟨p, by omega, p2'⟩
          · rw [if_neg y] at p2'
            by_cases x : p = r + 1
            · rw [if_pos x] at p2'
              exact absurd p2'.symm z
            · rw [if_neg x] at p2'
              exact ⟨p - 1, by omega, p2'⟩
    · show (if p ≤ r then f p else if p = r + 1 then k else f (p - 1)) ≤ j → (p + 1 < R + 1 → j < (if p + 1 ≤ r then f (p + 1) else if p + 1 = r + 1 then k else f (p + 1 - 1))) → _
      intro a1 a2
      rw [up_row (by decide), g5 p]
      rcases Nat.lt_trichotomy p (r + 1) with z | z | z
      · rw [if_pos (by omega)] at a1
        rw [if_neg (by omega), if_neg (by omega)]
        refine f4 j p hj (by omega) a1 (fun y => ?_)
        have a3 := a2 (by omega)
        by_cases x : p + 1 ≤ r
        · rw [if_pos x] at a3
          exact a3
        · have : p = r := by omega
          subst this
          rw [if_neg x, if_pos rfl] at a3
          have := r3 y
          omega
      · subst z
        rw [if_neg (by omega), if_pos rfl] at a1
        rw [if_pos rfl, Nat.add_sub_cancel]
        refine f4 j r hj r1 (by omega) (fun y => ?_)
        have a3 := a2 (by omega)
        rw [if_neg (by omega), if_neg (by omega), Nat.add_sub_cancel] at a3
        exact a3
      · rw [if_neg (by omega), if_neg (by omega)] at a1
        rw [if_neg (by omega), if_pos (by omega)]
        refine f4 j (p - 1) hj (by omega) a1 (fun y => ?_)
        have a3 := a2 (by omega)
        rw [if_neg (by omega), if_neg (by omega), Nat.add_sub_cancel] at a3
        rw [show p - 1 + 1 = p by omega]
        exact a3
  refine ⟨hR32, ?_, ?_, g2 31 (by decide) (by decide) (by decide)⟩
  · exact h.rng_cg (fun w _ h5 => up_row h5) g2 (WF_up h.wf (by decide)) hIR
  · rw [g1, h3, IR_last hIR rfl, nI_1, nI_1]
    congr 1
end RNG
