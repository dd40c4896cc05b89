/-! merge and move: both sides -/
section RNG2
variable {nt B R : Nat} {C M : St}
theorem mg67 {x : Int32} : ∀ (n r R' : Nat) (M : St), r ≤ 32 → R' ≤ 32 → R' ≤ r + n → M 4 0 = nI R' → (s_merge_67 x n (nI r) M).1 = nI R' ∧ (∀ w, w ≠ 5 → w ≠ 6 → (s_merge_67 x n (nI r) M).2 w = M w) ∧ (∀ j, (s_merge_67 x n (nI r) M).2 5 j = if r ≤ j ∧ j < R' then M 5 (j + 1) else M 5 j) ∧ (∀ j, (s_merge_67 x n (nI r) M).2 6 j = if r ≤ j ∧ j < R' then M 6 (j + 1) else M 6 j)
  | 0, r, R', M, hr, h1, h2, h3 => by
    refine ⟨h3, fun w _ _ => rfl, fun j => ?_, fun j => ?_⟩
    · rw [if_neg (by omega)]; rfl
    · rw [if_neg (by omega)]; rfl
  | n + 1, r, R', M, hr, h1, h2, h3 => by
    unfold s_merge_67
    by_cases q : R' ≤ r
    · rw [h3, if_pos (nI_le q (by omega))]
      refine ⟨rfl, fun w _ _ => rfl, fun j => ?_, fun j => ?_⟩
      · rw [if_neg (by omega)]
      · rw [if_neg (by omega)]
    · rw [if_neg (by rw [h3]; exact nI_ge (by omega) (by omega)), nI_1, nI_clamp (by omega), nI_clamp (by omega)]
      obtain ⟨g1, g2, g3, g4⟩ := mg67 (x := x) n (r + 1) R' (up (up M 5 r (M 5 (r + 1))) 6 r (M 6 (r + 1))) (by omega) h1 (by omega) (by rw [up_row (by decide), up_row (by decide)]; exact h3)
      refine ⟨g1, fun w h5 h6 => by rw [g2 w h5 h6, up_row h6, up_row h5], fun j => ?_, fun j => ?_⟩
      · rw [g3 j, up_row (by decide), up_self]
        by_cases e : j = r
        · subst e
          rw [if_neg (by omega), pk_us, if_pos (by omega)]
        · rw [pk_un e]
          by_cases e2 : r + 1 ≤ j ∧ j < R'
          · rw [if_pos e2, if_pos (by omega), pk_un (by omega)]
          · rw [if_neg e2, if_neg (by omega)]
      · rw [g4 j, up_self]
        by_cases e : j = r
        · subst e
          rw [if_neg (by omega), pk_us, if_pos (by omega)]
        · rw [pk_un e]
          by_cases e2 : r + 1 ≤ j ∧ j < R'
          · rw [if_pos e2, if_pos (by omega), pk_un (by omega), up_row (by decide)]
          · rw [if_neg e2, if_neg (by omega), up_row (by decide)]
/-- the first key of a range, what stands there -/
theorem Inv.first (h : Inv nt B R C M) {r : Nat} (hr : r < R) : ∃ a b : Nat, fkS C (nI r) 32 0 0 = nI a ∧ fkS C (nI r + 1) 32 0 0 = nI b ∧ a < b ∧ b ≤ 32 ∧ C 4 a = M 6 r ∧ (r + 1 < R → b < 32 ∧ C 4 b = M 6 (r + 1) ∧ C 4 (b - 1) = M 6 r) ∧ (∀ k, k < 32 → (s_rangeOf (nI k) M = nI r ↔ a ≤ k ∧ k < b)) := by
  obtain ⟨h1, h2, h3, h4, f, f0, f1, f2, f3, f4⟩ := h.r
  have e1 := fk_ok (C := C) f1 (fun r hr => (f2 r hr).1) f3 (r := r) (by omega) 32 0 0 (by omega) (by omega) (by omega) (fun j hj => by omega) (fun _ => by omega)
  have e2 := fk_ok (C := C) f1 (fun r hr => (f2 r hr).1) f3 (r := r + 1) (by omega) 32 0 0 (by omega) (by omega) (by omega) (fun j hj => by omega) (fun _ => by omega)
  rw [← nI_1] at e2
  rw [show nI 0 = 0 from rfl] at e1 e2
  have b1 := (f2 r hr).1
  have hlt : f r < (if r + 1 < R then f (r + 1) else 32) := by
    split
    · exact f1 r ‹_›
    · exact b1
  have hle : (if r + 1 < R then f (r + 1) else 32) ≤ 32 := by
    split
    · have := (f2 (r + 1) ‹_›).1; omega
    · omega
  refine ⟨f r, if r + 1 < R then f (r + 1) else 32, by rw [e1, if_pos hr], e2, hlt, hle, f4 (f r) r b1 hr (Nat.le_refl _) (fun z => f1 r z), fun z => ?_, fun k hk => ?_⟩
  · have b2 := (f2 (r + 1) z).1
    have b3 := f1 r z
    rw [if_pos z]
    refine ⟨b2, f4 _ (r + 1) b2 z (Nat.le_refl _) (fun y => f1 (r + 1) y), f4 _ r (by omega) hr (by omega) (fun _ => by omega)⟩
  · obtain ⟨p, hp⟩ := isR_ex h1 f0 f1 k
    have e : s_rangeOf (nI k) M = nI p := ro2_ok h2 h3 f1 f2 hk hp 31 0 (by omega) (by have := hp.1; omega)
    rw [e, nI_eq (by have := hp.1; omega) (by omega)]
    constructor
    · intro z
      subst z
      refine ⟨hp.2.1, ?_⟩
      split
      · exact hp.2.2 ‹_›
      · exact hk
    · rintro ⟨z1, z2⟩
      refine isR_un f1 hp ⟨hr, z1, fun y => ?_⟩
      rw [if_pos y] at z2
      exact z2
theorem Inv.merge (h : Inv nt B R C M) {r b : Nat} (hr : r + 1 < R) (hb : fkS C (nI r + 1) 32 0 0 = nI b) (hb2 : b < 32) (he : M 6 r = M 6 (r + 1)) {x : Int32} : Inv nt B (R - 1) (up C 5 b 0) (s_merge_67 x 32 (nI r + 1) (up (up M 31 0 0) 4 0 (M 4 0 - 1))).2 ∧ (s_merge_67 x 32 (nI r + 1) (up (up M 31 0 0) 4 0 (M 4 0 - 1))).1 = nI (R - 1) ∧ (s_merge_67 x 32 (nI r + 1) (up (up M 31 0 0) 4 0 (M 4 0 - 1))).2 31 0 = 0 := by
  obtain ⟨h1, h2, h3, h4, f, f0, f1, f2, f3, f4⟩ := h.r
  have e2 := fk_ok (C := C) f1 (fun r hr => (f2 r hr).1) f3 (r := r + 1) (by omega) 32 0 0 (by omega) (by omega) (by omega) (fun j hj => by omega) (fun _ => by omega)
  rw [← nI_1, show nI 0 = 0 from rfl, hb, if_pos hr] at e2
  have eb : b = f (r + 1) := (nI_eq (by omega) (by have := (f2 (r + 1) hr).1; omega)).mp e2
  obtain ⟨R, rfl⟩ : ∃ R', R = R' + 1 := ⟨R - 1, by omega⟩
  rw [h3, nI_pred, nI_1, Nat.add_sub_cancel]
  obtain ⟨g1, g2, g3, g4⟩ := mg67 (x := x) 32 (r + 1) R (up (up M 31 0 0) 4 0 (nI R)) (by omega) (by omega) (by omega) up_eq
  generalize s_merge_67 x 32 (nI (r + 1)) (up (up M 31 0 0) 4 0 (nI R)) = X at g1 g2 g3 g4
  have hIR : IR R (up C 5 b 0 4) (up C 5 b 0 5) (X.2 4) (X.2 5) (X.2 6) := by
    have g3' : ∀ j, X.2 5 j = if r + 1 ≤ j ∧ j < R then M 5 (j + 1) else M 5 j := fun j => by
      rw [g3 j, up_row (by decide), up_row (by decide)]
    have g4' : ∀ j, X.2 6 j = if r + 1 ≤ j ∧ j < R then M 6 (j + 1) else M 6 j := fun j => by
      rw [g4 j, up_row (by decide), up_row (by decide)]
    refine ⟨by omega, by omega, by rw [g2 4 (by decide) (by decide), up_eq], fun j hj => ?_, fun j => if j ≤ r then f j else f (j + 1), ?_, fun j hj => ?_, fun j hj => ?_, fun j hj => ?_, fun j p hj hp => ?_⟩
    · rw [g4' j]
      split
      · exact h4 _ (by omega)
      · exact h4 _ hj
    · show (if 0 ≤ r then f 0 else _) = 0
      rw [if_pos (by omega), f0]
    · show (if j ≤ r then f j else f (j + 1)) < (if j + 1 ≤ r then f (j + 1) else f (j + 1 + 1))
      have a1 := f1 j (by omega)
      have a2 := f1 (j + 1) (by omega)
      split <;> split <;> omega
    · show (if j ≤ r then f j else f (j + 1)) < 32 ∧ X.2 5 j = nI (if j ≤ r then f j else f (j + 1))
      rw [g3' j]
      by_cases z : j ≤ r
      · rw [if_pos z, if_neg (by omega)]
        exact f2 j (by omega)
      · rw [if_neg z, if_pos (by omega)]
        exact f2 (j + 1) (by omega)
    · rw [up_self]
      by_cases z : j = b
      · subst z
        rw [pk_us]
        refine ⟨fun y => absurd rfl y, ?_⟩
        rintro ⟨p, p1, p2⟩ _
        have p2' : (if p ≤ r then f p else f (p + 1)) = j := p2
        by_cases y : p ≤ r
        · rw [if_pos y] at p2'
          have := f_mono f1 (show p ≤ r from y) (by omega)
          have := f1 r hr
          omega
        · rw [if_neg y] at p2'
          have := f_mono f1 (show r + 1 ≤ p by omega) (by omega)
          have := f1 p (by omega)
          omega
      · rw [pk_un z, f3 j hj]
        constructor
        · rintro ⟨p, p1, p2⟩
          by_cases y : p ≤ r
          · refine ⟨p, by omega, ?_⟩
            show (if p ≤ r then f p else _) = j
            rw [if_pos y, p2]
          · have : p ≠ r + 1 := fun w => z (by rw [eb, ← w, p2])
            refine ⟨p - 1, by omega, ?_⟩
            show (if p - 1 ≤ r then _ else f (p - 1 + 1)) = j
            rw [if_neg (by omega), show p - 1 + 1 = p by omega, p2]
        · rintro ⟨p, p1, p2⟩
          have p2' : (if p ≤ r then f p else f (p + 1)) = j := p2
          by_cases y : p ≤ r
          · rw [if_pos y] at p2'
            exact ⟨p, by omega, p2'⟩
          · rw [if_neg y] at p2'
            exact ⟨p + 1, by omega, p2'⟩
    · show (if p ≤ r then f p else f (p + 1)) ≤ j → (p + 1 < R → j < (if p + 1 ≤ r then f (p + 1) else f (p + 1 + 1))) → _
      intro a1 a2
      rw [up_row (by decide), g4' p]
      by_cases z : p ≤ r
      · rw [if_pos z] at a1
        rw [if_neg (by omega)]
        by_cases y : p = r
        · subst y
          by_cases w : j < f (p + 1)
          · exact f4 j p hj (by omega) a1 (fun _ => w)
          · rw [he]
            refine f4 j (p + 1) hj hr (by omega) (fun v => ?_)
            have a3 := a2 (by omega)
            rw [if_neg (by omega)] at a3
            exact a3
        · refine f4 j p hj (by omega) a1 (fun v => ?_)
          have a3 := a2 (by omega)
          rw [if_pos (by omega)] at a3
          exact a3
      · rw [if_neg z] at a1
        rw [if_pos (by omega)]
        refine f4 j (p + 1) hj (by omega) a1 (fun v => ?_)
        have a3 := a2 (by omega)
        rw [if_neg (by omega)] at a3
        exact a3
  refine ⟨?_, g1, by rw [g2 31 (by decide) (by decide), up_row (by decide), up_eq]⟩
  have hm : Inv nt B (R + 1) C (up M 31 0 0) := h.m31
  exact hm.rng_cg (fun w _ h5 => up_row h5) (fun w q4 q5 q6 => by rw [g2 w q5 q6, up_row q4]) (WF_up h.wf (by decide)) hIR
-- move
def nsA (a b : Nat) (s : Int32) : Nat → Nat → St → St
  | 0, _, C => C
  | n + 1, i, C => nsA a b s n (i + 1) (if a ≤ i ∧ i < b then noteS C i s else C)
def nsL (s : Int32) : Nat → Nat → St → St
  | 0, _, C => C
  | n + 1, i, C => nsL s n (i + 1) (noteS C i s)
theorem nsA_out {a b : Nat} {s : Int32} : ∀ (n i : Nat) (C : St), (∀ j, i ≤ j → j < i + n → ¬ (a ≤ j ∧ j < b)) → nsA a b s n i C = C
  | 0, _, _, _ => rfl
  | n + 1, i, C, h => by
    unfold nsA
    rw [if_neg (h i (by omega) (by omega))]
    exact nsA_out n (i + 1) C (fun j h1 h2 => h j (by omega) (by omega))
theorem nsA_in {a b : Nat} {s : Int32} : ∀ (m n i : Nat) (C : St), a ≤ i → i + m = b → nsA a b s (m + n) i C = nsL s m i C
  | 0, n, i, C, h1, h2 => by
    rw [nsA_out (0 + n) i C (fun j h3 h4 q => by omega)]
    rfl
  | m + 1, n, i, C, h1, h2 => by
    rw [show m + 1 + n = m + n + 1 by omega]
    unfold nsA nsL
    rw [if_pos (by omega)]
    exact nsA_in m n (i + 1) _ (by omega) (by omega)
theorem nsA_all {a b : Nat} {s : Int32} (hab : a ≤ b) : ∀ (n i : Nat) (C : St), i ≤ a → b ≤ i + n → nsA a b s n i C = nsL s (b - a) a C
  | 0, i, C, h1, h2 => by
    have : b - a = 0 := by omega
    rw [this]
    rfl
  | n + 1, i, C, h1, h2 => by
    rcases Nat.lt_or_eq_of_le h1 with z | z
    · unfold nsA
      rw [if_neg (by omega)]
      exact nsA_all hab n (i + 1) C (by omega) (by omega)
    · subst z
      have := nsA_in (a := i) (b := b) (s := s) (b - i) (n + 1 - (b - i)) i C (Nat.le_refl _) (by omega)
      rw [show b - i + (n + 1 - (b - i)) = n + 1 by omega] at this
      exact this
theorem noteS_row {C : St} {k w : Nat} {s : Int32} (h1 : w ≠ 8) (h2 : w ≠ 9) : noteS C k s w = C w := by
  unfold noteS
  split
  · rfl
  · rw [up_row h2, up_row h1]
theorem noteS_4 {C : St} {k i : Nat} {s x : Int32} : noteS (up C 4 i x) k s = up (noteS C k s) 4 i x := by
  unfold noteS
  rw [up_row (by decide)]
  split
  · rfl
  · rw [up_comm (v := 4) (w := 8) (by decide), up_comm (v := 4) (w := 9) (by decide)]
theorem nsL_4 {i : Nat} {s x : Int32} : ∀ (n k : Nat) (C : St), nsL s n k (up C 4 i x) = up (nsL s n k C) 4 i x
  | 0, _, _ => rfl
  | n + 1, k, C => by
    unfold nsL
    rw [noteS_4]
    exact nsL_4 n (k + 1) _
theorem mvS_row {n : Nat} {s : Int32} : ∀ (m i : Nat) (C : St), (∀ w, w ≠ 4 → mvS n s m i C w = nsL s m i C w) ∧ ∀ j, mvS n s m i C 4 j = if i ≤ j ∧ j < i + m then nI n else C 4 j
  | 0, i, C => ⟨fun _ _ => rfl, fun j => by rw [if_neg (by omega)]; rfl⟩
  | m + 1, i, C => by
    unfold mvS nsL
    obtain ⟨g1, g2⟩ := mvS_row (n := n) (s := s) m (i + 1) (noteS (up C 4 i (nI n)) i s)
    refine ⟨fun w hw => ?_, fun j => ?_⟩
    · rw [g1 w hw, noteS_4, nsL_4, up_row hw]
    · rw [g2 j, noteS_row (by decide) (by decide), up_self]
      by_cases e : j = i
      · subst e
        rw [if_neg (by omega), pk_us, if_pos (by omega)]
      · rw [pk_un e]
        by_cases e2 : i + 1 ≤ j ∧ j < i + 1 + m
        · rw [if_pos e2, if_pos (by omega)]
        · rw [if_neg e2, if_neg (by omega)]
theorem rO_cg {key : Int32} {M M' : St} (e4 : M' 4 = M 4) (e5 : M' 5 = M 5) : s_rangeOf key M' = s_rangeOf key M := by
  have : ∀ (n r : Nat), s_rangeOf_2 key n r M' = s_rangeOf_2 key n r M := by
    intro n
    induction n with
    | zero => intro r; rfl
    | succ n ih =>
      intro r
      unfold s_rangeOf_2
      rw [e4, e5, ih]
  exact this 31 0
theorem cov_row {k w : Nat} {s : Int32} {M : St} (h1 : w ≠ 10) (h2 : w ≠ 11) : s_covers k s M w = M w := by
  unfold s_covers
  split
  · rfl
  · rw [up_row h2, up_row h1]
theorem mv85 {r a b : Nat} {y d s : Int32} (hs : bd B s) : ∀ (n i : Nat) (C M : St), i + n = 32 → Inv nt B R C M → (∀ k, k < 32 → (s_rangeOf (nI k) M = nI r ↔ a ≤ k ∧ k < b)) → ∃ M', s_move_85 (nI r) y n d s i M = (d, up M' 6 (nI r).toNatClampNeg y) ∧ Inv nt B R (nsA a b s n i C) M' ∧ (∀ w, w ≠ 10 → w ≠ 11 → M' w = M w)
  | 0, i, C, M, h1, h2, h3 => ⟨M, rfl, h2, fun _ _ _ => rfl⟩
  | n + 1, i, C, M, h1, h2, h3 => by
    unfold s_move_85 nsA
    by_cases q : a ≤ i ∧ i < b
    · rw [if_pos ((h3 i (by omega)).mpr q), if_pos q]
      obtain ⟨M', g1, g2, g3⟩ := mv85 (r := r) (y := y) (d := d) hs n (i + 1) (noteS C i s) (s_covers i s M) (by omega) (h2.notes (by omega) hs) (fun k hk => by rw [rO_cg (cov_row (by decide) (by decide)) (cov_row (by decide) (by decide))]; exact h3 k hk)
      exact ⟨M', g1, g2, fun w q1 q2 => by rw [g3 w q1 q2, cov_row q1 q2]⟩
    · rw [if_neg (fun z => q ((h3 i (by omega)).mp z)), if_neg q]
      exact mv85 hs n (i + 1) C M (by omega) h2 h3
theorem WF_noteS {C : St} {k : Nat} {s : Int32} (h : WF nt C) : WF nt (noteS C k s) := by
  unfold noteS
  split
  · exact h
  · exact WF_up (WF_up h (by decide)) (by decide)
theorem WF_up4 {C : St} {k : Nat} {x : Int32} (h : WF nt C) (hx : vp_in x 4) : WF nt (up C 4 k x) := by
  obtain ⟨h1, h2, h3, h4, h5, h6, h7, c, kk, q1, q2, q3, q4, q5, q6, q7, q8, q9⟩ := h
  refine ⟨h1, h2, h3, h4, h5, ?_, h7, c, kk, q1, q2, q3, ?_, q5, q6, q7, q8, q9⟩
  · intro j hj
    rw [up_self]
    by_cases e : j = k
    · subst e; rw [pk_us]; exact hx
    · rw [pk_un e]; exact h6 j hj
  · rw [ct2_congr (up_row (by decide))]
    exact q4
theorem WF_mv {n : Nat} {s : Int32} (hn : n < 4) : ∀ (m i : Nat) (C : St), WF nt C → WF nt (mvS n s m i C)
  | 0, _, _, h => h
  | m + 1, i, C, h => by
    unfold mvS
    exact WF_mv hn m (i + 1) _ (WF_noteS (WF_up4 h (nI_in hn (by decide))))
theorem Inv.move (h : Inv nt B R C M) {r a b n : Nat} (hr : r < R) (hn : n < 4) (ha : fkS C (nI r) 32 0 0 = nI a) (hb : fkS C (nI r + 1) 32 0 0 = nI b) (hab : a < b) (hb2 : b ≤ 32) {d s : Int32} (hs : bd B s) : ∃ M2, s_move_85 (nI r) (nI n) 32 d s 0 M = (d, M2) ∧ Inv nt B R (mvS n s (b - a) a C) M2 ∧ M2 31 = M 31 := by
  obtain ⟨a', b', f1, f2, f3, f4, f5, f6, f7⟩ := h.first hr
  have ea : a' = a := (nI_eq (by omega) (by omega)).mp (f1.symm.trans ha)
  have eb : b' = b := (nI_eq (by omega) (by omega)).mp (f2.symm.trans hb)
  subst ea
  subst eb
  obtain ⟨M', g1, g2, g3⟩ := mv85 (r := r) (y := nI n) (d := d) hs 32 0 C M (by omega) h f7
  have hr32 : r < 2 ^ 31 := by have := h.r.2.1; omega
  rw [nI_clamp hr32] at g1
  refine ⟨_, g1, ?_, by rw [up_row (by decide), g3 31 (by decide) (by decide)]⟩
  rw [nsA_all (by omega) 32 0 C (by omega) (by omega)] at g2
  obtain ⟨m1, m2⟩ := mvS_row (n := n) (s := s) (b' - a') a' C
  refine g2.rng_cg (fun w q4 _ => m1 w q4) (fun w _ _ q6 => up_row q6) (WF_mv hn _ _ C h.wf) ?_
  have c5 : nsL s (b' - a') a' C 5 = C 5 := by
    have : ∀ (n i : Nat) (C : St), nsL s n i C 5 = C 5 := by
      intro n
      induction n with
      | zero => intro i C; rfl
      | succ n ih =>
        intro i C
        unfold nsL
        rw [ih, noteS_row (by decide) (by decide)]
    exact this _ _ _
  obtain ⟨h1, h2, h3, h4, f, z0, z1, z2, z3, z4⟩ := h.r
  have ef : f r = a' := by
    have e1 := fk_ok (C := C) z1 (fun r hr => (z2 r hr).1) z3 (r := r) (by omega) 32 0 0 (by omega) (by omega) (by omega) (fun j hj => by omega) (fun _ => by omega)
    rw [show nI 0 = 0 from rfl, ha, if_pos hr] at e1
    exact ((nI_eq (by omega) (by have := (z2 r hr).1; omega)).mp e1).symm
  have ef2 : (if r + 1 < R then f (r + 1) else 32) = b' := by
    have e2 := fk_ok (C := C) z1 (fun r hr => (z2 r hr).1) z3 (r := r + 1) (by omega) 32 0 0 (by omega) (by omega) (by omega) (fun j hj => by omega) (fun _ => by omega)
    rw [← nI_1, show nI 0 = 0 from rfl, hb] at e2
    refine ((nI_eq (by omega) ?_).mp e2).symm
    split
    · have := (z2 (r + 1) ‹_›).1; omega
    · omega
  refine ⟨h1, h2, by rw [up_row (by decide), g3 4 (by decide) (by decide)]; exact h3, ?_, f, z0, z1, fun j hj => ?_, fun k hk => ?_, fun k p hk hp q1 q2 => ?_⟩
  · rw [up_self, g3 6 (by decide) (by decide)]
    exact fa_upd (P := fun _ y => vp_in y 4) h4 (nI_in hn (by decide))
  · rw [up_row (by decide), g3 5 (by decide) (by decide)]
    exact z2 j hj
  · rw [m1 5 (by decide), c5]
    exact z3 k hk
  · rw [m2 k, up_self, g3 6 (by decide) (by decide)]
    by_cases e : p = r
    · subst e
      rw [pk_us, if_pos]
      refine ⟨by omega, ?_⟩
      by_cases w : p + 1 < R
      · rw [if_pos w] at ef2
        have := q2 w
        omega
      · rw [if_neg w] at ef2
        omega
    · rw [pk_un e, if_neg]
      · exact z4 k p hk hp q1 q2
      · rintro ⟨y1, y2⟩
        refine e (isR_un z1 ⟨hp, q1, q2⟩ ⟨hr, by omega, fun w => ?_⟩)
        rw [if_pos w] at ef2
        omega
end RNG2
