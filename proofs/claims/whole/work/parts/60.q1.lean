/-! the relation between the class's cells and the reference's: its groups, and what keeps them -/
def bd (B : Nat) (x : Int32) : Prop := ∃ s : Nat, s ≤ B ∧ x = nI s
theorem bd.mono {B B' : Nat} {x : Int32} (h : bd B x) (q : B ≤ B') : bd B' x := by
  obtain ⟨s, h1, h2⟩ := h
  exact ⟨s, Nat.le_trans h1 q, h2⟩
theorem bd_nI {B s : Nat} (h : s ≤ B) : bd B (nI s) := ⟨s, h, rfl⟩
theorem bd_mx {B : Nat} {a b : Int32} (ha : bd B a) (hb : bd B b) : bd B (mx a b) := by
  unfold mx
  split
  · exact hb
  · exact ha
theorem bd_mn {B : Nat} {a b : Int32} (ha : bd B a) (hb : bd B b) : bd B (mn a b) := by
  unfold mn
  split
  · exact hb
  · exact ha
theorem bd_s {B : Nat} {a : Int32} (ha : bd B a) : bd (B + 1) (a + 1) := by
  obtain ⟨s, h1, h2⟩ := ha
  exact ⟨s + 1, by omega, by rw [h2, nI_1]⟩
theorem bd_nn {B : Nat} {a : Int32} (h : bd B a) (hB : B < 2 ^ 31) : ¬ a < 0 := by
  obtain ⟨s, h1, h2⟩ := h
  rw [h2]
  exact nI_pos (by omega)
theorem bd_m1 {B : Nat} {a : Int32} (h : bd B a) (hB : B < 2 ^ 31) : ¬ a = (-1 : Int32) := by
  intro e
  have := bd_nn h hB
  rw [e] at this
  exact this (by decide)
theorem bd_of {B : Nat} {x : Int32} (h0 : 0 ≤ x.toInt) (h1 : x.toInt ≤ (B : Int)) (hB : B < 2 ^ 31) : bd B x := by
  refine ⟨x.toInt.toNat, by omega, ?_⟩
  apply Int32.toInt_inj.mp
  rw [nI_toInt (by omega)]
  omega
theorem bd_toInt {B : Nat} {x : Int32} (h : bd B x) (hB : B < 2 ^ 31) : 0 ≤ x.toInt ∧ x.toInt ≤ (B : Int) := by
  obtain ⟨s, h1, h2⟩ := h
  rw [h2, nI_toInt (by omega)]
  omega
theorem mx_l {a b : Int32} : a ≤ mx a b := by
  unfold mx
  split
  · exact Int32.le_of_lt ‹_›
  · exact Int32.le_refl _
theorem mx_r {a b : Int32} : b ≤ mx a b := by
  unfold mx
  split
  · exact Int32.le_refl _
  · exact Int32.not_lt.mp ‹_›
theorem gr_mx (a b : Int32) : s_greater a b = mx a b := by
  unfold s_greater mx
  by_cases h : a < b
  · rw [if_pos (Int32.le_of_lt h), if_pos h]
  · rw [if_neg h]
    by_cases e : a ≤ b
    · rw [if_pos e]
      exact Int32.le_antisymm (Int32.not_lt.mp h) e
    · rw [if_neg e]
theorem up_up {S : St} {v i : Nat} {x y : Int32} : up (up S v i x) v i y = up S v i y := by
  funext w j
  unfold up
  split <;> rfl
theorem up_id {S : St} {v i : Nat} : up S v i (S v i) = S := by
  funext w j
  unfold up
  split
  · rename_i h
    rw [h.1, h.2]
  · rfl
def EqN (n : Nat) (f g : Nat → Int32) : Prop := ∀ j, j < n → f j = g j
theorem EqN.upd {n i : Nat} {f g : Nat → Int32} {x : Int32} (h : EqN n f g) : EqN n (upd f i x) (upd g i x) := by
  intro j hj
  by_cases e : j = i
  · subst e
    rw [pk_us, pk_us]
  · rw [pk_un e, pk_un e]
    exact h j hj
theorem fa_upd {P : Nat → Int32 → Prop} {n i : Nat} {f : Nat → Int32} {x : Int32} (h : ∀ j, j < n → P j (f j)) (hx : P i x) : ∀ j, j < n → P j (upd f i x j) := by
  intro j hj
  by_cases e : j = i
  · subst e
    rw [pk_us]
    exact hx
  · rw [pk_un e]
    exact h j hj
-- nodes
def IN (B : Nat) (c0 c1 c2 c3 m0 m1 m2 m3 : Nat → Int32) : Prop := 20050 ≤ B ∧ c0 0 = m0 0 ∧ bd 2000 (c0 0) ∧ EqN 4 c1 m1 ∧ (∀ n, n < 4 → -5 ≤ (c1 n).toInt ∧ (c1 n).toInt ≤ 5) ∧ EqN 4 c2 m2 ∧ (∀ n, n < 4 → bd B (c2 n)) ∧ EqN 4 c3 m3
-- ranges
def IR (R : Nat) (c4 c5 m4 m5 m6 : Nat → Int32) : Prop := 1 ≤ R ∧ R ≤ 32 ∧ m4 0 = nI R ∧ (∀ r, r < 32 → vp_in (m6 r) 4) ∧ ∃ f : Nat → Nat, f 0 = 0 ∧ (∀ r, r + 1 < R → f r < f (r + 1)) ∧ (∀ r, r < R → f r < 32 ∧ m5 r = nI (f r)) ∧ (∀ k, k < 32 → (¬ c5 k = 0 ↔ ∃ r, r < R ∧ f r = k)) ∧ (∀ k r, k < 32 → r < R → f r ≤ k → (r + 1 < R → k < f (r + 1)) → c4 k = m6 r)
-- keys
def IK (B : Nat) (c6 c7 c8 c9 m7 m8 m10 m11 : Nat → Int32) : Prop := EqN 32 c6 m7 ∧ EqN 32 c7 m8 ∧ EqN 32 c8 m10 ∧ EqN 32 c9 m11 ∧ ∀ k, k < 32 → bd B (c8 k)
-- transactions
def IT (nt B : Nat) (c11 c12 c13 c14 c15 c16 c17 c18 c19 m16 m17 m18 m19 m20 m21 m22 m23 m24 : Nat → Int32) : Prop :=
  m16 0 = nI nt ∧ EqN nt c12 m17 ∧ EqN nt c13 m18 ∧ EqN nt c14 m21 ∧ EqN nt c15 m23 ∧ EqN nt c16 m19 ∧ EqN nt c17 m20 ∧ EqN nt c18 m22 ∧ EqN nt c19 m24 ∧ (∀ i, i < nt → c11 i = nI i) ∧ (∀ i, i < nt → bd B (c16 i)) ∧ (∀ i, i < nt → bd B (c17 i) ∧ ¬ c17 i = 0) ∧ (∀ i, i < nt → bd (B + 100) (c14 i)) ∧ (∀ i, i < 40 → ¬ m24 i = (-1 : Int32) → vp_in (m24 i) 40) ∧ (∀ i, i < 40 → vp_in (m17 i) 4)
-- sets of keys, of nodes
def IG (nt W Bd : Nat) (c : Nat → Int32) (d : Nat → Nat → Int32) (m : Nat → Int32) : Prop := ∀ i, i < nt → ∀ k, k < W → m (W * i + k) = (if bt (c i) k = true then d i k else -1) ∧ (bt (c i) k = true → bd Bd (d i k))
-- who has an intent has written
def IO (nt : Nat) (c6 c21 : Nat → Int32) (d : Nat → Nat → Int32) (m9 : Nat → Int32) : Prop := ∀ k i, k < 32 → i < nt → c6 k = nI i → bt (c21 i) k = true ∧ m9 k = d i k
-- versions
def chN (e : Nat × Nat × Int32) : Nat := 32 * e.1 + e.2.1
def RepC (L : List (Nat × Nat × Int32)) (c28 c29 : Nat → Int32) : Prop := ∀ p e, L[p]? = some e → c28 p = nI (chN e) ∧ c29 p = e.2.2
def RepM (L : List (Nat × Nat × Int32)) (m13 m14 m15 : Nat → Int32) : Prop := ∀ p e, L[p]? = some e → m13 p = nI e.2.1 ∧ m14 p = nI e.1 ∧ m15 p = e.2.2
def okE (B : Nat) (e : Nat × Nat × Int32) : Prop := e.1 ≤ B ∧ e.2.1 < 32 ∧ bd 1000 e.2.2
def IV (nt B : Nat) (c6 c17 c26 c28 c29 m12 m13 m14 m15 : Nat → Int32) : Prop :=
  ∃ L L' : List (Nat × Nat × Int32), L.Perm L' ∧ c26 0 = nI L.length ∧ m12 0 = nI L.length ∧ L.length ≤ 1280 ∧ RepC L c28 c29 ∧ RepM L' m13 m14 m15 ∧ (∀ e ∈ L, okE B e) ∧ L.Pairwise (fun a b => chN a < chN b) ∧ (∀ k i, k < 32 → i < nt → c6 k = nI i → ∀ e ∈ L, e.2.1 = k → nI e.1 < c17 i)
-- the order of the committed
def IQ (nt : Nat) (c15 c17 c30 c31 m25 m26 : Nat → Int32) : Prop :=
  ∃ Q : List Nat, Q.length ≤ 40 ∧ c31 0 = nI Q.length ∧ m26 0 = nI Q.length ∧ (∀ p i, Q[p]? = some i → c30 p = nI i) ∧ (∀ i, i < nt → (c15 i = 2 ↔ i ∈ Q)) ∧ (∀ i, i ∈ Q → i < nt ∧ ∃ a, a < Q.length ∧ m25 i = nI a) ∧ Q.Pairwise (fun a b => c17 a < c17 b ∨ (c17 a = c17 b ∧ m25 a < m25 b))
def Inv (nt B R : Nat) (C M : St) : Prop :=
  WF nt C ∧ IN B (C 0) (C 1) (C 2) (C 3) (M 0) (M 1) (M 2) (M 3) ∧ IR R (C 4) (C 5) (M 4) (M 5) (M 6) ∧ IK B (C 6) (C 7) (C 8) (C 9) (M 7) (M 8) (M 10) (M 11) ∧ IT nt B (C 11) (C 12) (C 13) (C 14) (C 15) (C 16) (C 17) (C 18) (C 19) (M 16) (M 17) (M 18) (M 19) (M 20) (M 21) (M 22) (M 23) (M 24) ∧ (IG nt 32 1000 (C 20) (fun i => C (50 + 3 * i)) (M 28) ∧ IG nt 32 1000 (C 21) (fun i => C (51 + 3 * i)) (M 29) ∧ IG nt 4 B (C 22) (fun i => C (52 + 3 * i)) (M 27)) ∧ IO nt (C 6) (C 21) (fun i => C (51 + 3 * i)) (M 9) ∧ IV nt B (C 6) (C 17) (C 26) (C 28) (C 29) (M 12) (M 13) (M 14) (M 15) ∧ IQ nt (C 15) (C 17) (C 30) (C 31) (M 25) (M 26)
section INV
variable {nt B R : Nat} {C M : St}
theorem Inv.wf (h : Inv nt B R C M) : WF nt C := h.1
theorem Inv.n (h : Inv nt B R C M) : IN B (C 0) (C 1) (C 2) (C 3) (M 0) (M 1) (M 2) (M 3) := h.2.1
theorem Inv.r (h : Inv nt B R C M) : IR R (C 4) (C 5) (M 4) (M 5) (M 6) := h.2.2.1
theorem Inv.k (h : Inv nt B R C M) : IK B (C 6) (C 7) (C 8) (C 9) (M 7) (M 8) (M 10) (M 11) := h.2.2.2.1
theorem Inv.t (h : Inv nt B R C M) : IT nt B (C 11) (C 12) (C 13) (C 14) (C 15) (C 16) (C 17) (C 18) (C 19) (M 16) (M 17) (M 18) (M 19) (M 20) (M 21) (M 22) (M 23) (M 24) := h.2.2.2.2.1
theorem Inv.rd (h : Inv nt B R C M) : IG nt 32 1000 (C 20) (fun i => C (50 + 3 * i)) (M 28) := h.2.2.2.2.2.1.1
theorem Inv.wr (h : Inv nt B R C M) : IG nt 32 1000 (C 21) (fun i => C (51 + 3 * i)) (M 29) := h.2.2.2.2.2.1.2.1
theorem Inv.db (h : Inv nt B R C M) : IG nt 4 B (C 22) (fun i => C (52 + 3 * i)) (M 27) := h.2.2.2.2.2.1.2.2
theorem Inv.o (h : Inv nt B R C M) : IO nt (C 6) (C 21) (fun i => C (51 + 3 * i)) (M 9) := h.2.2.2.2.2.2.1
theorem Inv.v (h : Inv nt B R C M) : IV nt B (C 6) (C 17) (C 26) (C 28) (C 29) (M 12) (M 13) (M 14) (M 15) := h.2.2.2.2.2.2.2.1
theorem Inv.q (h : Inv nt B R C M) : IQ nt (C 15) (C 17) (C 30) (C 31) (M 25) (M 26) := h.2.2.2.2.2.2.2.2
theorem IG.mono {W Bd Bd' : Nat} {c : Nat → Int32} {d : Nat → Nat → Int32} {m : Nat → Int32} (h : IG nt W Bd c d m) (q : Bd ≤ Bd') : IG nt W Bd' c d m := fun i hi k hk => ⟨(h i hi k hk).1, fun z => ((h i hi k hk).2 z).mono q⟩
theorem Inv.mono {B' : Nat} (h : Inv nt B R C M) (q : B ≤ B') : Inv nt B' R C M := by
  obtain ⟨hW, ⟨n0, n1, n2, n3, n4, n5, n6, n7⟩, hR, ⟨k1, k2, k3, k4, k5⟩, ⟨t0, t1, t2, t3, t4, t5, t6, t7, t8, t9, ta, tb, tc, td, te⟩, ⟨g1, g2, g3⟩, hO, ⟨L, L', v1, v2, v3, v4, v5, v6, v7, v8, v9⟩, hQ⟩ := h
  exact ⟨hW, ⟨by omega, n1, n2, n3, n4, n5, fun n hn => (n6 n hn).mono q, n7⟩, hR, ⟨k1, k2, k3, k4, fun k hk => (k5 k hk).mono q⟩, ⟨t0, t1, t2, t3, t4, t5, t6, t7, t8, t9, fun i hi => (ta i hi).mono q, fun i hi => ⟨(tb i hi).1.mono q, (tb i hi).2⟩, fun i hi => (tc i hi).mono (by omega), td, te⟩, ⟨g1, g2, g3.mono q⟩, hO, ⟨L, L', v1, v2, v3, v4, v5, v6, fun e he => ⟨Nat.le_trans (v7 e he).1 q, (v7 e he).2⟩, v8, v9⟩, hQ⟩
theorem Inv.m31 (h : Inv nt B R C M) {i : Nat} {x : Int32} : Inv nt B R C (up M 31 i x) := by
  simp (disch := decide) only [Inv, up_row]
  exact h
theorem Inv.m30 (h : Inv nt B R C M) {i : Nat} {x : Int32} : Inv nt B R C (up M 30 i x) := by
  simp (disch := decide) only [Inv, up_row]
  exact h
theorem Inv.c32 (h : Inv nt B R C M) {i : Nat} {x : Int32} : Inv nt B R (up C 32 i x) M := by
  have hW := WF_up h.wf (v := 32) (i := i) (x := x) (by decide)
  obtain ⟨-, h⟩ := h
  simp (disch := decide) only [Inv, up_row, up_t0, up_t1, up_t2]
  exact ⟨hW, h⟩
theorem Inv.time (h : Inv nt B R C M) {x : Int32} (hx : bd 2000 x) : Inv nt B R (up C 0 0 x) (up M 0 0 x) := by
  have hW := WF_up h.wf (v := 0) (i := 0) (x := x) (by decide)
  obtain ⟨-, ⟨n0, n1, n2, n3, n4, n5, n6, n7⟩, h⟩ := h
  simp (disch := decide) only [Inv, up_row, up_t0, up_t1, up_t2, up_self]
  exact ⟨hW, ⟨n0, by rw [pk_us, pk_us], by rw [pk_us]; exact hx, n3, n4, n5, n6, n7⟩, h⟩
theorem Inv.skew (h : Inv nt B R C M) {n : Nat} {x : Int32} (hx : -5 ≤ x.toInt ∧ x.toInt ≤ 5) : Inv nt B R (up C 1 n x) (up M 1 n x) := by
  have hW := WF_up h.wf (v := 1) (i := n) (x := x) (by decide)
  obtain ⟨-, ⟨n0, n1, n2, n3, n4, n5, n6, n7⟩, h⟩ := h
  simp (disch := decide) only [Inv, up_row, up_t0, up_t1, up_t2, up_self]
  exact ⟨hW, ⟨n0, n1, n2, n3.upd, fa_upd (P := fun _ y => -5 ≤ y.toInt ∧ y.toInt ≤ 5) n4 hx, n5, n6, n7⟩, h⟩
theorem Inv.met (h : Inv nt B R C M) {n : Nat} {x : Int32} (hx : bd B x) : Inv nt B R (up C 2 n x) (up M 2 n x) := by
  have hW := WF_up h.wf (v := 2) (i := n) (x := x) (by decide)
  obtain ⟨-, ⟨n0, n1, n2, n3, n4, n5, n6, n7⟩, h⟩ := h
  simp (disch := decide) only [Inv, up_row, up_t0, up_t1, up_t2, up_self]
  exact ⟨hW, ⟨n0, n1, n2, n3, n4, n5.upd, fa_upd (P := fun _ y => bd B y) n6 hx, n7⟩, h⟩
theorem Inv.isd (h : Inv nt B R C M) {n : Nat} {x : Int32} : Inv nt B R (up C 3 n x) (up M 3 n x) := by
  have hW := WF_up h.wf (v := 3) (i := n) (x := x) (by decide)
  obtain ⟨-, ⟨n0, n1, n2, n3, n4, n5, n6, n7⟩, h⟩ := h
  simp (disch := decide) only [Inv, up_row, up_t0, up_t1, up_t2, up_self]
  exact ⟨hW, ⟨n0, n1, n2, n3, n4, n5, n6, n7.upd⟩, h⟩
theorem ne_nI {i : Nat} (hi : i < 2 ^ 31) : ¬ (-1 : Int32) = nI i := by
  intro e
  have := nI_pos hi
  rw [← e] at this
  exact this (by decide)
theorem Inv.own0 (h : Inv nt B R C M) {k : Nat} : Inv nt B R (up C 6 k (-1)) (up M 7 k (-1)) := by
  have hW := WF_up6 h.wf (i := k) trv_null
  have hn := h.wf.n40
  obtain ⟨-, hN, hR, ⟨k1, k2, k3, k4, k5⟩, hT, hG, hO, ⟨L, L', v1, v2, v3, v4, v5, v6, v7, v8, v9⟩, hQ⟩ := h
  simp (disch := decide) only [Inv, up_row, up_t0, up_t1, up_t2, up_self]
  refine ⟨hW, hN, hR, ⟨k1.upd, k2, k3, k4, k5⟩, hT, hG, ?_, ⟨L, L', v1, v2, v3, v4, v5, v6, v7, v8, ?_⟩, hQ⟩
  · intro j i hj hi q
    by_cases e : j = k
    · subst e
      rw [pk_us] at q
      exact absurd q (ne_nI (by omega))
    · rw [pk_un e] at q
      exact hO j i hj hi q
  · intro j i hj hi q
    by_cases e : j = k
    · subst e
      rw [pk_us] at q
      exact absurd q (ne_nI (by omega))
    · rw [pk_un e] at q
      exact v9 j i hj hi q
theorem Inv.sure (h : Inv nt B R C M) {k : Nat} {x : Int32} : Inv nt B R (up C 7 k x) (up M 8 k x) := by
  have hW := WF_up h.wf (v := 7) (i := k) (x := x) (by decide)
  obtain ⟨-, hN, hR, ⟨k1, k2, k3, k4, k5⟩, h⟩ := h
  simp (disch := decide) only [Inv, up_row, up_t0, up_t1, up_t2, up_self]
  exact ⟨hW, hN, hR, ⟨k1, k2.upd, k3, k4, k5⟩, h⟩
theorem Inv.r8 (h : Inv nt B R C M) {k : Nat} {x : Int32} (hx : bd B x) : Inv nt B R (up C 8 k x) (up M 10 k x) := by
  have hW := WF_up h.wf (v := 8) (i := k) (x := x) (by decide)
  obtain ⟨-, hN, hR, ⟨k1, k2, k3, k4, k5⟩, h⟩ := h
  simp (disch := decide) only [Inv, up_row, up_t0, up_t1, up_t2, up_self]
  exact ⟨hW, hN, hR, ⟨k1, k2, k3.upd, k4, fa_upd (P := fun _ y => bd B y) k5 hx⟩, h⟩
theorem Inv.r9 (h : Inv nt B R C M) {k : Nat} {x : Int32} : Inv nt B R (up C 9 k x) (up M 11 k x) := by
  have hW := WF_up h.wf (v := 9) (i := k) (x := x) (by decide)
  obtain ⟨-, hN, hR, ⟨k1, k2, k3, k4, k5⟩, h⟩ := h
  simp (disch := decide) only [Inv, up_row, up_t0, up_t1, up_t2, up_self]
  exact ⟨hW, hN, hR, ⟨k1, k2, k3, k4.upd, k5⟩, h⟩
theorem Inv.note (h : Inv nt B R C M) {k : Nat} {t s : Int32} (hk : k < 32) (hs : bd B s) : Inv nt B R (noteR C k t s) (s_marks t k s M) := by
  have e8 := h.k.2.2.1 k hk
  have e9 := h.k.2.2.2.1 k hk
  unfold noteR s_marks
  rw [← e8, ← e9]
  split
  · split
    · split
      · exact h
      · exact h.r9
    · exact h
  · exact (h.r8 hs).r9
theorem Inv.notes (h : Inv nt B R C M) {k : Nat} {s : Int32} (hk : k < 32) (hs : bd B s) : Inv nt B R (noteS C k s) (s_covers k s M) := by
  have e8 := h.k.2.2.1 k hk
  unfold noteS s_covers
  rw [← e8]
  split
  · exact h
  · exact (h.r8 hs).r9
theorem Inv.r19 (h : Inv nt B R C M) {i : Nat} {x : Int32} (hx : trv nt x) : Inv nt B R (up C 19 i x) (up M 24 i x) := by
  have hW := WF_up19 h.wf (i := i) hx
  have hn := h.wf.n40
  obtain ⟨-, hN, hR, hK, ⟨t0, t1, t2, t3, t4, t5, t6, t7, t8, t9, ta, tb, tc, td, te⟩, h⟩ := h
  simp (disch := decide) only [Inv, up_row, up_t0, up_t1, up_t2, up_self]
  refine ⟨hW, hN, hR, hK, ⟨t0, t1, t2, t3, t4, t5, t6, t7, t8.upd, t9, ta, tb, tc, fa_upd (P := fun _ y => ¬ y = (-1 : Int32) → vp_in y 40) td ?_, te⟩, h⟩
  intro q
  rcases hx with hx | hx
  · exact absurd hx q
  · intro z
    have := hx.2
    rcases z with z | z
    · exact hx.1 z
    · omega
theorem Inv.r18 (h : Inv nt B R C M) {i : Nat} {x : Int32} : Inv nt B R (up C 18 i x) (up M 22 i x) := by
  have hW := WF_up h.wf (v := 18) (i := i) (x := x) (by decide)
  obtain ⟨-, hN, hR, hK, ⟨t0, t1, t2, t3, t4, t5, t6, t7, t8, t9, ta, tb, tc, td, te⟩, h⟩ := h
  simp (disch := decide) only [Inv, up_row, up_t0, up_t1, up_t2, up_self]
  exact ⟨hW, hN, hR, hK, ⟨t0, t1, t2, t3, t4, t5, t6, t7.upd, t8, t9, ta, tb, tc, td, te⟩, h⟩
theorem Inv.r16 (h : Inv nt B R C M) {i : Nat} {x : Int32} (hx : bd B x) : Inv nt B R (up C 16 i x) (up M 19 i x) := by
  have hW := WF_up h.wf (v := 16) (i := i) (x := x) (by decide)
  obtain ⟨-, hN, hR, hK, ⟨t0, t1, t2, t3, t4, t5, t6, t7, t8, t9, ta, tb, tc, td, te⟩, h⟩ := h
  simp (disch := decide) only [Inv, up_row, up_t0, up_t1, up_t2, up_self]
  exact ⟨hW, hN, hR, hK, ⟨t0, t1, t2, t3, t4, t5.upd, t6, t7, t8, t9, fa_upd (P := fun _ y => bd B y) ta hx, tb, tc, td, te⟩, h⟩
theorem Inv.r15 (h : Inv nt B R C M) {i : Nat} {x : Int32} (hi : i < nt) (h2 : C 15 i ≠ 2) (hx : x ≠ 2) : Inv nt B R (up C 15 i x) (up M 23 i x) := by
  have hW := WF_up15 h.wf h2 hx
  obtain ⟨-, hN, hR, hK, ⟨t0, t1, t2, t3, t4, t5, t6, t7, t8, t9, ta, tb, tc, td, te⟩, hG, hO, hV, ⟨Q, q1, q2, q3, q4, q5, q6, q7⟩⟩ := h
  simp (disch := decide) only [Inv, up_row, up_t0, up_t1, up_t2, up_self]
  refine ⟨hW, hN, hR, hK, ⟨t0, t1, t2, t3, t4.upd, t5, t6, t7, t8, t9, ta, tb, tc, td, te⟩, hG, hO, hV, ⟨Q, q1, q2, q3, q4, ?_, q6, q7⟩⟩
  intro j hj
  by_cases e : j = i
  · subst e
    rw [pk_us]
    exact ⟨fun z => absurd z hx, fun z => absurd ((q5 j hj).mpr z) h2⟩
  · rw [pk_un e]
    exact q5 j hj
theorem Inv.r17 (h : Inv nt B R C M) {i : Nat} {x : Int32} (hi : i < nt) (h2 : C 15 i ≠ 2) (hx : bd B x) (hle : C 17 i ≤ x) (hB : B < 2 ^ 31) : Inv nt B R (up C 17 i x) (up M 20 i x) := by
  have hW := WF_up h.wf (v := 17) (i := i) (x := x) (by decide)
  have hxz : ¬ x = 0 := by
    intro z
    obtain ⟨⟨s, s1, s2⟩, s3⟩ := h.t.2.2.2.2.2.2.2.2.2.2.2.1 i hi
    rw [z, s2] at hle
    refine nI_nle ?_ (by omega) hle
    rcases Nat.eq_zero_or_pos s with q | q
    · subst q; exact absurd s2 s3
    · exact q
  obtain ⟨-, hN, hR, hK, ⟨t0, t1, t2, t3, t4, t5, t6, t7, t8, t9, ta, tb, tc, td, te⟩, hG, hO, ⟨L, L', v1, v2, v3, v4, v5, v6, v7, v8, v9⟩, ⟨Q, q1, q2, q3, q4, q5, q6, q7⟩⟩ := h
  simp (disch := decide) only [Inv, up_row, up_t0, up_t1, up_t2, up_self]
  refine ⟨hW, hN, hR, hK, ⟨t0, t1, t2, t3, t4, t5, t6.upd, t7, t8, t9, ta, fa_upd (P := fun _ y => bd B y ∧ ¬ y = 0) tb ⟨hx, hxz⟩, tc, td, te⟩, hG, hO, ⟨L, L', v1, v2, v3, v4, v5, v6, v7, v8, ?_⟩, ⟨Q, q1, q2, q3, q4, q5, q6, ?_⟩⟩
  · intro k j hk hj q e he ek
    have := v9 k j hk hj q e he ek
    by_cases ej : j = i
    · subst ej
      rw [pk_us]
      exact Int32.lt_of_lt_of_le this hle
    · rw [pk_un ej]
      exact this
  · refine List.Pairwise.imp_of_mem ?_ q7
    intro a b ha hb hab
    have e1 : a ≠ i := fun z => h2 ((q5 i hi).mpr (z ▸ ha))
    have e2 : b ≠ i := fun z => h2 ((q5 i hi).mpr (z ▸ hb))
    rw [pk_un e1, pk_un e2]
    exact hab
-- the sets
theorem row_t {S : St} {i k j l b : Nat} {v : Int32} : up S (b + 3 * i) k v (b + 3 * j) l = if j = i ∧ l = k then v else S (b + 3 * j) l := by
  unfold up
  by_cases e : j = i
  · subst e
    simp
  · rw [if_neg (by omega), if_neg (fun q => e q.1)]
theorem IG.cg {W Bd : Nat} {c c' : Nat → Int32} {d d' : Nat → Nat → Int32} {m m' : Nat → Int32} (h : IG nt W Bd c d m) (e1 : ∀ i k, i < nt → k < W → bt (c' i) k = bt (c i) k) (e2 : ∀ i k, i < nt → k < W → d' i k = d i k) (e3 : ∀ i k, i < nt → k < W → m' (W * i + k) = m (W * i + k)) : IG nt W Bd c' d' m' := by
  intro i hi k hk
  rw [e1 i k hi hk, e2 i k hi hk, e3 i k hi hk]
  exact h i hi k hk
theorem IG.set {W Bd : Nat} {c : Nat → Int32} {d d' : Nat → Nat → Int32} {m : Nat → Int32} (h : IG nt W Bd c d m) {i k : Nat} {v : Int32} (hW : W ≤ 32) (hk : k < W) (hv : bd Bd v) (hd : ∀ j l, d' j l = if j = i ∧ l = k then v else d j l) : IG nt W Bd (upd c i (setb (c i) k)) d' (upd m (W * i + k) v) := by
  intro j hj l hl
  rw [hd j l]
  by_cases e : j = i
  · subst e
    rw [pk_us, bt_setb (by omega) (by omega)]
    by_cases el : l = k
    · subst el
      rw [pk_us, if_pos (show j = j ∧ l = l from ⟨rfl, rfl⟩), if_pos (by simp)]
      exact ⟨rfl, fun _ => hv⟩
    · have e5 : (bt (c j) l || decide (l = k)) = bt (c j) l := by simp [el]
      rw [pk_un (show W * j + l ≠ W * j + k by omega), if_neg (show ¬ (j = j ∧ l = k) from fun q => el q.2), e5]
      exact h j hj l hl
  · have e4 : W * j + l ≠ W * i + k := by
      intro q
      rcases Nat.lt_or_gt_of_ne e with z | z
      · have := Nat.mul_le_mul_left W (show j + 1 ≤ i from z)
        rw [Nat.mul_add] at this
        omega
      · have := Nat.mul_le_mul_left W (show i + 1 ≤ j from z)
        rw [Nat.mul_add] at this
        omega
    rw [pk_un e, pk_un e4, if_neg (show ¬ (j = i ∧ l = k) from fun q => e q.1)]
    exact h j hj l hl
theorem Inv.nread (h : Inv nt B R C M) {i k : Nat} {v : Int32} (hk : k < 32) (hv : bd 1000 v) : Inv nt B R (noteReadS C i k v) (up M 28 (32 * i + k) v) := by
  have hW := WF_up (WF_up h.wf (v := 20) (i := i) (x := setb (C 20 i) k) (by decide)) (v := 50 + 3 * i) (i := k) (x := v) (by omega)
  obtain ⟨-, hN, hR, hK, hT, ⟨g1, g2, g3⟩, hO, hV, hQ⟩ := h
  unfold noteReadS
  have r (w : Nat) (hw : w < 50) : up (up C 20 i (setb (C 20 i) k)) (50 + 3 * i) k v w = up C 20 i (setb (C 20 i) k) w := up_row (by omega)
  have r1 (j : Nat) : up (up C 20 i (setb (C 20 i) k)) (50 + 3 * i) k v (51 + 3 * j) = C (51 + 3 * j) := by rw [up_row (by omega), up_t1 (by decide)]
  have r2 (j : Nat) : up (up C 20 i (setb (C 20 i) k)) (50 + 3 * i) k v (52 + 3 * j) = C (52 + 3 * j) := by rw [up_row (by omega), up_t2 (by decide)]
  simp (disch := decide) only [Inv, r, r1, r2, up_row, up_self]
  refine ⟨hW, hN, hR, hK, hT, ⟨g1.set (by decide) hk hv ?_, g2, g3⟩, hO, hV, hQ⟩
  intro j l
  rw [row_t, up_t0 (by decide)]
theorem Inv.nclock (h : Inv nt B R C M) {i n : Nat} {v : Int32} (hn : n < 4) (hv : bd B v) : Inv nt B R (up (up C 22 i (setb (C 22 i) n)) (52 + 3 * i) n v) (up M 27 (4 * i + n) v) := by
  have hW := WF_up (WF_up h.wf (v := 22) (i := i) (x := setb (C 22 i) n) (by decide)) (v := 52 + 3 * i) (i := n) (x := v) (by omega)
  obtain ⟨-, hN, hR, hK, hT, ⟨g1, g2, g3⟩, hO, hV, hQ⟩ := h
  have r (w : Nat) (hw : w < 50) : up (up C 22 i (setb (C 22 i) n)) (52 + 3 * i) n v w = up C 22 i (setb (C 22 i) n) w := up_row (by omega)
  have r1 (j : Nat) : up (up C 22 i (setb (C 22 i) n)) (52 + 3 * i) n v (51 + 3 * j) = C (51 + 3 * j) := by rw [up_row (by omega), up_t1 (by decide)]
  have r2 (j : Nat) : up (up C 22 i (setb (C 22 i) n)) (52 + 3 * i) n v (50 + 3 * j) = C (50 + 3 * j) := by rw [up_row (by omega), up_t0 (by decide)]
  simp (disch := decide) only [Inv, r, r1, r2, up_row, up_self]
  refine ⟨hW, hN, hR, hK, hT, ⟨g1, g2, g3.set (by decide) hn hv ?_⟩, hO, hV, hQ⟩
  intro j l
  rw [row_t, up_t2 (by decide)]
/-- a write: who may, with a stamp above the key's versions -/
theorem Inv.write (h : Inv nt B R C M) {i k : Nat} {v : Int32} (hi : i < nt) (hk : k < 32) (hv : bd 1000 v) (hs : ∀ L, RepC L (C 28) (C 29) → C 26 0 = nI L.length → L.length ≤ 1280 → (∀ e ∈ L, okE B e) → L.Pairwise (fun a b => chN a < chN b) → ∀ e ∈ L, e.2.1 = k → nI e.1 < C 17 i) : Inv nt B R (up (up (noteWriteS C i k v) 6 k (nI i)) 7 k 0) (up (up (up (up M 7 k (nI i)) 8 k 0) 9 k v) 29 (32 * i + k) v) := by
  have hn := h.wf.n40
  have htk : tok nt (nI i) := tok_nI hi hn
  have hW := WF_up (WF_up6 (WF_up (WF_up h.wf (v := 21) (i := i) (x := setb (C 21 i) k) (by decide)) (v := 51 + 3 * i) (i := k) (x := v) (by omega)) (i := k) (x := nI i) (Or.inr htk)) (v := 7) (i := k) (x := 0) (by decide)
  obtain ⟨-, hN, hR, ⟨k1, k2, k3, k4, k5⟩, hT, ⟨g1, g2, g3⟩, hO, ⟨L, L', v1, v2, v3, v4, v5, v6, v7, v8, v9⟩, hQ⟩ := h
  unfold noteWriteS
  have r (w : Nat) (hw : w < 50) : up (up C 21 i (setb (C 21 i) k)) (51 + 3 * i) k v w = up C 21 i (setb (C 21 i) k) w := up_row (by omega)
  have r1 (j : Nat) : up (up C 21 i (setb (C 21 i) k)) (51 + 3 * i) k v (50 + 3 * j) = C (50 + 3 * j) := by rw [up_row (by omega), up_t0 (by decide)]
  have r2 (j : Nat) : up (up C 21 i (setb (C 21 i) k)) (51 + 3 * i) k v (52 + 3 * j) = C (52 + 3 * j) := by rw [up_row (by omega), up_t2 (by decide)]
  have hd (j l : Nat) : up (up C 21 i (setb (C 21 i) k)) (51 + 3 * i) k v (51 + 3 * j) l = if j = i ∧ l = k then v else C (51 + 3 * j) l := by rw [row_t, up_t1 (by decide)]
  simp (disch := decide) only [Inv, up_t0, up_t1, up_t2]
  simp (disch := decide) only [r1, r2, up_row, up_self, r]
  refine ⟨hW, hN, hR, ⟨k1.upd, k2.upd, k3, k4, k5⟩, hT, ⟨g1, g2.set (by decide) hk hv hd, g3⟩, ?_, ⟨L, L', v1, v2, v3, v4, v5, v6, v7, v8, ?_⟩, hQ⟩
  · intro l j hl hj q
    show _ ∧ _ = up (up C 21 i (setb (C 21 i) k)) (51 + 3 * i) k v (51 + 3 * j) l
    rw [hd j l]
    by_cases e : l = k
    · subst e
      rw [pk_us] at q
      have e2 : j = i := ((nI_eq (by omega) (by omega)).mp q).symm
      subst e2
      rw [pk_us, pk_us, bt_setb hk hk, if_pos ⟨rfl, rfl⟩]
      simp
    · rw [pk_un e] at q
      have := hO l j hl hj q
      rw [pk_un e, if_neg (fun z => e z.2)]
      refine ⟨?_, this.2⟩
      by_cases e2 : j = i
      · subst e2
        rw [pk_us, bt_setb hk hl, this.1]
        rfl
      · rw [pk_un e2]
        exact this.1
  · intro l j hl hj q e he ek
    by_cases e1 : l = k
    · subst e1
      rw [pk_us] at q
      have e2 : j = i := ((nI_eq (by omega) (by omega)).mp q).symm
      subst e2
      exact hs L v5 v2 v4 v7 v8 e he ek
    · rw [pk_un e1] at q
      exact v9 l j hl hj q e he ek
end INV
