/-! order and judged by the list of the committed -/
section QQ
variable {B nt R : Nat} {C M : St}
def qat (Q : List Nat) (p : Nat) : Int32 := match Q[p]? with
  | none => -1
  | some i => nI i
def qbe (Q : List Nat) (p : Nat) : Int32 := if p = 0 then -1 else qat Q (p - 1)
theorem q_nth {P : Nat → Nat → Prop} {Q : List Nat} (h : Q.Pairwise P) {i j a b : Nat} (ha : Q[i]? = some a) (hb : Q[j]? = some b) (hij : i < j) : P a b := by
  obtain ⟨h1, rfl⟩ := List.getElem?_eq_some_iff.mp ha
  obtain ⟨h2, rfl⟩ := List.getElem?_eq_some_iff.mp hb
  exact List.pairwise_iff_getElem.mp h i j h1 h2 hij
theorem next_ok {Q : List Nat} {N : Nat} (hN : N ≤ 40) (hm : M 16 0 = nI N) (hq : ∀ j, j < N → (M 23 j = 2 ↔ j ∈ Q)) (hb : ∀ j, j ∈ Q → j < N) (hp : Q.Pairwise (fun a b => aP M a b)) {p : Nat} (hpl : p ≤ Q.length) : s_next (qbe Q p) M = qat Q p := by
  have hcn : ∀ c, c < N → (cnd M (qbe Q p) c ↔ ∃ q, p ≤ q ∧ Q[q]? = some c) := by
    intro c hc
    unfold cnd
    rw [hq c hc]
    constructor
    · rintro ⟨h1, h2⟩
      obtain ⟨q, h3⟩ := List.mem_iff_getElem?.mp h1
      refine ⟨q, ?_, h3⟩
      apply Nat.not_lt.mp
      intro z
      have h4 : Q[p - 1]? = some Q[p - 1] := List.getElem?_eq_getElem (by omega)
      have e : qbe Q p = nI Q[p - 1] := by
        unfold qbe qat
        rw [if_neg (by omega), h4]
      have hlt := hb Q[p - 1] (List.getElem_mem _)
      rw [e] at h2
      rcases h2 with h2 | h2
      · exact ne_nI (by omega) h2.symm
      · rw [nI_clamp (by omega)] at h2
        rcases Nat.lt_or_eq_of_le (show q ≤ p - 1 by omega) with y | y
        · exact aP_irr (aP_trans h2 (q_nth hp h3 h4 y))
        · subst y
          rw [h4] at h3
          have := Option.some.inj h3
          rw [this] at h2
          exact aP_irr h2
    · rintro ⟨q, h1, h2⟩
      refine ⟨List.mem_of_getElem? h2, ?_⟩
      by_cases hp0 : p = 0
      · left
        unfold qbe
        rw [if_pos hp0]
      · right
        have h4 : Q[p - 1]? = some Q[p - 1] := List.getElem?_eq_getElem (by omega)
        have e : qbe Q p = nI Q[p - 1] := by
          unfold qbe qat
          rw [if_neg hp0, h4]
        have hlt := hb Q[p - 1] (List.getElem_mem _)
        rw [e, nI_clamp (by omega)]
        exact q_nth hp h4 h2 (by omega)
  unfold s_next
  rw [hm, nI_clamp (by omega)]
  rcases nx4_ok (M := M) (last := qbe Q p) N 0 (-1) (by omega) (Or.inl rfl) with ⟨h1, h2, h3⟩ | ⟨j, h1, h2, h3, h4, h5⟩
  · rw [h1]
    unfold qat
    cases e : Q[p]? with
    | none => rfl
    | some c =>
      have hc := hb c (List.mem_of_getElem? e)
      exact absurd ((hcn c hc).mpr ⟨p, Nat.le_refl _, e⟩) (h3 c (by omega) (by omega))
  · rw [h2]
    have h6 : j < N ∧ cnd M (qbe Q p) j := by
      rcases h3 with h3 | h3
      · exact absurd h3 (ne_nI (by omega))
      · exact ⟨by omega, h3.2.2⟩
    obtain ⟨q, h7, h8⟩ := (hcn j h6.1).mp h6.2
    have hpl2 : p < Q.length := by
      have := (List.getElem?_eq_some_iff.mp h8).1
      omega
    have h9 : Q[p]? = some Q[p] := List.getElem?_eq_getElem hpl2
    have hc := hb Q[p] (List.getElem_mem _)
    have h10 := h4 Q[p] (by omega) (by omega) ((hcn _ hc).mpr ⟨p, Nat.le_refl _, h9⟩)
    unfold qat
    rw [h9]
    rcases Nat.lt_or_eq_of_le h7 with y | y
    · exact absurd (q_nth hp h9 h8 y) h10
    · subst y
      rw [h9] at h8
      have := Option.some.inj h8
      rw [this]
theorem Inv.qq (h : Inv nt B R C M) : ∃ Q : List Nat, Q.length ≤ 40 ∧ C 31 0 = nI Q.length ∧ M 26 0 = nI Q.length ∧ (∀ p i, Q[p]? = some i → C 30 p = nI i) ∧ (∀ j, j < nt → (M 23 j = 2 ↔ j ∈ Q)) ∧ (∀ j, j ∈ Q → j < nt) ∧ Q.Pairwise (fun a b => aP M a b) := by
  obtain ⟨Q, q1, q2, q3, q4, q5, q6, q7⟩ := h.q
  obtain ⟨t0, t1, t2, t3, t4, t5, t6, t7, t8, t9, ta, tb, tc, td, te⟩ := h.t
  refine ⟨Q, q1, q2, q3, q4, fun j hj => by rw [← t4 j hj]; exact q5 j hj, fun j hj => (q6 j hj).1, ?_⟩
  refine List.Pairwise.imp_of_mem ?_ q7
  intro a b ha hb hab
  show aP M a b
  unfold aP
  rw [← t6 a (q6 a ha).1, ← t6 b (q6 b hb).1]
  exact hab
theorem ord32 {Q : List Nat} {N x : Nat} (hN : N ≤ 40) (hm : M 16 0 = nI N) (h31 : M 31 0 = 0) (hq : ∀ j, j < N → (M 23 j = 2 ↔ j ∈ Q)) (hb : ∀ j, j ∈ Q → j < N) (hp : Q.Pairwise (fun a b => aP M a b)) : ∀ (n i p : Nat), p + n = x → p ≤ Q.length → (s_order_32 (nI x) n (qat Q p) i M).1 = qat Q x ∧ (s_order_32 (nI x) n (qat Q p) i M).2 = M
  | 0, i, p, h, hpl => by
    unfold s_order_32
    rw [if_pos h31]
    have : p = x := by omega
    subst this
    exact ⟨rfl, rfl⟩
  | n + 1, i, p, h, hpl => by
    unfold s_order_32
    rcases Nat.lt_or_eq_of_le hpl with y | y
    · have h9 : Q[p]? = some Q[p] := List.getElem?_eq_getElem y
      have hc := hb Q[p] (List.getElem_mem _)
      have e : qat Q p = qbe Q (p + 1) := by
        unfold qbe
        rw [if_neg (by omega), Nat.add_sub_cancel]
      have e2 : ¬ qat Q p = (-1 : Int32) := by
        unfold qat
        rw [h9]
        exact fun z => ne_nI (show Q[p] < 2 ^ 31 by omega) z.symm
      rw [if_neg e2, e, next_ok hN hm hq hb hp (by omega)]
      exact ord32 hN hm h31 hq hb hp n (i + 1) (p + 1) (by omega) (by omega)
    · have e2 : qat Q p = (-1 : Int32) := by
        unfold qat
        rw [List.getElem?_eq_none (by omega)]
      rw [if_pos e2, if_pos h31, e2]
      refine ⟨?_, rfl⟩
      unfold qat
      rw [List.getElem?_eq_none (by omega)]
theorem Inv.order (h : Inv nt B R C M) (h31 : M 31 0 = 0) {x : Nat} (hx : x < 2 ^ 31) : (s_order_32 (nI x) x (s_next (-1) M) 0 M).1 = orS C (nI x) ∧ (s_order_32 (nI x) x (s_next (-1) M) 0 M).2 = M := by
  obtain ⟨Q, q1, q2, q3, q4, q5, q6, q7⟩ := h.qq
  have hn := h.wf.n40
  have hm := h.t.1
  have e := next_ok hn hm q5 q6 q7 (Nat.zero_le Q.length)
  rw [show qbe Q 0 = -1 from rfl] at e
  rw [e]
  obtain ⟨o1, o2⟩ := ord32 (x := x) hn hm h31 q5 q6 q7 x 0 0 (by omega) (by omega)
  refine ⟨?_, o2⟩
  rw [o1]
  unfold orS coA qat
  rw [q2, nI_clamp hx]
  rcases Nat.lt_or_ge x Q.length with y | y
  · have h9 : Q[x]? = some Q[x] := List.getElem?_eq_getElem y
    have hc := q6 Q[x] (List.getElem_mem _)
    rw [h9, if_neg (nI_ge y (by omega)), q4 x _ h9, if_neg (nI_pos (by omega)), nI_clamp (by omega), h.t.2.2.2.2.2.2.2.2.2.1 _ hc]
  · rw [List.getElem?_eq_none y, if_pos (nI_le y hx), if_pos (by decide)]
-- judged
theorem rdN_ok (h : Inv nt B R C M) {t : Nat} (ht : t < nt) (h0 : ∀ k, k < 32 → C 32 k = M 30 k) : ∀ (n i : Nat) (a : Int32), i + n = 32 → ∀ b, s_judged_43 n (b + a) (nI t) i M = b + rdN C t n i a
  | 0, i, a, _, b => rfl
  | n + 1, i, a, hi, b => by
    have hn := h.wf.n40
    have g := (h.rd t ht i (by omega)).1
    have hv := (h.rd t ht i (by omega)).2
    unfold s_judged_43 rdN
    rw [nI_clamp (by omega), g, ← h0 i (by omega)]
    by_cases q : bt (C 20 t) i = true
    · have hv := hv q
      rw [if_pos q, if_neg (bd_m1 hv (by decide))]
      rw [show bI (bt (C 20 t) i) = 1 by rw [q]; rfl, if_neg (show ¬ (1 : Int32) = 0 by decide)]
      by_cases q2 : C (50 + 3 * t) i = C 32 i
      · rw [if_pos q2, if_pos q2, Int32.add_zero]
        exact rdN_ok h ht h0 n (i + 1) a (by omega) b
      · rw [if_neg q2, if_neg q2, Int32.add_assoc]
        exact rdN_ok h ht h0 n (i + 1) (a + 1) (by omega) b
    · rw [if_neg q, if_pos rfl, Int32.add_zero]
      rw [show bI (bt (C 20 t) i) = 0 by rw [Bool.eq_false_iff.mpr q]; rfl, if_pos rfl]
      exact rdN_ok h ht h0 n (i + 1) a (by omega) b
theorem rdC_ok {t : Nat} (ht : t < nt) {c : Int32} : ∀ (n i : Nat) (C M : St), i + n = 32 → Inv nt B R C M → (∀ k, k < 32 → C 32 k = M 30 k) → Inv nt B R (rdC t n i C) (s_judged_100 n c (nI t) i M) ∧ (∀ k, k < 32 → rdC t n i C 32 k = s_judged_100 n c (nI t) i M 30 k) ∧ (∀ w, w ≠ 30 → s_judged_100 n c (nI t) i M w = M w) ∧ (∀ w, w ≠ 32 → rdC t n i C w = C w)
  | 0, i, C, M, _, h, h0 => ⟨h, h0, fun _ _ => rfl, fun _ _ => rfl⟩
  | n + 1, i, C, M, hi, h, h0 => by
    have hn := h.wf.n40
    have g := (h.wr t ht i (by omega)).1
    have hv := (h.wr t ht i (by omega)).2
    unfold s_judged_100 rdC
    rw [nI_clamp (by omega), g]
    have step : ∀ x, Inv nt B R (up C 32 i x) (up M 30 i x) ∧ ∀ k, k < 32 → up C 32 i x 32 k = up M 30 i x 30 k := by
      intro x
      refine ⟨h.c32.m30, fun k hk => ?_⟩
      rw [up_self, up_self]
      by_cases e : k = i
      · subst e; rw [pk_us, pk_us]
      · rw [pk_un e, pk_un e]; exact h0 k hk
    by_cases q : bt (C 21 t) i = true
    · have hv := hv q
      rw [if_pos q, if_neg (bd_m1 hv (by decide))]
      rw [show bI (bt (C 21 t) i) = 1 by rw [q]; rfl, if_neg (show ¬ (1 : Int32) = 0 by decide)]
      obtain ⟨r1, r2, r3, r4⟩ := rdC_ok ht (c := c) n (i + 1) (up C 32 i (C (51 + 3 * t) i)) (up M 30 i (C (51 + 3 * t) i)) (by omega) (step _).1 (step _).2
      exact ⟨r1, r2, fun w hw => by rw [r3 w hw, up_row hw], fun w hw => by rw [r4 w hw, up_row hw]⟩
    · rw [if_neg q, if_pos rfl, up_id]
      rw [show bI (bt (C 21 t) i) = 0 by rw [Bool.eq_false_iff.mpr q]; rfl, if_pos rfl]
      exact rdC_ok ht n (i + 1) C M (by omega) h h0
theorem fil_ok : ∀ (n i : Nat) (C M : St), i + n = 32 → Inv nt B R C M → (∀ k, k < i → C 32 k = M 30 k) → Inv nt B R (fillS 1000 n i C) (s_judged_7 n i M) ∧ (∀ k, k < 32 → fillS 1000 n i C 32 k = s_judged_7 n i M 30 k) ∧ (∀ w, w ≠ 30 → s_judged_7 n i M w = M w) ∧ (∀ w, w ≠ 32 → fillS 1000 n i C w = C w)
  | 0, i, C, M, hi, h, h0 => ⟨h, fun k hk => h0 k (by omega), fun _ _ => rfl, fun _ _ => rfl⟩
  | n + 1, i, C, M, hi, h, h0 => by
    unfold s_judged_7 fillS
    obtain ⟨r1, r2, r3, r4⟩ := fil_ok n (i + 1) (up C 32 i 1000) (up M 30 i 1000) (by omega) h.c32.m30 (fun k hk => by
      rw [up_self, up_self]
      by_cases e : k = i
      · subst e; rw [pk_us, pk_us]
      · rw [pk_un e, pk_un e]; exact h0 k (by omega))
    exact ⟨r1, r2, fun w hw => by rw [r3 w hw, up_row hw], fun w hw => by rw [r4 w hw, up_row hw]⟩
theorem jd36_ok {Q : List Nat} (hN : nt ≤ 40) (hb : ∀ j, j ∈ Q → j < nt) (hl : Q.length ≤ 40) : ∀ (n f i : Nat) (a : Int32) (C M : St), i + n = Q.length → n < f → Inv nt B R C M → (∀ k, k < 32 → C 32 k = M 30 k) → (∀ p i, Q[p]? = some i → C 30 p = nI i) → (∀ j, j < nt → (M 23 j = 2 ↔ j ∈ Q)) → Q.Pairwise (fun a b => aP M a b) → (s_judged_36 f a (qat Q i) M).1 = (cuS n i a C).1 ∧ Inv nt B R (cuS n i a C).2 (s_judged_36 f a (qat Q i) M).2 ∧ (∀ w, w ≠ 30 → (s_judged_36 f a (qat Q i) M).2 w = M w)
  | 0, f, i, a, C, M, hi, hf, h, h0, h30, hq, hp => by
    obtain ⟨f, rfl⟩ : ∃ f', f = f' + 1 := ⟨f - 1, by omega⟩
    have e2 : qat Q i = (-1 : Int32) := by
      unfold qat
      rw [List.getElem?_eq_none (by omega)]
    unfold s_judged_36 cuS
    rw [if_pos e2]
    exact ⟨rfl, h, fun _ _ => rfl⟩
  | n + 1, f, i, a, C, M, hi, hf, h, h0, h30, hq, hp => by
    obtain ⟨f, rfl⟩ : ∃ f', f = f' + 1 := ⟨f - 1, by omega⟩
    have h9 : Q[i]? = some Q[i] := List.getElem?_eq_getElem (by omega)
    have hc := hb Q[i] (List.getElem_mem _)
    have e1 : qat Q i = nI Q[i] := by
      unfold qat
      rw [h9]
    have e2 : ¬ qat Q i = (-1 : Int32) := by
      rw [e1]
      exact fun z => ne_nI (show Q[i] < 2 ^ 31 by omega) z.symm
    unfold s_judged_36 cuS
    rw [if_neg e2, h30 i _ h9, nI_clamp (by omega), e1]
    have ej : s_judged_43 32 a (nI Q[i]) 0 M = a + rdN C Q[i] 32 0 0 := by
      have := rdN_ok h hc h0 32 0 0 (by omega) a
      rw [Int32.add_zero] at this
      exact this
    rw [ej]
    obtain ⟨r1, r2, r3, r4⟩ := rdC_ok hc (c := a + rdN C Q[i] 32 0 0) 32 0 C M (by omega) h h0
    generalize s_judged_100 32 (a + rdN C Q[i] 32 0 0) (nI Q[i]) 0 M = M1 at r1 r2 r3
    generalize rdC Q[i] 32 0 C = C1 at r1 r2 r4
    have hq1 : ∀ j, j < nt → (M1 23 j = 2 ↔ j ∈ Q) := by rw [r3 23 (by decide)]; exact hq
    have hp1 : Q.Pairwise (fun a b => aP M1 a b) := by
      unfold aP
      rw [r3 20 (by decide), r3 25 (by decide)]
      exact hp
    have en : s_next (nI Q[i]) M1 = qat Q (i + 1) := by
      have := next_ok hN r1.t.1 hq1 hb hp1 (p := i + 1) (by omega)
      rw [← this]
      unfold qbe
      rw [if_neg (by omega), Nat.add_sub_cancel, e1]
    rw [en]
    obtain ⟨s1, s2, s3⟩ := jd36_ok hN hb hl n f (i + 1) (a + rdN C Q[i] 32 0 0) C1 M1 (by omega) (by omega) r1 r2 (by rw [r4 30 (by decide)]; exact h30) hq1 hp1
    exact ⟨s1, s2, fun w hw => by rw [s3 w hw, r3 w hw]⟩
theorem Inv.judged (h : Inv nt B R C M) : (s_judged M).1 = (cuS (km C) 0 0 (fillS 1000 32 0 C)).1 ∧ Inv nt B R (cuS (km C) 0 0 (fillS 1000 32 0 C)).2 (s_judged M).2 ∧ (s_judged M).2 31 0 = 0 := by
  have hM : Inv nt B R C (up M 31 0 0) := h.m31
  obtain ⟨r1, r2, r3, r4⟩ := fil_ok 32 0 C (up M 31 0 0) (by omega) hM (fun k hk => by omega)
  unfold s_judged
  generalize hMM : s_judged_7 32 0 (up M 31 0 0) = M1 at r1 r2 r3
  generalize fillS 1000 32 0 C = C1 at r1 r2 r4
  obtain ⟨Q, q1, q2, q3, q4, q5, q6, q7⟩ := r1.qq
  have hn := h.wf.n40
  have e := next_ok hn r1.t.1 q5 q6 q7 (Nat.zero_le Q.length)
  rw [show qbe Q 0 = -1 from rfl] at e
  rw [e]
  have ek : km C = Q.length := by
    unfold km
    rw [← r4 31 (by decide), q2, nI_clamp (by omega)]
  rw [ek]
  obtain ⟨s1, s2, s3⟩ := jd36_ok hn q6 q1 Q.length 41 0 0 C1 M1 (by omega) (by omega) r1 r2 q4 q5 q7
  refine ⟨s1, s2, ?_⟩
  rw [s3 31 (by decide), r3 31 (by decide), up_eq]
end QQ
