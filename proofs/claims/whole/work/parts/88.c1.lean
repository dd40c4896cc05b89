/-! a new transaction keeps the relation -/
theorem eqn_s {nt : Nat} {f g f' g' : Nat → Int32} (h : EqN nt f g) (h1 : ∀ i, i ≠ nt → f' i = f i) (h2 : ∀ i, i ≠ nt → g' i = g i) (h3 : f' nt = g' nt) : EqN (nt + 1) f' g' := by
  intro i hi
  by_cases e : i = nt
  · rw [e]; exact h3
  · rw [h1 i e, h2 i e]; exact h i (by omega)
theorem ct2_fr {C C' : St} : ∀ {n : Nat}, (∀ i, i < n → C' 15 i = C 15 i) → ct2 C' n = ct2 C n
  | 0, _ => rfl
  | n + 1, h => by
    unfold ct2
    rw [ct2_fr (fun i hi => h i (by omega)), h n (by omega)]
theorem trv_s {nt : Nat} {x : Int32} (h : trv nt x) : trv (nt + 1) x := h.imp id (fun z => ⟨z.1, Nat.lt_succ_of_lt z.2⟩)
theorem bt_0 (k : Nat) : bt 0 k = false := by
  unfold bt
  show (0 : BitVec 32).getLsbD k = false
  simp
theorem IG_fr {nt W Bd : Nat} {c c' : Nat → Int32} {d d' : Nat → Nat → Int32} {m m' : Nat → Int32} (h : IG nt W Bd c d m) (h1 : ∀ i, i ≠ nt → c' i = c i) (h2 : c' nt = 0) (h3 : ∀ i, i ≠ nt → d' i = d i) (h4 : ∀ l, m' l = if W * nt ≤ l ∧ l < W * nt + W then -1 else m l) : IG (nt + 1) W Bd c' d' m' := by
  intro i hi k hk
  by_cases e : i = nt
  · rw [e, h2, bt_0, h4, if_pos (by omega)]
    exact ⟨rfl, fun z => by cases z⟩
  · have hi' : i < nt := by omega
    have hw : W * i + W ≤ W * nt := by
      have := Nat.mul_le_mul_left W (show i + 1 ≤ nt by omega)
      rw [Nat.mul_add, Nat.mul_one] at this
      exact this
    rw [h1 i e, h3 i e, h4, if_neg (by omega)]
    exact h i hi' k hk
section FRESH
variable {nt B R : Nat} {C1 Ma C' M' : St}
theorem Inv.fresh (H : Inv nt B R C1 Ma) (hn : nt < 40) {c : Nat} (hc : c < 4) {x st T : Int32} (hst : bd B st) (hst0 : ¬ st = 0) (hB : B < 2 ^ 30)
    (c10 : C' 10 0 = nI (nt + 1)) (cE : ∀ w, w < 10 ∨ 22 < w ∧ w < 50 ∧ w ≠ 30 ∧ w ≠ 33 → C' w = C1 w) (c30 : C' 30 = nrm nt 0 (C1 30)) (c33 : C' 33 = upd (nrm nt 40 (C1 33)) nt (nI nt))
    (cN : ∀ w i, 11 ≤ w → w ≤ 22 → i ≠ nt → C' w i = C1 w i) (cT : C' 11 nt = nI nt ∧ C' 12 nt = nI c ∧ C' 13 nt = x ∧ C' 14 nt = st + 100 ∧ C' 15 nt = 0 ∧ C' 16 nt = st ∧ C' 17 nt = st ∧ C' 18 nt = T ∧ C' 19 nt = -1 ∧ C' 20 nt = 0 ∧ C' 21 nt = 0 ∧ C' 22 nt = 0) (cH : ∀ i q, i ≠ nt → q < 3 → C' (50 + q + 3 * i) = C1 (50 + q + 3 * i))
    (mE : ∀ w, w < 16 ∨ 24 < w ∧ w ≠ 27 ∧ w ≠ 28 ∧ w ≠ 29 → M' w = Ma w) (m16 : M' 16 0 = nI (nt + 1)) (mN : ∀ w i, 17 ≤ w → w ≤ 24 → i ≠ nt → M' w i = Ma w i) (mT : M' 17 nt = nI c ∧ M' 18 nt = x ∧ M' 19 nt = st ∧ M' 20 nt = st ∧ M' 21 nt = st + 100 ∧ M' 22 nt = T ∧ M' 23 nt = 0 ∧ M' 24 nt = -1)
    (m27 : ∀ l, M' 27 l = if 4 * nt ≤ l ∧ l < 4 * nt + 4 then -1 else Ma 27 l) (m28 : ∀ l, M' 28 l = if 32 * nt ≤ l ∧ l < 32 * nt + 32 then -1 else Ma 28 l) (m29 : ∀ l, M' 29 l = if 32 * nt ≤ l ∧ l < 32 * nt + 32 then -1 else Ma 29 l) : Inv (nt + 1) B R C' M' := by
  obtain ⟨⟨w1, w2, w3, w4, w5, w6, w7, cc, kk, p1, p2, p3, p4, p5, p6, p7, p8, p9⟩, hN, hR, hK, ⟨t0, t1, t2, t3, t4, t5, t6, t7, t8, t9, ta, tb, tc, td, te⟩, ⟨g1, g2, g3⟩, hO, ⟨L, L', v1, v2, v3, v4, v5, v6, v7, v8, v9⟩, ⟨Q, q1, q2, q3, q4, q5, q6, q7⟩⟩ := H
  obtain ⟨y11, y12, y13, y14, y15, y16, y17, y18, y19, y20, y21, y22⟩ := cT
  obtain ⟨z17, z18, z19, z20, z21, z22, z23, z24⟩ := mT
  have ecap : cap C' = cap C1 := by unfold cap; rw [cE 27 (by omega)]
  have ecapv : capv C' = capv C1 := by unfold capv; rw [cE 34 (by omega)]
  have h6n : ∀ k i, k < 32 → i < nt + 1 → C1 6 k = nI i → i < nt := by
    intro k i hk hi e
    have := w5 k hk
    rw [e] at this
    rcases this with z | z
    · exact absurd z (bd_m1 (bd_nI (Nat.le_refl i)) (by omega))
    · have := z.2
      rw [nI_clamp (by omega)] at this
      exact this
  have n30 : ∀ q, tok nt (C1 30 q) → C' 30 q = C1 30 q := by
    intro q hq
    rw [c30]
    unfold nrm
    rw [if_pos (Or.inr hq.2)]
  have hQn : ∀ i, i ∈ Q → i < nt := fun i hi => (q6 i hi).1
  refine ⟨⟨by omega, c10, fun i hi => ?_, fun i hi => ?_, fun k hk => ?_, fun k hk => ?_, fun i hi => ?_, cc, kk, ?_, ?_, p3, ?_, ?_, ?_, ?_, ?_, fun q hq => ?_⟩, ?_, ?_, ?_, ⟨m16, ?_, ?_, ?_, ?_, ?_, ?_, ?_, ?_, fun i hi => ?_, fun i hi => ?_, fun i hi => ?_, fun i hi => ?_, fun i hi => ?_, fun i hi => ?_⟩, ⟨?_, ?_, ?_⟩, ?_, ⟨L, L', v1, ?_, ?_, v4, ?_, ?_, v7, v8, fun k i hk hi e => ?_⟩, ⟨Q, q1, ?_, ?_, fun p i hp => ?_, fun i hi => ?_, fun i hi => ?_, ?_⟩⟩
  · rw [c33]
    unfold upd
    by_cases e : i = nt
    · rw [if_pos e, e]
    · rw [if_neg e]
      unfold nrm
      rw [w3 i (by omega), if_pos (Or.inr (by rw [nI_clamp (by omega)]; omega))]
  · by_cases e : i = nt
    · rw [e, y19]; exact Or.inl rfl
    · rw [cN 19 i (by omega) (by omega) e]
      exact trv_s (w4 i (by omega))
  · rw [cE 6 (by omega)]; exact trv_s (w5 k hk)
  · rw [cE 4 (by omega)]; exact w6 k hk
  · by_cases e : i = nt
    · rw [e, y12]; exact vp_in_nI hc (by decide)
    · rw [cN 12 i (by omega) (by omega) e]
      exact w7 i (by omega)
  · rw [cE 26 (by omega)]; exact p1
  · rw [cE 31 (by omega)]; exact p2
  · rw [show ct2 C' (nt + 1) = ct2 C' nt + (if C' 15 nt = 2 then 1 else 0) from rfl, y15, if_neg (by decide), ct2_fr (C := C1) (fun i hi => cN 15 i (by omega) (by omega) (by omega))]
    exact p4
  · rw [ecap]; exact p5
  · rw [ecap, ecapv]; exact p6
  · rw [ecap]; exact p7
  · rw [ecap]; exact p8
  · rw [n30 q (p9 q hq)]
    exact ⟨(p9 q hq).1, Nat.lt_succ_of_lt (p9 q hq).2⟩
  · rw [cE 0 (by omega), cE 1 (by omega), cE 2 (by omega), cE 3 (by omega), mE 0 (by omega), mE 1 (by omega), mE 2 (by omega), mE 3 (by omega)]; exact hN
  · rw [cE 4 (by omega), cE 5 (by omega), mE 4 (by omega), mE 5 (by omega), mE 6 (by omega)]; exact hR
  · rw [cE 6 (by omega), cE 7 (by omega), cE 8 (by omega), cE 9 (by omega), mE 7 (by omega), mE 8 (by omega), mE 10 (by omega), mE 11 (by omega)]; exact hK
  · exact eqn_s t1 (fun i e => cN 12 i (by omega) (by omega) e) (fun i e => mN 17 i (by omega) (by omega) e) (by rw [y12, z17])
  · exact eqn_s t2 (fun i e => cN 13 i (by omega) (by omega) e) (fun i e => mN 18 i (by omega) (by omega) e) (by rw [y13, z18])
  · exact eqn_s t3 (fun i e => cN 14 i (by omega) (by omega) e) (fun i e => mN 21 i (by omega) (by omega) e) (by rw [y14, z21])
  · exact eqn_s t4 (fun i e => cN 15 i (by omega) (by omega) e) (fun i e => mN 23 i (by omega) (by omega) e) (by rw [y15, z23])
  · exact eqn_s t5 (fun i e => cN 16 i (by omega) (by omega) e) (fun i e => mN 19 i (by omega) (by omega) e) (by rw [y16, z19])
  · exact eqn_s t6 (fun i e => cN 17 i (by omega) (by omega) e) (fun i e => mN 20 i (by omega) (by omega) e) (by rw [y17, z20])
  · exact eqn_s t7 (fun i e => cN 18 i (by omega) (by omega) e) (fun i e => mN 22 i (by omega) (by omega) e) (by rw [y18, z22])
  · exact eqn_s t8 (fun i e => cN 19 i (by omega) (by omega) e) (fun i e => mN 24 i (by omega) (by omega) e) (by rw [y19, z24])
  · by_cases e : i = nt
    · rw [e, y11]
    · rw [cN 11 i (by omega) (by omega) e]; exact t9 i (by omega)
  · by_cases e : i = nt
    · rw [e, y16]; exact hst
    · rw [cN 16 i (by omega) (by omega) e]; exact ta i (by omega)
  · by_cases e : i = nt
    · rw [e, y17]; exact ⟨hst, hst0⟩
    · rw [cN 17 i (by omega) (by omega) e]; exact tb i (by omega)
  · by_cases e : i = nt
    · rw [e, y14]
      obtain ⟨s, s1, s2⟩ := hst
      exact ⟨s + 100, by omega, by rw [s2]; exact nI_add s 100⟩
    · rw [cN 14 i (by omega) (by omega) e]; exact tc i (by omega)
  · by_cases e : i = nt
    · rw [e, z24]; exact fun z => absurd rfl z
    · rw [mN 24 i (by omega) (by omega) e]; exact td i hi
  · by_cases e : i = nt
    · rw [e, z17]; exact vp_in_nI hc (by decide)
    · rw [mN 17 i (by omega) (by omega) e]; exact te i hi
  · exact IG_fr g1 (fun i e => cN 20 i (by omega) (by omega) e) y20 (fun i e => cH i 0 e (by omega)) m28
  · exact IG_fr g2 (fun i e => cN 21 i (by omega) (by omega) e) y21 (fun i e => cH i 1 e (by omega)) m29
  · exact IG_fr g3 (fun i e => cN 22 i (by omega) (by omega) e) y22 (fun i e => cH i 2 e (by omega)) m27
  · intro k i hk hi e
    rw [cE 6 (by omega)] at e
    have hi' := h6n k i hk hi e
    have q := hO k i hk hi' e
    rw [cN 21 i (by omega) (by omega) (by omega), mE 9 (by omega)]
    show bt (C1 21 i) k = true ∧ Ma 9 k = C' (51 + 3 * i) k
    rw [show C' (51 + 3 * i) = C1 (51 + 3 * i) from cH i 1 (by omega) (by omega)]
    exact q
  · rw [cE 26 (by omega)]; exact v2
  · rw [mE 12 (by omega)]; exact v3
  · rw [cE 28 (by omega), cE 29 (by omega)]; exact v5
  · rw [mE 13 (by omega), mE 14 (by omega), mE 15 (by omega)]; exact v6
  · rw [cE 6 (by omega)] at e
    have hi' := h6n k i hk hi e
    rw [cN 17 i (by omega) (by omega) (by omega)]
    exact v9 k i hk hi' e
  · rw [cE 31 (by omega)]; exact q2
  · rw [mE 26 (by omega)]; exact q3
  · have e1 := q4 p i hp
    have hi := hQn i (List.mem_of_getElem? hp)
    rw [n30 p (by rw [e1]; exact tok_nI hi w1)]
    exact e1
  · by_cases e : i = nt
    · rw [e, y15]
      exact ⟨fun z => absurd z (by decide), fun z => absurd (hQn nt z) (by omega)⟩
    · rw [cN 15 i (by omega) (by omega) e]
      exact q5 i (by omega)
  · obtain ⟨u1, a, u2, u3⟩ := q6 i hi
    exact ⟨by omega, a, u2, by rw [mE 25 (by omega)]; exact u3⟩
  · refine q7.imp_of_mem (fun {a b} ha hb z => ?_)
    have e1 := hQn a ha
    have e2 := hQn b hb
    rw [cN 17 a (by omega) (by omega) (by omega), cN 17 b (by omega) (by omega) (by omega), mE 25 (by omega)]
    exact z
end FRESH
