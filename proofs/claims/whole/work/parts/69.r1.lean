/-! waiting and refreshing: both sides; what the steps keep -/
section WAI
variable {nt B R : Nat} {C M : St}
theorem Inv.wfr (h : Inv nt B R C M) {i : Nat} (hi : i < nt) : s_waitsFor i M = wfS C i := by
  obtain ⟨t0, t1, t2, t3, t4, t5, t6, t7, t8, t9, ta, tb, tc, td, te⟩ := h.t
  unfold s_waitsFor wfS
  rw [← t4 i hi, ← t8 i hi]
  by_cases q1 : C 15 i = 0
  · rw [if_pos q1]
    rcases h.wf.aw i hi with q2 | q2
    · rw [if_pos q2, if_neg (fun z => z.2.1 (by rw [q2]; decide))]
    · have q3 : ¬ C 19 i = -1 := fun z => q2.1 (by rw [z]; decide)
      rw [if_neg q3, ← t4 _ q2.2]
      by_cases q4 : C 15 (C 19 i).toNatClampNeg = 0
      · rw [if_pos q4, if_pos ⟨q1, q2.1, q4⟩]
      · rw [if_neg q4, if_neg (fun z => q4 z.2.2)]
  · rw [if_neg q1, if_neg (fun z => q1 z.1)]
theorem rk_eq (h : Inv nt B R C M) {z v : Int32} (hz : tok nt z) (hv : tok nt v) {α : Type} {a b : α} : (if M 18 z.toNatClampNeg < M 18 v.toNatClampNeg then a else if M 18 z.toNatClampNeg = M 18 v.toNatClampNeg then (if z ≤ v then b else a) else b) = if ybB C z.toNatClampNeg v.toNatClampNeg = 0 then b else a := by
  obtain ⟨t0, t1, t2, t3, t4, t5, t6, t7, t8, t9, ta, tb, tc, td, te⟩ := h.t
  unfold ybB
  rw [← t2 _ hz.2, ← t2 _ hv.2, t9 _ hz.2, t9 _ hv.2, nI_self hz.1, nI_self hv.1]
  by_cases q1 : C 13 z.toNatClampNeg < C 13 v.toNatClampNeg
  · rw [if_pos q1, if_pos q1, if_neg (by decide)]
  · rw [if_neg q1, if_neg q1]
    by_cases q2 : C 13 z.toNatClampNeg = C 13 v.toNatClampNeg
    · rw [if_pos q2, if_pos q2]
      by_cases q3 : z ≤ v
      · rw [if_pos q3, if_pos q3, if_pos rfl]
      · rw [if_neg q3, if_neg q3, if_neg (by decide)]
    · rw [if_neg q2, if_neg q2, if_pos rfl]
/-- the end of the model's look for a ring -/
def caE (t : Nat) (v z : Int32) (M : St) : Int32 × St := if z = nI t then (if v = nI t then ((0 : Int32), (up (up M 23 v.toNatClampNeg (3 : Int32)) 24 t (-1 : Int32))) else ((1 : Int32), (up (up M 23 v.toNatClampNeg (3 : Int32)) 24 t (-1 : Int32)))) else ((0 : Int32), M)
theorem ca15_0 {t i : Nat} {u v z : Int32} : s_comesAnew_15 t u 0 v z i M = caE t v z M := by
  unfold s_comesAnew_15 caE
  by_cases q : z = -1
  · rw [if_pos q]
  · rw [if_neg q]
    by_cases q2 : z = nI t
    · rw [if_pos q2, if_pos q2]
    · rw [if_neg q2, if_neg q2]
theorem ca15_s {t i n : Nat} {u v z : Int32} : s_comesAnew_15 t u (n + 1) v z i M = if z = -1 ∨ z = nI t then caE t v z M else s_comesAnew_15 t u n (if M 18 z.toNatClampNeg < M 18 v.toNatClampNeg then z else if M 18 z.toNatClampNeg = M 18 v.toNatClampNeg then (if z ≤ v then v else z) else v) (s_waitsFor z.toNatClampNeg M) (i + 1) M := by
  rw [show s_comesAnew_15 t u (n + 1) v z i M = (if z = (-1 : Int32) then (if z = (nI t) then (if v = (nI t) then ((0 : Int32), (up (up M 23 v.toNatClampNeg (3 : Int32)) 24 t (-1 : Int32))) else ((1 : Int32), (up (up M 23 v.toNatClampNeg (3 : Int32)) 24 t (-1 : Int32)))) else ((0 : Int32), M)) else (if z = (nI t) then (if z = (nI t) then (if v = (nI t) then ((0 : Int32), (up (up M 23 v.toNatClampNeg (3 : Int32)) 24 t (-1 : Int32))) else ((1 : Int32), (up (up M 23 v.toNatClampNeg (3 : Int32)) 24 t (-1 : Int32)))) else ((0 : Int32), M)) else (if (M 18 z.toNatClampNeg) < (M 18 v.toNatClampNeg) then (s_comesAnew_15 t u n z (s_waitsFor z.toNatClampNeg M) (i + 1) M) else (if (M 18 z.toNatClampNeg) = (M 18 v.toNatClampNeg) then (if z ≤ v then (s_comesAnew_15 t u n v (s_waitsFor z.toNatClampNeg M) (i + 1) M) else (s_comesAnew_15 t u n z (s_waitsFor z.toNatClampNeg M) (i + 1) M)) else (s_comesAnew_15 t u n v (s_waitsFor z.toNatClampNeg M) (i + 1) M))))) from rfl]
  unfold caE
  by_cases q1 : z = -1
  · rw [if_pos q1, if_pos (Or.inl q1)]
  · rw [if_neg q1]
    by_cases q2 : z = nI t
    · rw [if_pos q2, if_pos (Or.inr q2), if_pos q2]
    · rw [if_neg q2, if_neg (show ¬ (z = -1 ∨ z = nI t) from fun y => y.elim q1 q2)]
      by_cases q3 : M 18 z.toNatClampNeg < M 18 v.toNatClampNeg
      · rw [if_pos q3, if_pos q3]
      · rw [if_neg q3, if_neg q3]
        by_cases q4 : M 18 z.toNatClampNeg = M 18 v.toNatClampNeg
        · rw [if_pos q4, if_pos q4]
          split <;> rfl
        · rw [if_neg q4, if_neg q4]
theorem vi_ok (h : Inv nt B R C M) {t : Nat} (ht : t < nt) {u : Int32} : ∀ (n i : Nat) (v x : Int32), tok nt v → trv nt x → s_comesAnew_15 t u n v x i M = caE t (viL C (nI t) n v x) (if viL C (nI t) n v x < 0 then -1 else nI t) M ∧ (viL C (nI t) n v x = -1 ∨ tok nt (viL C (nI t) n v x))
  | 0, i, v, x, hv, hx => by
    have hn := h.wf.n40
    rw [ca15_0]
    unfold viL
    by_cases q : x = nI t
    · rw [if_pos q, if_neg hv.1, q]
      exact ⟨rfl, Or.inr hv⟩
    · rw [if_neg q, if_pos (show (-1 : Int32) < 0 by decide)]
      refine ⟨?_, Or.inl rfl⟩
      unfold caE
      rw [if_neg q, if_neg (ne_nI (by omega))]
  | n + 1, i, v, x, hv, hx => by
    have hn := h.wf.n40
    rw [ca15_s]
    unfold viL
    by_cases q1 : x < 0
    · have : x = -1 := hx.resolve_right (fun z => z.1 q1)
      subst this
      rw [if_pos (Or.inl rfl), if_pos q1, if_neg (ne_nI (by omega)), if_pos q1]
      exact ⟨by unfold caE; rw [if_neg (ne_nI (by omega)), if_neg (ne_nI (by omega))], Or.inl rfl⟩
    · rw [if_neg q1]
      have hxt : tok nt x := trv_tok hx q1
      by_cases q2 : x = nI t
      · rw [if_pos (Or.inr q2), if_pos q2, if_neg hv.1, q2]
        exact ⟨rfl, Or.inr hv⟩
      · rw [if_neg (show ¬ (x = -1 ∨ x = nI t) from fun z => z.elim (fun y => q1 (by rw [y]; decide)) q2), if_neg q2, rk_eq h hxt hv, h.wfr hxt.2]
        refine vi_ok h ht n (i + 1) _ _ ?_ (wf_trv h.wf.aw hxt.2)
        split
        · exact hv
        · exact hxt
/-- waiting for another one: what both sides answer, and hold behind it -/
theorem Inv.waits (h : Inv nt B R C M) {t : Nat} (ht : t < nt) (h0 : C 15 t = 0) {u : Int32} (hu : tok nt u) (hu0 : C 15 u.toNatClampNeg = 0) : Inv nt B R (waC C (nI t) u) (s_comesAnew t u M).2 ∧ (((s_comesAnew t u M).1 = 0 ∧ waR C (nI t) u = s_waitAnswer t (s_comesAnew t u M).2 ∧ waR C (nI t) u ≠ -99) ∨ ((s_comesAnew t u M).1 ≠ 0 ∧ waR C (nI t) u = -99)) := by
  have hn := h.wf.n40
  have htk : tok nt (nI t) := tok_nI ht hn
  have htn : (nI t).toNatClampNeg = t := nI_clamp (by omega)
  have h1 : Inv nt B R (up C 19 t u) (up M 24 t u) := h.r19 (Or.inr hu)
  have ev : wfS (up C 19 t u) t = u := by
    unfold wfS
    rw [up_row (by decide), up_self, pk_us, if_pos ⟨h0, hu.1, hu0⟩]
  obtain ⟨g1, g2⟩ := vi_ok h1 ht (u := u) 40 0 (nI t) u htk (Or.inr hu)
  unfold s_comesAnew
  rw [g1]
  have h15 : up C 19 t u 15 t = 0 := by rw [up_row (by decide)]; exact h0
  have hvic : vicS (up C 19 t u) (nI t) = viL (up C 19 t u) (nI t) 40 (nI t) u := by
    unfold vicS
    rw [htn, ev]
  have hst0 : ¬ vicS (up C 19 t u) (nI t) < 0 → up C 19 t u 15 (vicS (up C 19 t u) (nI t)).toNatClampNeg = 0 := fun z => vic0 (by rw [htn]; exact h15) z
  unfold waC waR
  rw [htn]
  rw [← hvic] at g2 ⊢
  generalize vicS (up C 19 t u) (nI t) = w at g2 hst0
  rcases g2 with g2 | g2
  · subst g2
    rw [if_pos (show (-1 : Int32) < 0 by decide), if_pos (show (-1 : Int32) < 0 by decide), if_pos (show (-1 : Int32) < 0 by decide)]
    unfold caE
    rw [if_neg (ne_nI (by omega))]
    refine ⟨h1, Or.inl ⟨rfl, ?_, by decide⟩⟩
    show (-11 : Int32) = s_waitAnswer t (up M 24 t u)
    unfold s_waitAnswer
    rw [← h1.t.2.2.2.2.1 t ht, if_pos h15]
  · rw [if_neg g2.1, if_neg g2.1, if_neg g2.1]
    have hInv : Inv nt B R (up (up (up C 19 t u) 19 t (-1)) 15 w.toNatClampNeg 3) (up (up (up M 24 t u) 23 w.toNatClampNeg 3) 24 t (-1)) := by
      rw [up_comm (v := 23) (w := 24) (by decide)]
      exact (h1.r19 trv_null).r15 g2.2 (by rw [up_row (by decide), hst0 g2.1]; decide) (by decide)
    unfold caE
    rw [if_pos rfl]
    by_cases q : w = nI t
    · rw [if_pos q, if_pos q]
      refine ⟨hInv, Or.inl ⟨rfl, ?_, by decide⟩⟩
      show (-13 : Int32) = s_waitAnswer t (up (up (up M 24 t u) 23 w.toNatClampNeg 3) 24 t (-1))
      unfold s_waitAnswer
      rw [up_row (v := 24) (w := 23) (by decide), q, htn, up_eq, if_neg (by decide)]
    · rw [if_neg q, if_neg q]
      exact ⟨hInv, Or.inr ⟨show ¬ (1 : Int32) = 0 by decide, rfl⟩⟩
-- what meeting keeps
theorem dec_row {u : Int32} {w : Nat} (h6 : w ≠ 6) (h15 : w ≠ 15) (h26 : w ≠ 26) (h27 : w ≠ 27) (h28 : w ≠ 28) (h29 : w ≠ 29) (h30 : w ≠ 30) (h31 : w ≠ 31) (h34 : w ≠ 34) : decS C u w = C w := by
  unfold decS
  split
  · exact up_row h15
  · rw [dsL_row h6 h26 h27 h28 h34 h29, dsC_row h30 h31 h15]
theorem meet_row {t : Int32} {k w : Nat} (h6 : w ≠ 6) (h15 : w ≠ 15) (h26 : w ≠ 26) (h27 : w ≠ 27) (h28 : w ≠ 28) (h29 : w ≠ 29) (h30 : w ≠ 30) (h31 : w ≠ 31) (h34 : w ≠ 34) : meetC C t k w = C w := by
  unfold meetC
  split
  · rfl
  · split
    · rfl
    · have e1 : m1S C (C 6 k) w = C w := by
        unfold m1S
        split
        · exact dec_row h6 h15 h26 h27 h28 h29 h30 h31 h34
        · rfl
      have e2 : ∀ {D : St} {u : Int32}, m2S D u w = D w := by
        intro D u
        unfold m2S
        split
        · split
          · rfl
          · exact up_row h15
        · rfl
      have e3 : ∀ {D : St} {u : Int32}, m3S D k u w = D w := by
        intro D u
        unfold m3S
        split
        · exact up_row h6
        · rfl
      rw [e3, e2, e1]
theorem rfA_row {t s : Int32} {w : Nat} (h6 : w ≠ 6) (h15 : w ≠ 15) (h26 : w ≠ 26) (h27 : w ≠ 27) (h28 : w ≠ 28) (h29 : w ≠ 29) (h30 : w ≠ 30) (h31 : w ≠ 31) (h34 : w ≠ 34) : ∀ {n i : Nat} {C : St}, (rfA t s n i C).2 w = C w
  | 0, _, _ => rfl
  | n + 1, i, C => by
    have hm : meetC C t i w = C w := meet_row h6 h15 h26 h27 h28 h29 h30 h31 h34
    have e2 : (rf2 (meetC C t i) t s i (rfA t s n (i + 1) (meetC C t i))).2 w = C w := rf2_2 (E := C) (fun X => X w = C w) ((rfA_row h6 h15 h26 h27 h28 h29 h30 h31 h34).trans hm) hm
    unfold rfA
    split
    · exact rfA_row h6 h15 h26 h27 h28 h29 h30 h31 h34
    · split
      · split
        · exact e2
        · split
          · exact hm
          · exact e2
      · rfl
theorem ref_row {t s : Int32} {w : Nat} (h6 : w ≠ 6) (h15 : w ≠ 15) (h26 : w ≠ 26) (h27 : w ≠ 27) (h28 : w ≠ 28) (h29 : w ≠ 29) (h30 : w ≠ 30) (h31 : w ≠ 31) (h34 : w ≠ 34) (h8 : w ≠ 8) (h9 : w ≠ 9) (h16 : w ≠ 16) (h17 : w ≠ 17) : refC C t s w = C w := by
  unfold refC rfF
  split
  · exact rfA_row h6 h15 h26 h27 h28 h29 h30 h31 h34
  · unfold raiseS
    rw [up_row h17, up_row h16, rfB_row h8 h9]
    exact rfA_row h6 h15 h26 h27 h28 h29 h30 h31 h34
-- refreshing
theorem lo_le2 {a r : Nat} (ha : a < 2 ^ 31) (hr : r < 2 ^ 31) : loI a ≤ nI r ↔ nI (a - 1) ≤ nI r := by
  unfold loI
  by_cases h : a = 0
  · subst h
    rw [if_pos rfl]
    exact ⟨fun _ => nI_le (by omega) hr, fun _ => Int32.le_trans (show (-1 : Int32) ≤ 0 by decide) (nI_pos' hr)⟩
  · rw [if_neg h]
theorem r88_ok (t : Nat) (ht : t < nt) {s : Int32} (hs : bd B s) : ∀ (n i : Nat) (C M : St), i + n = 32 → Inv nt B R C M → (s_refreshes_88 t s n i M).1 = 1 ∧ Inv nt B R (rfB (nI t) s n i C) (s_refreshes_88 t s n i M).2
  | 0, i, C, M, hi, h => ⟨rfl, h⟩
  | n + 1, i, C, M, hi, h => by
    have hn := h.wf.n40
    have g := h.rd t ht i (by omega)
    unfold s_refreshes_88 rfB
    rw [g.1, nI_clamp (by omega)]
    by_cases q : bt (C 20 t) i = true
    · rw [if_pos q, if_neg (bd_m1 (g.2 q) (by decide)), q, show bI true = 1 from rfl, if_neg (show ¬ (1 : Int32) = 0 by decide), h.t.2.2.2.2.2.2.2.2.2.1 t ht]
      exact r88_ok t ht hs n (i + 1) _ _ (by omega) (h.note (by omega) hs)
    · have q' : bt (C 20 t) i = false := Bool.eq_false_iff.mpr q
      rw [if_neg q, if_pos rfl, q', show bI false = 0 from rfl, if_pos rfl]
      exact r88_ok t ht hs n (i + 1) _ _ (by omega) h
theorem r2_ok (hB : B ≤ 900000) (t : Nat) (ht : t < nt) {s : Int32} (hs : bd B s) : ∀ (n i : Nat) (C M : St), i + n = 32 → Inv nt B R C M → ((rfA (nI t) s n i C).1 = 0 ∧ (s_refreshes_2 t s n i M).1 = 0 ∧ Inv nt B R (rfA (nI t) s n i C).2 (s_refreshes_2 t s n i M).2) ∨ ((rfA (nI t) s n i C).1 = 1 ∧ ∃ M', s_refreshes_2 t s n i M = s_refreshes_88 t s 32 0 M' ∧ Inv nt B R (rfA (nI t) s n i C).2 M')
  | 0, i, C, M, hi, h => Or.inr ⟨rfl, M, rfl, h⟩
  | n + 1, i, C, M, hi, h => by
    have hn := h.wf.n40
    have g := h.rd t ht i (by omega)
    have htn : (nI t).toNatClampNeg = t := nI_clamp (by omega)
    have hnode := h.node (show i < 32 by omega)
    have hw4 := h.wf.wn i (by omega)
    unfold s_refreshes_2 rfA
    rw [g.1, htn, hnode, ← h.n.2.2.2.2.2.2.2 _ (vin_lt hw4)]
    by_cases q : bt (C 20 t) i = true
    · rw [if_pos q, if_neg (bd_m1 (g.2 q) (by decide)), q, show bI true = 1 from rfl, if_neg (show ¬ (1 : Int32) = 0 by decide)]
      by_cases q2 : C 3 (C 4 i).toNatClampNeg = 0
      · rw [if_pos q2, if_pos q2]
        obtain ⟨m1, m2⟩ := h.meet hB ht (show i < 32 by omega)
        have mt := meetR_trv (t := nI t) h.wf (show i < 32 by omega)
        rw [m1]
        generalize (s_meets t i M).2 = M1 at m2
        generalize meetC C (nI t) i = C1 at m2
        generalize meetR C (nI t) i = o at mt
        -- the latest version against the read stamp
        obtain ⟨sN, s1, s2⟩ := hs
        obtain ⟨rN, r1, r2⟩ := m2.t.2.2.2.2.2.2.2.2.2.2.1 t ht
        obtain ⟨a, a1, a2, a3, a4⟩ := m2.st hB (key := i) (s := sN) (by omega) (by omega)
        have hcmp : (s_latest (nI i) s M1 ≤ M1 19 t) ↔ (stX C1 (nI i) s ≤ C1 16 t) := by
          rw [← m2.t.2.2.2.2.2.1 t ht, s2, a1, a2, r2]
          exact lo_le2 (by omega) (by omega)
        have hgo : ((rf2 C1 (nI t) s i (rfA (nI t) s n (i + 1) C1)).1 = 0 ∧ (if s_latest (nI i) s M1 ≤ M1 19 t then s_refreshes_2 t s n (i + 1) M1 else ((0 : Int32), M1)).1 = 0 ∧ Inv nt B R (rf2 C1 (nI t) s i (rfA (nI t) s n (i + 1) C1)).2 (if s_latest (nI i) s M1 ≤ M1 19 t then s_refreshes_2 t s n (i + 1) M1 else ((0 : Int32), M1)).2) ∨ ((rf2 C1 (nI t) s i (rfA (nI t) s n (i + 1) C1)).1 = 1 ∧ ∃ M', (if s_latest (nI i) s M1 ≤ M1 19 t then s_refreshes_2 t s n (i + 1) M1 else ((0 : Int32), M1)) = s_refreshes_88 t s 32 0 M' ∧ Inv nt B R (rf2 C1 (nI t) s i (rfA (nI t) s n (i + 1) C1)).2 M') := by
          unfold rf2
          rw [htn]
          by_cases c : stX C1 (nI i) s ≤ C1 16 t
          · rw [if_pos c, if_pos (hcmp.mpr c)]
            exact r2_ok hB t ht ⟨sN, s1, s2⟩ n (i + 1) C1 M1 (by omega) m2
          · rw [if_neg c, if_neg (fun z => c (hcmp.mp z))]
            exact Or.inl ⟨rfl, rfl, m2⟩
        rcases mt with mt | mt
        · rw [mt, if_pos rfl, if_pos (show (-1 : Int32) < 0 by decide)]
          exact hgo
        · rw [if_neg (show ¬ o = -1 from fun z => mt.1 (by rw [z]; decide)), if_neg mt.1, ← m2.t.2.2.2.2.2.2.1 _ mt.2]
          by_cases q3 : C1 17 o.toNatClampNeg ≤ s
          · rw [if_pos q3, if_pos q3]
            exact Or.inl ⟨rfl, rfl, m2⟩
          · rw [if_neg q3, if_neg q3]
            exact hgo
      · rw [if_neg q2, if_neg q2]
        exact Or.inl ⟨rfl, rfl, h⟩
    · have q' : bt (C 20 t) i = false := Bool.eq_false_iff.mpr q
      rw [if_neg q, if_pos rfl, q', show bI false = 0 from rfl, if_pos rfl]
      exact r2_ok hB t ht hs n (i + 1) C M (by omega) h
/-- refreshing reads to a stamp -/
theorem Inv.refr (h : Inv nt B R C M) (hB : B ≤ 900000) {t : Nat} (ht : t < nt) (h0 : C 15 t ≠ 2) {s : Int32} (hs : bd B s) : (refR C (nI t) s = 0 ∧ (s_refreshes t s M).1 = 0 ∧ Inv nt B R (refC C (nI t) s) (s_refreshes t s M).2) ∨ (refR C (nI t) s = 1 ∧ (s_refreshes t s M).1 = 1 ∧ Inv nt B R (refC C (nI t) s) (up (up (s_refreshes t s M).2 19 t s) 20 t (mx ((s_refreshes t s M).2 20 t) s))) := by
  have hn := h.wf.n40
  have htn : (nI t).toNatClampNeg = t := nI_clamp (by omega)
  have h15 := rfA_15 (s := s) (tok_nI ht hn) (n := 32) (i := 0) (by omega) h.wf
  rw [htn] at h15
  unfold refR refC rfF s_refreshes
  rcases r2_ok hB t ht hs 32 0 C M (by omega) h with ⟨g1, g2, g3⟩ | ⟨g1, M', g2, g3⟩
  · rw [g1, if_pos rfl]
    exact Or.inl ⟨rfl, g2, g3⟩
  · rw [g1, g2, if_neg (by decide)]
    obtain ⟨k1, k2⟩ := r88_ok t ht hs 32 0 _ _ (by omega) g3
    refine Or.inr ⟨rfl, k1, ?_⟩
    have hB15 : rfB (nI t) s 32 0 (rfA (nI t) s 32 0 C).2 15 t ≠ 2 := by
      rw [rfB_row (by decide) (by decide), h15]
      exact h0
    generalize (s_refreshes_88 t s 32 0 M').2 = M2 at k2
    generalize rfB (nI t) s 32 0 (rfA (nI t) s 32 0 C).2 = C2 at k2 hB15
    unfold raiseS
    rw [htn, ← k2.t.2.2.2.2.2.2.1 t ht]
    have hb := (k2.t.2.2.2.2.2.2.2.2.2.2.2.1 t ht).1
    refine (k2.r16 hs).r17 ht (by rw [up_row (by decide)]; exact hB15) (bd_mx hb hs) ?_ (by omega)
    rw [up_row (by decide)]
    exact mx_l
end WAI
