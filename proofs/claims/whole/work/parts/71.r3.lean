/-! asking a clock, opening, get and put as whole calls: both sides -/
theorem lat_ge {key s : Nat} : ∀ {L : List (Nat × Nat × Int32)} (e : Nat × Nat × Int32), e ∈ L → e.2.1 = key → e.1 ≤ s → e.1 + 1 ≤ lat key s L
  | [], e, he, _, _ => by cases he
  | a :: L, e, he, hk, hs => by
    rw [lat_c]
    rcases List.mem_cons.mp he with h | h
    · subst h
      rw [if_pos ⟨hk, hs⟩]
      omega
    · have := lat_ge e h hk hs
      split <;> omega
section PUT
variable {nt B R : Nat} {C M : St}
theorem tl_val {T s : Int32} (hT : bd 2000 T) (h1 : -5 ≤ s.toInt) (h2 : s.toInt ≤ 5) : (10 * (T + s)).toInt = 10 * (T.toInt + s.toInt) := by
  obtain ⟨a, b⟩ := bd_toInt hT (by decide)
  rw [Int32.toInt_mul, Int32.toInt_add, show (10 : Int32).toInt = 10 from by decide]
  rw [Int.bmod_eq_of_le (n := T.toInt + s.toInt) (by omega) (by omega), Int.bmod_eq_of_le (by omega) (by omega)]
theorem Inv.asks (h : Inv nt B R C M) (hB : B ≤ 900000) {n : Nat} (hn : n < 4) : tellS C n (C 0 0) 2 n = (s_asks n M).1 ∧ Inv nt (B + 1) R (tellS C n (C 0 0)) (s_asks n M).2 ∧ bd (B + 1) (s_asks n M).1 ∧ ¬ (s_asks n M).1 = 0 := by
  obtain ⟨n0, n1, n2, n3, n4, n5, n6, n7⟩ := h.n
  obtain ⟨m, m1, m2⟩ := n6 n hn
  unfold s_asks tellS meetS
  rw [gr_mx, ← n1, ← n3 n hn, ← n5 n hn]
  have hv := tl_val n2 (n4 n hn).1 (n4 n hn).2
  obtain ⟨a, b⟩ := bd_toInt n2 (by decide)
  have hs := n4 n hn
  have hX : bd (B + 1) (mx (10 * (C 0 0 + C 1 n)) (C 2 n + 1)) ∧ C 2 n ≤ mx (10 * (C 0 0 + C 1 n)) (C 2 n + 1) ∧ ¬ mx (10 * (C 0 0 + C 1 n)) (C 2 n + 1) = 0 := by
    rw [m2, nI_1]
    unfold mx
    by_cases q : 10 * (C 0 0 + C 1 n) < nI (m + 1)
    · rw [if_pos q]
      exact ⟨bd_nI (by omega), nI_le (by omega) (by omega), nI_ne0 (by omega) (by omega)⟩
    · rw [if_neg q]
      have q' := Int32.le_iff_toInt_le.mp (Int32.not_lt.mp q)
      rw [nI_toInt (by omega), hv] at q'
      refine ⟨bd_of (by omega) (by omega) (by omega), ?_, fun z => ?_⟩
      · rw [Int32.le_iff_toInt_le, nI_toInt (by omega), hv]
        omega
      · have := congrArg Int32.toInt z
        rw [hv, show (0 : Int32).toInt = 0 from by decide] at this
        omega
  generalize mx (10 * (C 0 0 + C 1 n)) (C 2 n + 1) = X at hX
  have e : mx (C 2 n) X = X := by
    unfold mx
    by_cases q : C 2 n < X
    · rw [if_pos q]
    · rw [if_neg q]
      exact Int32.le_antisymm hX.2.1 (Int32.not_lt.mp q)
  rw [e]
  exact ⟨up_eq, (h.mono (Nat.le_succ B)).met hX.1, hX.1, hX.2.2⟩
theorem op_if {a b : Int32} {α : Type} {f : Int32 → α} : (if a ≤ b then f a else f b) = f (mn a b) := by
  unfold mn
  by_cases q : b < a
  · rw [if_pos q, if_neg (Int32.not_le.mpr q)]
  · rw [if_neg q, if_pos (Int32.not_lt.mp q)]
theorem asks_r {n w : Nat} (h : w ≠ 2) : (s_asks n M).2 w = M w := up_row h
theorem tell_r {n w : Nat} {T : Int32} (h : w ≠ 2) : tellS C n T w = C w := up_row h
theorem Inv.opens (h : Inv nt B R C M) (hB : B ≤ 800000) {t k : Nat} (ht : t < nt) (hk : k < 32) : (s_opens t (nI k) M).1 = refS C t k ∧ (s_opens t (nI k) M).2 31 = M 31 ∧ (refS C t k = 0 → Inv nt (B + 1) R (askS C (nI t) (C 4 k).toNatClampNeg) (s_opens t (nI k) M).2 ∧ bt (askS C (nI t) (C 4 k).toNatClampNeg 22 t) (C 4 k).toNatClampNeg = true) ∧ (refS C t k ≠ 0 → (s_opens t (nI k) M).2 = M) := by
  have hn := h.wf.n40
  have htn : (nI t).toNatClampNeg = t := nI_clamp (by omega)
  have hw4 := h.wf.wn k hk
  have hwh := h.wf.wh t ht
  obtain ⟨t0, t1, t2, t3, t4, t5, t6, t7, t8, t9, ta, tb, tc, td, te⟩ := h.t
  have n7 := h.n.2.2.2.2.2.2.2
  have hnode := h.node hk
  unfold s_opens refS
  rw [hnode, ← t4 t ht, ← t1 t ht, ← n7 _ (vin_lt hwh), ← n7 _ (vin_lt hw4)]
  by_cases q1 : C 15 t = 0
  · rw [if_pos q1, if_pos q1]
    by_cases q2 : C 3 (C 12 t).toNatClampNeg = 0
    · rw [if_pos q2, if_pos q2]
      by_cases q3 : C 3 (C 4 k).toNatClampNeg = 0
      · rw [if_pos q3, if_pos q3]
        have h4 : (C 4 k).toNatClampNeg < 4 := vin_lt hw4
        generalize (C 4 k).toNatClampNeg = n at h4 hnode
        have g := h.db t ht n h4
        have h1 : Inv nt B R (meetS (up C 19 t (-1)) n (C 16 t)) (up (up M 24 t (-1 : Int32)) 2 n (s_greater (M 2 n) (M 19 t))) := by
          unfold meetS
          rw [gr_mx, up_row (by decide), ← t5 t ht, ← h.n.2.2.2.2.2.1 n h4]
          refine (h.r19 trv_null).met (bd_mx (h.n.2.2.2.2.2.2.1 n h4) (ta t ht))
        have hrow : ∀ w, w ≠ 2 → w ≠ 19 → meetS (up C 19 t (-1)) n (C 16 t) w = C w := fun w a1 a2 => by
          unfold meetS
          rw [up_row a1, up_row a2]
        unfold askS
        rw [htn, g.1]
        have hr31 : up (up M 24 t (-1 : Int32)) 2 n (s_greater (M 2 n) (M 19 t)) 31 = M 31 := by rw [up_row (by decide), up_row (by decide)]
        have e21 : up (up M 24 t (-1 : Int32)) 2 n (s_greater (M 2 n) (M 19 t)) 21 t = meetS (up C 19 t (-1)) n (C 16 t) 14 t := by rw [up_row (by decide), up_row (by decide), hrow 14 (by decide) (by decide), t3 t ht]
        have h22 : meetS (up C 19 t (-1)) n (C 16 t) 22 t = C 22 t := by rw [hrow 22 (by decide) (by decide)]
        have h14b := tc t ht
        rw [← hrow 14 (by decide) (by decide)] at h14b
        have hasked := hrow 0 (by decide) (by decide)
        generalize up (up M 24 t (-1 : Int32)) 2 n (s_greater (M 2 n) (M 19 t)) = M1 at h1 hr31 e21
        rw [← hasked]
        generalize meetS (up C 19 t (-1)) n (C 16 t) = C1 at h1 e21 h22 h14b
        by_cases q4 : bt (C 22 t) n = true
        · rw [if_pos q4, if_neg (bd_m1 (g.2 q4) (by omega)), q4, show bI true = 1 from rfl, if_neg (show ¬ (1 : Int32) = 0 by decide)]
          refine ⟨rfl, hr31, fun _ => ⟨h1.mono (by omega), by rw [h22]; exact q4⟩, fun z => absurd rfl z⟩
        · have q4' : bt (C 22 t) n = false := Bool.eq_false_iff.mpr q4
          rw [if_neg q4, if_pos rfl, q4', show bI false = 0 from rfl, if_pos rfl]
          obtain ⟨a1, a2, a3, a4⟩ := h1.asks (by omega) h4
          have e21' : (s_asks n M1).2 21 t = tellS C1 n (C1 0 0) 14 t := by
            rw [asks_r (by decide), e21, tell_r (by decide)]
          have h22' : tellS C1 n (C1 0 0) 22 t = C 22 t := by
            rw [tell_r (by decide), h22]
          have h14' : tellS C1 n (C1 0 0) 14 t = C1 14 t := by
            rw [tell_r (by decide)]
          rw [e21', op_if (f := fun x => ((0 : Int32), up (s_asks n M1).2 27 (4 * t + n) x))]
          rw [a1]
          have hmn : bd (B + 1) (mn (C1 14 t) (s_asks n M1).1) := by
            obtain ⟨s, s1, s2⟩ := a3
            obtain ⟨p, p1, p2⟩ := h14b
            unfold mn
            rw [s2, p2]
            by_cases q : nI s < nI p
            · rw [if_pos q]; exact bd_nI s1
            · rw [if_neg q]
              rw [nI_ltI (by omega) (by omega)] at q
              exact bd_nI (by omega)
          refine ⟨rfl, ?_, fun _ => ⟨?_, ?_⟩, fun z => absurd rfl z⟩
          · have e31 : up (s_asks n M1).2 27 (4 * t + n) (mn (tellS C1 n (C1 0 0) 14 t) (s_asks n M1).1) 31 = M 31 := by
              rw [up_row (by decide), asks_r (by decide)]
              exact hr31
            exact e31
          · unfold noteClockS
            rw [h14']
            exact a2.nclock h4 hmn
          · unfold noteClockS
            rw [up_row (by omega), up_eq, bt_setb (by omega) (by omega)]
            simp
      · rw [if_neg q3, if_neg q3]
        exact ⟨rfl, rfl, fun z => absurd z (by decide), fun _ => rfl⟩
    · rw [if_neg q2, if_neg q2]
      exact ⟨rfl, rfl, fun z => absurd z (by decide), fun _ => rfl⟩
  · rw [if_neg q1, if_neg q1]
    exact ⟨rfl, rfl, fun z => absurd z (by decide), fun _ => rfl⟩
theorem in_1 {x lo hi : Int32} (h1 : ¬ x < lo) (h2 : ¬ hi < x) : s_in x lo hi = 1 := by
  unfold s_in
  rw [if_neg h1, if_neg h2]
theorem in_0 {x lo hi : Int32} (h : x < lo ∨ hi < x) : s_in x lo hi = 0 := by
  unfold s_in
  by_cases q : x < lo
  · rw [if_pos q]
  · rw [if_neg q, if_pos (h.resolve_left q)]
theorem isT_in (hn : nt ≤ 40) (hm : M 16 0 = nI nt) {t : Nat} (ht : t < nt) : s_in (nI t) 0 (M 16 0 - 1) = 1 := by
  obtain ⟨y, rfl⟩ : ∃ y, nt = y + 1 := ⟨nt - 1, by omega⟩
  rw [hm, nI_pred]
  exact in_1 (nI_pos (by omega)) (nI_nlt (by omega) (by omega))
theorem aT_in (hn : nt ≤ 40) (hm : M 16 0 = nI nt) {t k : Nat} (ht : t < nt) (hk : k < 32) : s_areThere (nI t) (nI k) M = (1, up M 31 0 0) := by
  unfold s_areThere
  rw [isT_in hn hm ht, in_1 (x := nI k) (nI_pos (by omega)) (by
    show ¬ nI 31 < nI k
    exact nI_nlt (by omega) (by omega)), if_neg (by decide), if_neg (by decide)]
/-- get, where there are such a transaction and such a key -/
theorem Inv.get (h : Inv nt B R C M) (hB : B ≤ 800000) {t k : Nat} (ht : t < nt) (hk : k < 32) : (gtS C (nI t) k).1 = (s_get t k M).1 ∧ Inv nt (B + 100) R (gtS C (nI t) k).2 (s_get t k M).2 ∧ (s_get t k M).2 31 0 = 0 := by
  have hn := h.wf.n40
  have htk : tok nt (nI t) := tok_nI ht hn
  have htn : (nI t).toNatClampNeg = t := nI_clamp (by omega)
  have h1 : Inv nt B R C (up M 31 0 0) := h.m31
  obtain ⟨o1, o2, o3, o4⟩ := h1.opens hB ht hk
  unfold s_get gtS
  rw [aT_in hn h.t.1 ht hk, if_neg (show ¬ (1 : Int32) = 0 by decide), htn]
  show _ = (if (s_opens t (nI k) (up M 31 0 0)).1 = 0 then (if (s_opens t (nI k) (up M 31 0 0)).2 29 (32 * t + k) = -1 then s_get_75 t k 82 ((s_opens t (nI k) (up M 31 0 0)).2 27 (4 * t + (s_nodeOf (nI k) (s_opens t (nI k) (up M 31 0 0)).2).toNatClampNeg)) 1 (s_opens t (nI k) (up M 31 0 0)).2 else ((s_opens t (nI k) (up M 31 0 0)).2 29 (32 * t + k), (s_opens t (nI k) (up M 31 0 0)).2)) else ((s_opens t (nI k) (up M 31 0 0)).1, (s_opens t (nI k) (up M 31 0 0)).2)).1 ∧ Inv nt (B + 100) R _ (if (s_opens t (nI k) (up M 31 0 0)).1 = 0 then (if (s_opens t (nI k) (up M 31 0 0)).2 29 (32 * t + k) = -1 then s_get_75 t k 82 ((s_opens t (nI k) (up M 31 0 0)).2 27 (4 * t + (s_nodeOf (nI k) (s_opens t (nI k) (up M 31 0 0)).2).toNatClampNeg)) 1 (s_opens t (nI k) (up M 31 0 0)).2 else ((s_opens t (nI k) (up M 31 0 0)).2 29 (32 * t + k), (s_opens t (nI k) (up M 31 0 0)).2)) else ((s_opens t (nI k) (up M 31 0 0)).1, (s_opens t (nI k) (up M 31 0 0)).2)).2 ∧ (if (s_opens t (nI k) (up M 31 0 0)).1 = 0 then (if (s_opens t (nI k) (up M 31 0 0)).2 29 (32 * t + k) = -1 then s_get_75 t k 82 ((s_opens t (nI k) (up M 31 0 0)).2 27 (4 * t + (s_nodeOf (nI k) (s_opens t (nI k) (up M 31 0 0)).2).toNatClampNeg)) 1 (s_opens t (nI k) (up M 31 0 0)).2 else ((s_opens t (nI k) (up M 31 0 0)).2 29 (32 * t + k), (s_opens t (nI k) (up M 31 0 0)).2)) else ((s_opens t (nI k) (up M 31 0 0)).1, (s_opens t (nI k) (up M 31 0 0)).2)).2 31 0 = 0
  have hs31 : (s_opens t (nI k) (up M 31 0 0)).2 31 0 = 0 := by rw [o2, up_eq]
  rw [o1]
  by_cases q : refS C t k = 0
  · rw [if_pos q, if_pos q]
    obtain ⟨p1, p2⟩ := o3 q
    have hask15 := ask_15 (C := C) (t := nI t) (k := k) (n := (C 4 k).toNatClampNeg) (by rw [htn]; exact q) rfl
    rw [htn] at hask15
    have e4 : askS C (nI t) (C 4 k).toNatClampNeg 4 = C 4 := ask_row (by decide) (by decide) (by decide) (by decide)
    generalize (s_opens t (nI k) (up M 31 0 0)).2 = M1 at p1 hs31
    generalize hC1 : askS C (nI t) (C 4 k).toNatClampNeg = C1 at p1 p2 hask15 e4
    have g := p1.wr t ht k hk
    have hnode := p1.node hk
    have h4 : (C 4 k).toNatClampNeg < 4 := vin_lt (h.wf.wn k hk)
    have gd := p1.db t ht _ h4
    rw [if_pos p2] at gd
    rw [hnode, e4, gd.1, g.1]
    by_cases q2 : bt (C1 21 t) k = true
    · rw [if_pos q2, if_neg (bd_m1 (g.2 q2) (by decide))]
      have hv : bd 1000 (C1 (51 + 3 * t) k) := g.2 q2
      have e : gtL (nI t) k 1000000 (-99) C1 = (C1 (51 + 3 * t) k, C1) := by
        have hl : lkR C1 (nI t) k = (C1 (51 + 3 * t) k, C1) := by
          unfold lkR
          rw [htn, q2, show bI true = 1 from rfl, if_neg (show ¬ (1 : Int32) = 0 by decide)]
        have hg : ∀ n, gtL (nI t) k (n + 1) (-99) C1 = (C1 (51 + 3 * t) k, C1) := by
          intro n
          unfold gtL
          rw [if_pos rfl, hl]
          refine gtL_end ?_
          obtain ⟨s, s1, s2⟩ := hv
          intro z
          have z' : C1 (51 + 3 * t) k = -99 := z
          rw [s2] at z'
          have := nI_pos (show s < 2 ^ 31 by omega)
          rw [z'] at this
          exact this (by decide)
        exact hg 999999
      rw [e]
      exact ⟨rfl, p1.mono (by omega), hs31⟩
    · rw [if_neg q2, if_pos rfl]
      have hm := mu82 (N := nt) (t := t) (k := k) (d := C1 (52 + 3 * t) (C 4 k).toNatClampNeg) (M := M1) hn
      obtain ⟨x1, x2, x3⟩ := gl_ok ht hk (d := C1 (52 + 3 * t) (C 4 k).toNatClampNeg) 82 1000000 (B + 1) C1 M1 p1 (by omega) (by omega) hask15 (Bool.eq_false_iff.mpr q2) (by rw [e4]; exact p2) (by rw [e4]) hm
      exact ⟨x1, x2.mono (by omega), by rw [x3]; exact hs31⟩
  · rw [if_neg q, if_neg q]
    refine ⟨rfl, ?_, hs31⟩
    show Inv nt (B + 100) R C (s_opens t (nI k) (up M 31 0 0)).2
    rw [o4 q]
    exact h1.mono (by omega)
-- put
theorem Inv.st2 (h : Inv nt B R C M) (hB : B ≤ 900000) {key : Nat} (hk : key < 32) : ∃ a : Nat, stX C (nI key) 2147483647 = nI (a - 1) ∧ s_latest (nI key) 1000000 M = loI a ∧ a ≤ B + 1 ∧ ∀ L, RepC L (C 28) (C 29) → C 26 0 = nI L.length → L.length ≤ 1280 → (∀ e ∈ L, okE B e) → ∀ e ∈ L, e.2.1 = key → e.1 + 1 ≤ a := by
  obtain ⟨L, L', v1, v2, v3, v4, v5, v6, v7, v8, v9⟩ := h.v
  have hs : ∀ s, B ≤ s → lat key s L = lat key B L := by
    intro s hs
    clear v1 v2 v3 v4 v5 v8 v9
    induction L with
    | nil => rfl
    | cons e L ih =>
      have o := (v7 e List.mem_cons_self).1
      rw [lat_c, lat_c, ih (fun a ha => v7 a (List.mem_cons_of_mem _ ha))]
      by_cases q : e.2.1 = key
      · rw [if_pos ⟨q, by omega⟩, if_pos ⟨q, o⟩]
      · rw [if_neg (fun z => q z.1), if_neg (fun z => q z.1)]
  refine ⟨lat key B L, ?_, ?_, lat_le (fun e he _ => (v7 e he).1), ?_⟩
  · rw [← hs 2147483647 (by omega)]
    exact st_ok hB v5 v2 v4 v7 v8 hk (by decide)
  · rw [← hs 1000000 (by omega), lat_perm v1]
    exact la_ok hB v6 (by rw [v1.length_eq] at v3; exact v3) (by rw [← v1.length_eq]; exact v4) (fun e he => v7 e (v1.mem_iff.mpr he)) hk (by decide)
  · intro L2 z1 z2 z3 z4 e he ek
    obtain ⟨e0, y1, y2, y3⟩ := rep_un hB z1 v5 z4 v7 ((nI_eq (by omega) (by omega)).mp (z2.symm.trans v2)) e he
    have := lat_ge (s := B) (L := L) (key := key) e0 y1 (by omega) (v7 e0 y1).1
    omega
/-- what the model's put writes -/
def wrM (t k : Nat) (v : Int32) (M : St) : Int32 × St := if (M 11 k) = (nI t) then ((0 : Int32), (up (up (up (up (up (up M 20 t (s_greater (M 20 t) ((s_latest (nI k) (1000000 : Int32) M) + (1 : Int32)))) 20 t (s_greater (M 20 t) ((s_latest (nI k) (1000000 : Int32) M) + (1 : Int32)))) 7 k (nI t)) 8 k (0 : Int32)) 9 k v) 29 (32 * t + k) v)) else ((0 : Int32), (up (up (up (up (up (up M 20 t (s_greater (M 20 t) ((s_latest (nI k) (1000000 : Int32) M) + (1 : Int32)))) 20 t (s_greater (s_greater (M 20 t) ((s_latest (nI k) (1000000 : Int32) M) + (1 : Int32))) ((M 10 k) + (1 : Int32)))) 7 k (nI t)) 8 k (0 : Int32)) 9 k v) 29 (32 * t + k) v))
theorem p69_w {t k f : Nat} {v : Int32} : s_put_69 t k v f (-1) M = wrM t k v M := by
  cases f with
  | zero => rfl
  | succ f =>
    unfold s_put_69
    rw [if_pos rfl]
    rfl
theorem Inv.wrt (h : Inv nt B R C M) (hB : B ≤ 800000) {t k : Nat} (ht : t < nt) (hk : k < 32) (h0 : C 15 t ≠ 2) {v : Int32} (hv : bd 1000 v) : (wrM t k v M).1 = 0 ∧ Inv nt (B + 1) R (lw3 C (nI t) k v) (wrM t k v M).2 ∧ (wrM t k v M).2 31 = M 31 := by
  have hn := h.wf.n40
  have htn : (nI t).toNatClampNeg = t := nI_clamp (by omega)
  obtain ⟨a, a1, a2, a3, a4⟩ := h.st2 (by omega) hk
  have e17 := h.t.2.2.2.2.2.2.1 t ht
  have e8 := h.k.2.2.1 k hk
  have e9 := h.k.2.2.2.1 k hk
  have e11 := h.t.2.2.2.2.2.2.2.2.2.1 t ht
  obtain ⟨⟨x, x1, x2⟩, x3⟩ := h.t.2.2.2.2.2.2.2.2.2.2.2.1 t ht
  have hx0 : 1 ≤ x := by
    rcases Nat.eq_zero_or_pos x with q | q
    · subst q; exact absurd x2 x3
    · exact q
  obtain ⟨r, r1, r2⟩ := h.k.2.2.2.2 k hk
  have hlo : loI a + 1 = nI a := by
    unfold loI
    by_cases q : a = 0
    · subst q; rfl
    · rw [if_neg q, nI_1]
      congr 1
      omega
  -- the stamp
  obtain ⟨X, hX, hX1, hX2⟩ : ∃ X : Int32, X = mx (C 17 t) (lw2 C (nI t) k) ∧ wrM t k v M = (0, up (up (up (up (up M 20 t X) 7 k (nI t)) 8 k 0) 9 k v) 29 (32 * t + k) v) ∧ ∃ s : Nat, X = nI s ∧ s ≤ B + 1 ∧ x ≤ s ∧ a ≤ s := by
    refine ⟨_, rfl, ?_, ?_⟩
    · unfold wrM lw2
      rw [htn, e11, ← e17, ← e8, ← e9, a1, a2, hlo, gr_mx, gr_mx, x2, r2, nI_1, nI_1, mx_nI (by omega) (by omega), mx_nI (by omega) (by omega), up_up, up_up]
      by_cases q : C 9 k = nI t
      · rw [if_pos q, if_pos q, mx_nI (by omega) (by omega)]
        rw [show max x a = max x (a - 1 + 1) by omega]
      · rw [if_neg q, if_neg q, mx_nI (by omega) (by omega), mx_nI (by omega) (by omega)]
        rw [show max (max x a) (r + 1) = max x (max (a - 1 + 1) (r + 1)) by omega]
    · unfold lw2
      rw [htn, e11, a1, x2, r2, nI_1, nI_1]
      by_cases q : C 9 k = nI t
      · rw [if_pos q, mx_nI (by omega) (by omega)]
        exact ⟨_, rfl, by omega, by omega, by omega⟩
      · rw [if_neg q, mx_nI (by omega) (by omega), mx_nI (by omega) (by omega)]
        exact ⟨_, rfl, by omega, by omega, by omega⟩
  obtain ⟨s, s1, s2, s3, s4⟩ := hX2
  rw [hX1]
  refine ⟨rfl, ?_, ?_⟩
  · unfold lw3
    rw [htn, ← hX]
    have h1 := (h.mono (Nat.le_succ B)).r17 ht h0 (x := X) (by rw [s1]; exact bd_nI s2) (by rw [x2, s1]; exact nI_le (by omega) (by omega)) (by omega)
    refine h1.write ht hk hv ?_
    intro L z1 z2 z3 z4 z5 e he ek
    rw [up_row (by decide)] at z1 z2
    rw [up_row (by decide)] at z1
    rw [up_eq, s1]
    obtain ⟨L0, L', v1, v2, v3, v4, v5, v6, v7, v8, v9⟩ := h.v
    obtain ⟨e0, y1, y2, y3⟩ := rep_un (B := B + 1) (by omega) z1 v5 z4 (fun e he => ⟨by have := (v7 e he).1; omega, (v7 e he).2⟩) ((nI_eq (by omega) (by omega)).mp (z2.symm.trans v2)) e he
    have := a4 L0 v5 v2 v4 v7 e0 y1 (by omega)
    exact nI_lt (by omega) (by omega)
  · show up (up (up (up (up M 20 t X) 7 k (nI t)) 8 k 0) 9 k v) 29 (32 * t + k) v 31 = M 31
    rw [up_row (by decide), up_row (by decide), up_row (by decide), up_row (by decide), up_row (by decide)]
theorem lw3_6 {t k : Nat} {v : Int32} (ht : t < 40) {D : St} : lw3 (up D 6 k (-1)) (nI t) k v = lw3 D (nI t) k v := by
  have htn : (nI t).toNatClampNeg = t := nI_clamp (by omega)
  have e : lw2 (up D 6 k (-1)) (nI t) k = lw2 D (nI t) k := by
    unfold lw2
    rw [st_cg (C := D) (up_row (by decide)) (up_row (by decide)), up_row (by decide), up_row (by decide), up_row (by decide)]
  unfold lw3 noteWriteS
  rw [e, htn, up_row (v := 6) (w := 17) (by decide)]
  rw [up_comm (v := 6) (w := 17) (by decide), up_row (v := 6) (w := 21) (by decide), up_comm (v := 6) (w := 21) (by decide), up_comm (v := 6) (w := 51 + 3 * t) (by omega), up_up]
theorem ptL_end {t v : Int32} {k n : Nat} {r : Int32} {C : St} (h : r ≠ -99) : ptL t v k n r C = (r, C) := by
  cases n with
  | zero => rfl
  | succ n =>
    unfold ptL
    rw [if_neg h]
theorem p69_s {t k f : Nat} {v z : Int32} (hz : ¬ z = -1) : s_put_69 t k v (f + 1) z M = if (M 18 t) ≤ (M 18 z.toNatClampNeg) then (if ((s_comesAnew t z M).1) = (0 : Int32) then ((s_waitAnswer t (s_comesAnew t z M).2), (s_comesAnew t z M).2) else (s_put_69 t k v f ((s_meets t k (s_comesAnew t z M).2).1) ((s_meets t k (s_comesAnew t z M).2).2))) else (s_put_69 t k v f ((s_meets t k (up (up M 23 z.toNatClampNeg (3 : Int32)) 7 k (-1 : Int32))).1) ((s_meets t k (up (up M 23 z.toNatClampNeg (3 : Int32)) 7 k (-1 : Int32))).2)) := by
  conv => lhs; unfold s_put_69
  rw [if_neg hz]
theorem pu_ok {t k : Nat} (ht : t < nt) (hk : k < 32) {v : Int32} (hv : bd 1000 v) : ∀ (f n B : Nat) (C M : St), Inv nt B R C M → B + f ≤ 700000 → f < n → C 15 t = 0 → cP (s_meets t k M).2 nt ≤ f → (ptL (nI t) v k n (-99) C).1 = (s_put_69 t k v f (s_meets t k M).1 (s_meets t k M).2).1 ∧ Inv nt (B + f + 1) R (ptL (nI t) v k n (-99) C).2 (s_put_69 t k v f (s_meets t k M).1 (s_meets t k M).2).2 ∧ (s_put_69 t k v f (s_meets t k M).1 (s_meets t k M).2).2 31 = M 31 := by
  intro f
  induction f with
  | zero =>
    intro n B C M h hB hfn h0 hm
    obtain ⟨n, rfl⟩ : ∃ n', n = n' + 1 := ⟨n - 1, by omega⟩
    have hn := h.wf.n40
    have htk : tok nt (nI t) := tok_nI ht hn
    have htn : (nI t).toNatClampNeg = t := nI_clamp (by omega)
    rw [show ptL (nI t) v k (n + 1) (-99) C = ptL (nI t) v k n (lwR C (nI t) k v).1 (lwR C (nI t) k v).2 from by conv => lhs; unfold ptL; rw [if_pos rfl]]
    obtain ⟨m1, m2⟩ := h.meet (by omega) ht hk
    have m31 : (s_meets t k M).2 31 = M 31 := meets_r (by decide) (by decide) (by decide) (by decide) (by decide) (by decide) (by decide) (by decide)
    have m15 := meet_15 h.wf htk hk
    rw [htn] at m15
    have hvp := meets_vp (t := t) h.wm hk
    by_cases q : (s_meets t k M).1 = -1
    · rw [q, p69_w]
      unfold lwR
      rw [← m1, q, if_pos (show (-1 : Int32) < 0 by decide)]
      obtain ⟨w1, w2, w3⟩ := m2.wrt (by omega) ht hk (by rw [m15, h0]; decide) hv
      rw [ptL_end (show ¬ (0 : Int32) = -99 by decide)]
      exact ⟨w1.symm, w2, w3.trans m31⟩
    · have := cP_pos (hvp q)
      omega
  | succ f ih =>
    intro n B C M h hB hfn h0 hm
    obtain ⟨n, rfl⟩ : ∃ n', n = n' + 1 := ⟨n - 1, by omega⟩
    have hn := h.wf.n40
    have htk : tok nt (nI t) := tok_nI ht hn
    have htn : (nI t).toNatClampNeg = t := nI_clamp (by omega)
    rw [show ptL (nI t) v k (n + 1) (-99) C = ptL (nI t) v k n (lwR C (nI t) k v).1 (lwR C (nI t) k v).2 from by conv => lhs; unfold ptL; rw [if_pos rfl]]
    obtain ⟨m1, m2⟩ := h.meet (by omega) ht hk
    have m31 : (s_meets t k M).2 31 = M 31 := meets_r (by decide) (by decide) (by decide) (by decide) (by decide) (by decide) (by decide) (by decide)
    have m15 := meet_15 h.wf htk hk
    rw [htn] at m15
    have hvp := meets_vp (t := t) h.wm hk
    have mtr := meetR_trv (t := nI t) h.wf hk
    by_cases q : (s_meets t k M).1 = -1
    · rw [q, p69_w]
      unfold lwR
      rw [← m1, q, if_pos (show (-1 : Int32) < 0 by decide)]
      obtain ⟨w1, w2, w3⟩ := m2.wrt (by omega) ht hk (by rw [m15, h0]; decide) hv
      rw [ptL_end (show ¬ (0 : Int32) = -99 by decide)]
      exact ⟨w1.symm, w2.mono (by omega), w3.trans m31⟩
    · have hvp := hvp q
      rw [p69_s q]
      unfold lwR
      rw [htn, ← m1]
      rw [← m1] at mtr
      have mt := mtr.resolve_left q
      generalize hz : (s_meets t k M).1 = z at q hvp mt
      rw [if_neg mt.1, ← m2.t.2.2.1 t ht, ← m2.t.2.2.1 _ mt.2]
      have hu0 : meetC C (nI t) k 15 z.toNatClampNeg = 0 := by
        rw [m2.t.2.2.2.2.1 _ mt.2]
        exact hvp.2
      have e15D : meetC C (nI t) k 15 t = 0 := m15.trans h0
      by_cases q2 : meetC C (nI t) k 13 z.toNatClampNeg < meetC C (nI t) k 13 t
      · rw [if_pos q2, if_neg (Int32.not_le.mpr q2)]
        have e : s_meets t k (up (up (s_meets t k M).2 23 z.toNatClampNeg 3) 7 k (-1)) = (-1, up (up (s_meets t k M).2 23 z.toNatClampNeg 3) 7 k (-1)) := by
          unfold s_meets
          rw [up_eq, if_pos rfl]
        rw [e, p69_w]
        have hne : t ≠ z.toNatClampNeg := by
          intro y
          rw [← y] at q2
          exact Int32.lt_irrefl q2
        have hE := (m2.r15 mt.2 (x := 3) (by rw [hu0]; decide) (by decide)).own0 (k := k)
        obtain ⟨w1, w2, w3⟩ := hE.wrt (by omega) ht hk (by rw [up_row (by decide), up_ne (Or.inr hne), e15D]; decide) hv
        rw [lw3_6 (by omega)] at w2
        rw [ptL_end (show ¬ (0 : Int32) = -99 by decide)]
        exact ⟨w1.symm, w2.mono (by omega), by rw [w3, up_row (by decide), up_row (by decide)]; exact m31⟩
      · rw [if_neg q2, if_pos (Int32.not_lt.mp q2)]
        obtain ⟨w1, w2⟩ := m2.waits ht e15D mt hu0
        have w31 : (s_comesAnew t z (s_meets t k M).2).2 31 = M 31 := (ca_r (by decide) (by decide)).trans m31
        rcases w2 with ⟨w2, w3, w4⟩ | ⟨w2, w3⟩
        · rw [if_pos w2]
          show (ptL (nI t) v k n (waR _ _ _) (waC _ _ _)).1 = _ ∧ _
          rw [ptL_end w4]
          exact ⟨w3, w1.mono (by omega), w31⟩
        · rw [if_neg w2]
          show (ptL (nI t) v k n (waR _ _ _) (waC _ _ _)).1 = _ ∧ _
          rw [w3]
          have e23D : (s_meets t k M).2 23 t = 0 := by
            rw [← m2.t.2.2.2.2.1 t ht]
            exact e15D
          obtain ⟨y1, y2, y3⟩ := pt_b (t := t) m2.wm hk ht e23D hvp w2
          have e15' : waC (meetC C (nI t) k) (nI t) z 15 t = 0 := by
            rw [w1.t.2.2.2.2.1 t ht]
            obtain ⟨a1, a2⟩ := (ca_ok m2.wm ht e23D hvp).2 w2
            exact a2.trans e23D
          obtain ⟨x1, x2, x3⟩ := ih n B _ _ w1 (by omega) (by omega) e15' (by omega)
          exact ⟨x1, x2.mono (by omega), x3.trans w31⟩
/-- put, where there are such a transaction, key and value -/
theorem Inv.put (h : Inv nt B R C M) (hB : B ≤ 600000) {t k : Nat} (ht : t < nt) (hk : k < 32) {v : Int32} (h1 : ¬ v < 0) (h2 : v ≤ 1000) : (ptS C (nI t) k v).1 = (s_put t k v M).1 ∧ Inv nt (B + 100) R (ptS C (nI t) k v).2 (s_put t k v M).2 ∧ (s_put t k v M).2 31 0 = 0 := by
  have hn := h.wf.n40
  have htn : (nI t).toNatClampNeg = t := nI_clamp (by omega)
  have hv : bd 1000 v := by
    obtain ⟨j, j1, j2⟩ := nI_of2 (M := 1000) (n := 1000) (by decide) h1 h2
    exact ⟨j, j1, j2⟩
  have hm : Inv nt B R C (up M 31 0 0) := h.m31
  obtain ⟨o1, o2, o3, o4⟩ := hm.opens (by omega) ht hk
  have e0 : s_put t k v M = (if (s_opens t (nI k) (up M 31 0 0)).1 = 0 then s_put_69 t k v 41 (s_meets t k (s_opens t (nI k) (up M 31 0 0)).2).1 (s_meets t k (s_opens t (nI k) (up M 31 0 0)).2).2 else ((s_opens t (nI k) (up M 31 0 0)).1, (s_opens t (nI k) (up M 31 0 0)).2)) := by
    unfold s_put
    rw [aT_in hn h.t.1 ht hk, if_neg (show ¬ (1 : Int32) = 0 by decide), in_1 h1 (Int32.not_lt.mpr h2), if_neg (show ¬ (1 : Int32) = 0 by decide)]
    show (if (s_opens t (nI k) (up (up M 31 0 0) 31 0 0)).1 = 0 then _ else _) = _
    rw [up_up]
  rw [e0]
  unfold ptS
  rw [htn, o1]
  by_cases q : refS C t k = 0
  · rw [if_pos q, if_pos q]
    obtain ⟨p1, p2⟩ := o3 q
    have hask15 := ask_15 (C := C) (t := nI t) (k := k) (n := (C 4 k).toNatClampNeg) (by rw [htn]; exact q) rfl
    rw [htn] at hask15
    have hcp := cP_le (M := (s_meets t k (s_opens t (nI k) (up M 31 0 0)).2).2) (n := nt)
    obtain ⟨x1, x2, x3⟩ := pu_ok ht hk hv 41 1000000 (B + 1) _ _ p1 (by omega) (by omega) hask15 (by omega)
    exact ⟨x1, x2.mono (by omega), by rw [x3, o2, up_eq]⟩
  · rw [if_neg q, if_neg q]
    refine ⟨rfl, ?_, by show (s_opens t (nI k) (up M 31 0 0)).2 31 0 = 0; rw [o2, up_eq]⟩
    show Inv nt (B + 100) R C (s_opens t (nI k) (up M 31 0 0)).2
    rw [o4 q]
    exact hm.mono (by omega)
end PUT
