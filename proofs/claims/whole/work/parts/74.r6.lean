/-! call by call: what the class answers, what the reference answers -/
def IAE : String := "java/lang/IllegalArgumentException"
def ISE : String := "java/lang/IllegalStateException"
def IOE : String := "java/lang/IndexOutOfBoundsException"
/-- how a call of the class comes back: an answer, or one of the exceptions es, by its number -/
def Out (g : GT) (K : MK) (av : List Value) (es : List (Int32 × String)) (nt : Nat) (C M : St) (k v : Int32) (C' : St) : Prop :=
  (k = 0 ∧ ∃ mc ms, mc + cap C ≤ cap C' ∧ ms + 4 * cap C ≤ 4 * cap C' ∧ ∀ o, RET g K mc ms av nt C M o (some (.int v)) C' M o) ∨ (C' = C ∧ ∃ E, (k, E) ∈ es ∧ ∀ o, THR g K 1 6 av nt C M o E)
def CF (g : GT) (Kc Km : MK) (av : List Value) (es : List (Int32 × String)) (nt B R : Nat) (C M : St) : Prop :=
  ∃ (k v : Int32) (C' : St) (r : Int32 × St) (R' : Nat), Out g Kc (.ref (ad g 0) :: av) es nt C M k v C' ∧ (∀ o, RET g Km 0 0 (.ref (ad g 10) :: av) nt C' M o (some (.int r.1)) C' r.2 o) ∧ Inv nt (B + 100) R' C' r.2 ∧ r.2 31 0 = k ∧ (k = 0 → r.1 = v)
section CFS
variable {g : GT} {nt B R : Nat} {C M : St}
theorem cf_ret {Kc Km : MK} {av : List Value} {es : List (Int32 × String)} {v : Int32} {C' : St} {r : Int32 × St} {R' : Nat} (hc : cap C ≤ cap C') (h1 : ∀ o, RET g Kc 0 0 (.ref (ad g 0) :: av) nt C M o (some (.int v)) C' M o) (h2 : ∀ o, RET g Km 0 0 (.ref (ad g 10) :: av) nt C' M o (some (.int r.1)) C' r.2 o) (h3 : Inv nt (B + 100) R' C' r.2) (h4 : r.2 31 0 = 0) (h5 : r.1 = v) : CF g Kc Km av es nt B R C M :=
  ⟨0, v, C', r, R', Or.inl ⟨rfl, 0, 0, by omega, by omega, h1⟩, h2, h3, h4, fun _ => h5⟩
theorem cf_retc {Kc Km : MK} {av : List Value} {es : List (Int32 × String)} {v : Int32} {C' : St} {r : Int32 × St} {R' : Nat} (hc : cap C ≤ cap C') (h1 : ∀ o, RET g Kc (cap C' - cap C) (4 * (cap C' - cap C)) (.ref (ad g 0) :: av) nt C M o (some (.int v)) C' M o) (h2 : ∀ o, RET g Km 0 0 (.ref (ad g 10) :: av) nt C' M o (some (.int r.1)) C' r.2 o) (h3 : Inv nt (B + 100) R' C' r.2) (h4 : r.2 31 0 = 0) (h5 : r.1 = v) : CF g Kc Km av es nt B R C M :=
  ⟨0, v, C', r, R', Or.inl ⟨rfl, _, _, by omega, by omega, h1⟩, h2, h3, h4, fun _ => h5⟩
theorem cf_thr {Kc Km : MK} {av : List Value} {es : List (Int32 × String)} {k : Int32} {E : String} {r : Int32 × St} {R' : Nat} (he : (k, E) ∈ es) (hk : k ≠ 0) (h1 : ∀ o, THR g Kc 1 6 (.ref (ad g 0) :: av) nt C M o E) (h2 : ∀ o, RET g Km 0 0 (.ref (ad g 10) :: av) nt C M o (some (.int r.1)) C r.2 o) (h3 : Inv nt (B + 100) R' C r.2) (h4 : r.2 31 0 = k) : CF g Kc Km av es nt B R C M :=
  ⟨k, 0, C, r, R', Or.inr ⟨rfl, E, he, h1⟩, h2, h3, h4, fun z => absurd z hk⟩
theorem ix_lt (x : Int32) {N : Nat} (hN : N < 2 ^ 31) : (x < 0 ∨ ¬ x < nI N) ∨ ∃ n, n < N ∧ x = nI n := by
  rcases pk_ix x hN with h | h | h
  · exact Or.inl (Or.inl h)
  · exact Or.inl (Or.inr (Int32.not_lt.mpr h))
  · exact Or.inr h
/-- outside 0 .. N: not in -/
theorem in_out {x : Int32} {N : Nat} (hN : N + 1 < 2 ^ 31) (h : x < 0 ∨ ¬ x < nI (N + 1)) : s_in x 0 (nI N) = 0 := by
  refine in_0 (h.imp id (fun z => ?_))
  exact Int32.lt_of_lt_of_le (nI_lt (Nat.lt_succ_self N) hN) (Int32.not_lt.mp z)
theorem in_in {n N : Nat} (hN : N < 2 ^ 31) (h : n ≤ N) : s_in (nI n) 0 (nI N) = 1 := in_1 (nI_pos (by omega)) (nI_nlt h hN)
theorem m31z {x : Int32} : up M 31 0 x 31 0 = x := up_eq
theorem Inv.w (h : Inv nt B R C M) {x : Int32} : Inv nt (B + 100) R C (up M 31 0 x) := (h.m31).mono (by omega)
theorem Inv.hn40 (h : Inv nt B R C M) : nt ≤ 40 := h.wf.n40
-- time and nodes
theorem pass_id {x : Int32} : up (up M 31 0 x) 0 0 (M 0 0 + 0) = up M 31 0 x := by
  rw [Int32.add_zero, show M 0 0 = up M 31 0 x 0 0 by rw [up_row (by decide)]]
  exact up_id
theorem cf_pass (h : Inv nt B R C M) (x : Int32) : CF g K_X4_pass K_X5_pass [.int x] [(1, IAE), (2, ISE)] nt B R C M := by
  have e0 := h.n.2.1
  by_cases q1 : x < 1 ∨ ¬ x ≤ 50
  · have es : s_pass x M = (0, up M 31 0 1) := by
      unfold s_pass
      rw [in_0 (q1.imp id Int32.not_le.mp), if_pos rfl, pass_id]
    refine cf_thr (k := 1) (E := IAE) (r := s_pass x M) (R' := R) (by decide) (by decide) (fun o => th_pass1 q1) (fun o => om_pass) ?_ ?_
    · rw [es]; exact h.w
    · rw [es]; exact m31z (M := M)
  · have q2 : ¬ x < 1 := fun z => q1 (Or.inl z)
    have q3 : x ≤ 50 := Classical.not_not.mp (fun z => q1 (Or.inr z))
    by_cases q4 : C 0 0 + x ≤ 2000
    · have es : s_pass x M = (C 0 0 + x, up (up M 31 0 0) 0 0 (C 0 0 + x)) := by
        unfold s_pass
        rw [in_1 q2 (Int32.not_lt.mpr q3), if_neg (by decide), ← e0, if_pos q4]
      have hb : bd 2000 (C 0 0 + x) := by
        obtain ⟨a, b⟩ := bd_toInt h.n.2.2.1 (by decide)
        have c1 := Int32.le_iff_toInt_le.mp (Int32.not_lt.mp q2)
        have c2 := Int32.le_iff_toInt_le.mp q3
        rw [show (1 : Int32).toInt = 1 from by decide] at c1
        rw [show (50 : Int32).toInt = 50 from by decide] at c2
        have hv : (C 0 0 + x).toInt = (C 0 0).toInt + x.toInt := by
          rw [Int32.toInt_add]
          exact Int.bmod_eq_of_le (by omega) (by omega)
        have c3 := Int32.le_iff_toInt_le.mp q4
        rw [hv, show (2000 : Int32).toInt = 2000 from by decide] at c3
        exact bd_of (by omega) (by omega) (by decide)
      refine cf_ret (r := s_pass x M) (R' := R) ?_ (fun o => ok_pass q2 q3 q4) (fun o => om_pass) ?_ ?_ ?_
      · rw [cap_up (by decide)]; exact Nat.le_refl _
      · rw [es]; exact (h.w (x := 0)).time hb
      · rw [es]
        show up (up M 31 0 0) 0 0 (C 0 0 + x) 31 0 = 0
        rw [up_row (by decide), up_eq]
      · rw [es]
    · have es : s_pass x M = (0, up M 31 0 2) := by
        unfold s_pass
        rw [in_1 q2 (Int32.not_lt.mpr q3), if_neg (by decide), ← e0, if_neg q4, e0, pass_id]
      refine cf_thr (k := 2) (E := ISE) (r := s_pass x M) (R' := R) (by decide) (by decide) (fun o => th_pass2 q2 q3 q4) (fun o => om_pass) ?_ ?_
      · rw [es]; exact h.w
      · rw [es]; exact m31z (M := M)
theorem cf_skew (h : Inv nt B R C M) (x y : Int32) : CF g K_X4_skew K_X5_skew [.int x, .int y] [(1, IOE), (2, IAE)] nt B R C M := by
  rcases ix_lt x (N := 4) (by decide) with q | ⟨n, hn, rfl⟩
  · have es : s_skew x y M = (0, up M 31 0 1) := by
      unfold s_skew
      rw [show s_in x 0 3 = 0 from in_out (N := 3) (by decide) q, if_pos rfl]
    refine cf_thr (k := 1) (E := IOE) (r := s_skew x y M) (R' := R) (by decide) (by decide) (fun o => th_skew1 q) (fun o => om_skew) ?_ ?_
    · rw [es]; exact h.w
    · rw [es]; exact m31z (M := M)
  · have hnn : (nI n).toNatClampNeg = n := nI_clamp (by omega)
    have hi : s_in (nI n) 0 3 = 1 := in_in (N := 3) (by decide) (by omega)
    by_cases q1 : y < -5 ∨ ¬ y ≤ 5
    · have es : s_skew (nI n) y M = (0, up M 31 0 2) := by
        unfold s_skew
        rw [hi, if_neg (by decide), in_0 (q1.imp id Int32.not_le.mp), if_pos rfl]
      refine cf_thr (k := 2) (E := IAE) (r := s_skew (nI n) y M) (R' := R) (by decide) (by decide) (fun o => th_skew2 hn q1) (fun o => om_skew) ?_ ?_
      · rw [es]; exact h.w
      · rw [es]; exact m31z (M := M)
    · have q2 : ¬ y < -5 := fun z => q1 (Or.inl z)
      have q3 : y ≤ 5 := Classical.not_not.mp (fun z => q1 (Or.inr z))
      have es : s_skew (nI n) y M = (C 1 n, up (up M 31 0 0) 1 n y) := by
        unfold s_skew
        rw [hi, if_neg (by decide), in_1 q2 (Int32.not_lt.mpr q3), if_neg (by decide), hnn, h.n.2.2.2.1 n hn]
      have c1 := Int32.le_iff_toInt_le.mp (Int32.not_lt.mp q2)
      have c2 := Int32.le_iff_toInt_le.mp q3
      rw [show (-5 : Int32).toInt = -5 from by decide] at c1
      rw [show (5 : Int32).toInt = 5 from by decide] at c2
      refine cf_ret (r := s_skew (nI n) y M) (R' := R) ?_ (fun o => ok_skew hn q2 q3) (fun o => om_skew) ?_ ?_ ?_
      · rw [cap_up (by decide)]; exact Nat.le_refl _
      · rw [es]; exact (h.w (x := 0)).skew ⟨c1, c2⟩
      · rw [es]
        show up (up M 31 0 0) 1 n y 31 0 = 0
        rw [up_row (by decide), up_eq]
      · rw [es]
theorem cap_tell {n : Nat} {T : Int32} : cap (tellS C n T) = cap C := cap_up (by decide)
theorem cf_clock (h : Inv nt B R C M) (hB : B ≤ 800000) (x : Int32) : CF g K_X4_clock K_X5_clock [.int x] [(1, IOE), (2, ISE)] nt B R C M := by
  rcases ix_lt x (N := 4) (by decide) with q | ⟨n, hn, rfl⟩
  · have es : s_clock x M = (0, up M 31 0 1) := by
      unfold s_clock
      rw [show s_in x 0 3 = 0 from in_out (N := 3) (by decide) q, if_pos rfl]
    refine cf_thr (k := 1) (E := IOE) (r := s_clock x M) (R' := R) (by decide) (by decide) (fun o => th_clock1 q) (fun o => om_clock) ?_ ?_
    · rw [es]; exact h.w
    · rw [es]; exact m31z (M := M)
  · have hnn : (nI n).toNatClampNeg = n := nI_clamp (by omega)
    have hi : s_in (nI n) 0 3 = 1 := in_in (N := 3) (by decide) (by omega)
    have e3 := h.n.2.2.2.2.2.2.2 n hn
    by_cases q1 : C 3 n = 0
    · have es : s_clock (nI n) M = s_asks n (up M 31 0 0) := by
        unfold s_clock
        rw [hi, if_neg (by decide), hnn, ← e3, if_pos q1]
      obtain ⟨a1, a2, a3, a4⟩ := (h.m31 (i := 0) (x := 0)).asks (by omega) hn
      refine cf_ret (r := s_clock (nI n) M) (R' := R) ?_ (fun o => ok_clock hn q1) (fun o => om_clock) ?_ ?_ ?_
      · rw [cap_tell]; exact Nat.le_refl _
      · rw [es]; exact a2.mono (by omega)
      · rw [es, asks_r (by decide), up_eq]
      · rw [es]; exact a1.symm
    · have es : s_clock (nI n) M = (0, up M 31 0 2) := by
        unfold s_clock
        rw [hi, if_neg (by decide), hnn, ← e3, if_neg q1]
      refine cf_thr (k := 2) (E := ISE) (r := s_clock (nI n) M) (R' := R) (by decide) (by decide) (fun o => th_clock2 hn q1) (fun o => om_clock) ?_ ?_
      · rw [es]; exact h.w
      · rw [es]; exact m31z (M := M)
theorem cf_closed (h : Inv nt B R C M) : CF g K_X4_closed K_X5_closed [] [] nt B R C M := by
  refine cf_ret (r := s_closed M) (R' := R) (Nat.le_refl _) (fun o => ok_closed) (fun o => om_closed) h.w (m31z (M := M)) ?_
  exact (h.m31 (i := 0) (x := 0)).closed
theorem dn_ok {n : Nat} : ∀ (m i : Nat) (c : Int32) (C M : St), i + m = 32 → Inv nt B R C M → (dnS n m i c C).1 = (s_down_51 (nI n) m c i M).1 ∧ Inv nt B R (dnS n m i c C).2 (s_down_51 (nI n) m c i M).2 ∧ (s_down_51 (nI n) m c i M).2 31 = M 31 ∧ (dnS n m i c C).2 27 = C 27
  | 0, i, c, C, M, hi, h => ⟨rfl, h, rfl, rfl⟩
  | m + 1, i, c, C, M, hi, h => by
    unfold dnS s_down_51
    rw [h.node (by omega), ← h.k.1 i (by omega), ← h.k.2.1 i (by omega)]
    have hn := h.wf.n40
    by_cases q1 : C 4 i = nI n
    · rw [if_pos q1, if_pos q1]
      have e : C 6 i < 0 ↔ C 6 i = -1 := by
        rcases h.wf.wo i (by omega) with z | z
        · rw [z]; exact ⟨fun _ => rfl, fun _ => by decide⟩
        · exact ⟨fun y => absurd y z.1, fun y => by rw [y]; decide⟩
      by_cases q2 : C 6 i = -1
      · rw [if_pos (e.mpr q2), if_pos q2]
        exact dn_ok m (i + 1) c C M (by omega) h
      · rw [if_neg (fun z => q2 (e.mp z)), if_neg q2]
        by_cases q3 : C 7 i = 0
        · rw [if_pos q3, if_pos q3]
          obtain ⟨r1, r2, r3, r4⟩ := dn_ok (n := n) m (i + 1) (c + 1) _ _ (by omega) (h.own0 (k := i))
          exact ⟨r1, r2, r3.trans (up_row (by decide)), r4.trans (up_row (by decide))⟩
        · rw [if_neg q3, if_neg q3]
          exact dn_ok m (i + 1) c C M (by omega) h
    · rw [if_neg q1, if_neg q1]
      exact dn_ok m (i + 1) c C M (by omega) h
theorem cap_27 {C C' : St} (e : C' 27 = C 27) : cap C' = cap C := by unfold cap; rw [e]
theorem cf_down (h : Inv nt B R C M) (x : Int32) : CF g K_X4_down K_X5_down [.int x] [(1, IOE), (2, ISE)] nt B R C M := by
  obtain ⟨r1, r2, r3, -⟩ := h.r
  rcases ix_lt x (N := 4) (by decide) with q | ⟨n, hn, rfl⟩
  · have es : s_down x M = (0, up M 31 0 1) := by
      unfold s_down
      rw [show s_in x 0 3 = 0 from in_out (N := 3) (by decide) q, if_pos rfl]
    refine cf_thr (k := 1) (E := IOE) (r := s_down x M) (R' := R) (by decide) (by decide) (fun o => th_down1 q) (fun o => om_down r1 r2 r3) ?_ ?_
    · rw [es]; exact h.w
    · rw [es]; exact m31z (M := M)
  · have hnn : (nI n).toNatClampNeg = n := nI_clamp (by omega)
    have hi : s_in (nI n) 0 3 = 1 := in_in (N := 3) (by decide) (by omega)
    have e3 := h.n.2.2.2.2.2.2.2 n hn
    by_cases q1 : C 3 n = 0
    · have es : s_down (nI n) M = s_down_51 (nI n) 32 0 0 (up (up M 31 0 0) 3 n 1) := by
        unfold s_down
        rw [hi, if_neg (by decide), hnn, ← e3, if_pos q1]
      obtain ⟨a1, a2, a3, a4⟩ := dn_ok (n := n) 32 0 0 _ _ (by omega) ((h.w (x := 0)).isd (n := n) (x := 1))
      refine cf_ret (r := s_down (nI n) M) (R' := R) ?_ (fun o => ok_down hn q1) (fun o => om_down r1 r2 r3) ?_ ?_ ?_
      · rw [cap_27 (a4.trans (up_row (by decide)))]; exact Nat.le_refl _
      · rw [es]; exact a2
      · rw [es, a3, up_row (by decide), up_eq]
      · rw [es]; exact a1.symm
    · have es : s_down (nI n) M = (0, up M 31 0 2) := by
        unfold s_down
        rw [hi, if_neg (by decide), hnn, ← e3, if_neg q1]
      refine cf_thr (k := 2) (E := ISE) (r := s_down (nI n) M) (R' := R) (by decide) (by decide) (fun o => th_down2 hn q1) (fun o => om_down r1 r2 r3) ?_ ?_
      · rw [es]; exact h.w
      · rw [es]; exact m31z (M := M)
theorem sy_ok {n : Nat} : ∀ (m i : Nat) (c : Int32) (C M : St), i + m = 32 → M 31 0 = 0 → Inv nt B R C M → (syS n m i c C).1 = (s_sync_35 (nI n) m c i M).1 ∧ Inv nt B R (syS n m i c C).2 (s_sync_35 (nI n) m c i M).2 ∧ (s_sync_35 (nI n) m c i M).2 31 = M 31 ∧ (syS n m i c C).2 27 = C 27
  | 0, i, c, C, M, hi, h31, h => ⟨rfl, h, rfl, rfl⟩
  | m + 1, i, c, C, M, hi, h31, h => by
    unfold syS s_sync_35
    rw [if_pos h31, h.node (by omega), ← h.k.1 i (by omega), ← h.k.2.1 i (by omega)]
    have hn := h.wf.n40
    by_cases q1 : C 4 i = nI n
    · rw [if_pos q1, if_pos q1]
      have e : C 6 i < 0 ↔ C 6 i = -1 := by
        rcases h.wf.wo i (by omega) with z | z
        · rw [z]; exact ⟨fun _ => rfl, fun _ => by decide⟩
        · exact ⟨fun y => absurd y z.1, fun y => by rw [y]; decide⟩
      by_cases q2 : C 6 i = -1
      · rw [if_pos (e.mpr q2), if_pos q2]
        exact sy_ok m (i + 1) c C M (by omega) h31 h
      · rw [if_neg (fun z => q2 (e.mp z)), if_neg q2]
        by_cases q3 : C 7 i = 0
        · rw [if_pos q3, if_pos q3]
          obtain ⟨r1, r2, r3, r4⟩ := sy_ok (n := n) m (i + 1) (c + 1) _ _ (by omega) (by rw [up_row (by decide)]; exact h31) (h.sure (k := i) (x := 1))
          exact ⟨r1, r2, r3.trans (up_row (by decide)), r4.trans (up_row (by decide))⟩
        · rw [if_neg q3, if_neg q3]
          exact sy_ok m (i + 1) c C M (by omega) h31 h
    · rw [if_neg q1, if_neg q1]
      exact sy_ok m (i + 1) c C M (by omega) h31 h
theorem sy_0 {x : Int32} (h : ¬ M 31 0 = 0) : s_sync_35 x 32 0 0 M = (0, M) := by
  rw [show s_sync_35 x 32 0 0 M = (if (M 31 0) = (0 : Int32) then (if (s_nodeOf (nI 0) M) = x then (if (M 7 0) = (-1 : Int32) then (s_sync_35 x 31 0 (0 + 1) M) else (if (M 8 0) = (0 : Int32) then (s_sync_35 x 31 (0 + (1 : Int32)) (0 + 1) (up M 8 0 (1 : Int32))) else (s_sync_35 x 31 0 (0 + 1) M))) else (s_sync_35 x 31 0 (0 + 1) M)) else (0, M)) from rfl, if_neg h]
theorem cf_sync (h : Inv nt B R C M) (x : Int32) : CF g K_X4_sync K_X5_sync [.int x] [(1, IOE), (2, ISE)] nt B R C M := by
  obtain ⟨r1, r2, r3, -⟩ := h.r
  rcases ix_lt x (N := 4) (by decide) with q | ⟨n, hn, rfl⟩
  · have es : s_sync x M = (0, up M 31 0 1) := by
      unfold s_sync
      rw [show s_in x 0 3 = 0 from in_out (N := 3) (by decide) q, if_pos rfl, sy_0 (by rw [up_eq]; decide)]
    refine cf_thr (k := 1) (E := IOE) (r := s_sync x M) (R' := R) (by decide) (by decide) (fun o => th_sync1 q) (fun o => om_sync r1 r2 r3) ?_ ?_
    · rw [es]; exact h.w
    · rw [es]; exact m31z (M := M)
  · have hnn : (nI n).toNatClampNeg = n := nI_clamp (by omega)
    have hi : s_in (nI n) 0 3 = 1 := in_in (N := 3) (by decide) (by omega)
    have e3 := h.n.2.2.2.2.2.2.2 n hn
    by_cases q1 : C 3 n = 0
    · have es : s_sync (nI n) M = s_sync_35 (nI n) 32 0 0 (up M 31 0 0) := by
        unfold s_sync
        rw [hi, if_neg (by decide), hnn, ← e3, if_pos q1]
      obtain ⟨a1, a2, a3, a4⟩ := sy_ok (n := n) 32 0 0 _ _ (by omega) (m31z (M := M)) (h.w (x := 0))
      refine cf_ret (r := s_sync (nI n) M) (R' := R) ?_ (fun o => ok_sync hn q1) (fun o => om_sync r1 r2 r3) ?_ ?_ ?_
      · rw [cap_27 a4]; exact Nat.le_refl _
      · rw [es]; exact a2
      · rw [es, a3, up_eq]
      · rw [es]; exact a1.symm
    · have es : s_sync (nI n) M = (0, up M 31 0 2) := by
        unfold s_sync
        rw [hi, if_neg (by decide), hnn, ← e3, if_neg q1, sy_0 (by rw [up_eq]; decide)]
      refine cf_thr (k := 2) (E := ISE) (r := s_sync (nI n) M) (R' := R) (by decide) (by decide) (fun o => th_sync2 hn q1) (fun o => om_sync r1 r2 r3) ?_ ?_
      · rw [es]; exact h.w
      · rw [es]; exact m31z (M := M)
theorem noteS_27 {C : St} {k : Nat} {s : Int32} : noteS C k s 27 = C 27 := noteS_row (by decide) (by decide)
theorem up_ok {n : Nat} {s : Int32} (hs : bd B s) : ∀ (m i : Nat) (C M : St), i + m = 32 → Inv nt B R C M → (s_up_55 (nI n) m s i M).1 = s ∧ Inv nt B R (upS n s m i C) (s_up_55 (nI n) m s i M).2 ∧ (s_up_55 (nI n) m s i M).2 31 = M 31 ∧ upS n s m i C 27 = C 27
  | 0, i, C, M, hi, h => ⟨rfl, h, rfl, rfl⟩
  | m + 1, i, C, M, hi, h => by
    unfold upS s_up_55
    rw [h.node (by omega)]
    by_cases q1 : C 4 i = nI n
    · rw [if_pos q1, if_pos q1]
      obtain ⟨r1, r2, r3, r4⟩ := up_ok (n := n) hs m (i + 1) _ _ (by omega) (h.notes (show i < 32 by omega) hs)
      exact ⟨r1, r2, r3.trans (cov_row (by decide) (by decide)), r4.trans noteS_27⟩
    · rw [if_neg q1, if_neg q1]
      exact up_ok hs m (i + 1) C M (by omega) h
theorem cf_up (h : Inv nt B R C M) (hB : B ≤ 800000) (x : Int32) : CF g K_X4_up K_X5_up [.int x] [(1, IOE), (2, ISE)] nt B R C M := by
  obtain ⟨r1, r2, r3, -⟩ := h.r
  rcases ix_lt x (N := 4) (by decide) with q | ⟨n, hn, rfl⟩
  · have es : s_up x M = (0, up M 31 0 1) := by
      unfold s_up
      rw [show s_in x 0 3 = 0 from in_out (N := 3) (by decide) q, if_pos rfl]
    refine cf_thr (k := 1) (E := IOE) (r := s_up x M) (R' := R) (by decide) (by decide) (fun o => th_up1 q) (fun o => om_up r1 r2 r3) ?_ ?_
    · rw [es]; exact h.w
    · rw [es]; exact m31z (M := M)
  · have hnn : (nI n).toNatClampNeg = n := nI_clamp (by omega)
    have hi : s_in (nI n) 0 3 = 1 := in_in (N := 3) (by decide) (by omega)
    have e3 := h.n.2.2.2.2.2.2.2 n hn
    by_cases q1 : C 3 n = 0
    · have es : s_up (nI n) M = (0, up M 31 0 2) := by
        unfold s_up
        rw [hi, if_neg (by decide), hnn, ← e3, if_pos q1]
      refine cf_thr (k := 2) (E := ISE) (r := s_up (nI n) M) (R' := R) (by decide) (by decide) (fun o => th_up2 hn q1) (fun o => om_up r1 r2 r3) ?_ ?_
      · rw [es]; exact h.w
      · rw [es]; exact m31z (M := M)
    · have es : s_up (nI n) M = s_up_55 (nI n) 32 (s_asks n (up (up M 31 0 0) 3 n 0)).1 0 (s_asks n (up (up M 31 0 0) 3 n 0)).2 := by
        unfold s_up
        rw [hi, if_neg (by decide), hnn, ← e3, if_neg q1]
      have h1 : Inv nt B R (up C 3 n 0) (up (up M 31 0 0) 3 n 0) := (h.m31).isd
      obtain ⟨a1, a2, a3, a4⟩ := h1.asks (by omega) hn
      rw [up_row (show 0 ≠ 3 by decide)] at a1 a2
      have ev : upV C n = (s_asks n (up (up M 31 0 0) 3 n 0)).1 := a1
      have hz : Inv nt (B + 1) R (upZ C n) (s_asks n (up (up M 31 0 0) 3 n 0)).2 := a2
      obtain ⟨b1, b2, b3, b4⟩ := up_ok (n := n) a3 32 0 _ _ (by omega) hz
      refine cf_ret (r := s_up (nI n) M) (R' := R) ?_ (fun o => ok_up hn q1) (fun o => om_up r1 r2 r3) ?_ ?_ ?_
      · rw [ev, cap_27 b4]
        have : cap (upZ C n) = cap C := by
          unfold upZ
          rw [cap_tell, cap_up (by decide)]
        omega
      · rw [es, ev]; exact b2.mono (by omega)
      · rw [es, b3, asks_r (by decide), up_row (by decide), up_eq]
      · rw [es, ev]; exact b1
end CFS
