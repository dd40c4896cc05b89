/-! begin: what the class answers, what the reference answers -/
theorem b157 {x y : Int32} {nt : Nat} (hnt : nt < 40) : ∀ (n i : Nat) (M : St), i + n = 4 → (s_begin_157 x y n (nI nt) i M).1 = nI nt ∧ (∀ w, w ≠ 27 → w ≠ 28 → w ≠ 29 → (s_begin_157 x y n (nI nt) i M).2 w = M w) ∧ (∀ l, (s_begin_157 x y n (nI nt) i M).2 27 l = if 4 * nt + i ≤ l ∧ l < 4 * nt + 4 then -1 else M 27 l) ∧ (∀ l, (s_begin_157 x y n (nI nt) i M).2 28 l = if 32 * nt ≤ l ∧ l < 32 * nt + 32 then -1 else M 28 l) ∧ (∀ l, (s_begin_157 x y n (nI nt) i M).2 29 l = if 32 * nt ≤ l ∧ l < 32 * nt + 32 then -1 else M 29 l)
  | 0, i, M, h => by
    unfold s_begin_157
    rw [nI_clamp (by omega)]
    unfold s_forgets
    obtain ⟨g1, g2, g3⟩ := fg_ok (t := nt) 32 0 M
    refine ⟨rfl, fun w _ h2 h3 => g1 w h2 h3, fun l => ?_, fun l => ?_, fun l => ?_⟩
    · rw [if_neg (by omega)]
      show s_forgets_2 nt 32 0 M 27 l = M 27 l
      rw [g1 27 (by decide) (by decide)]
    · exact g2 l
    · exact g3 l
  | n + 1, i, M, h => by
    unfold s_begin_157
    rw [nI_clamp (by omega)]
    obtain ⟨k1, k2, k3, k4, k5⟩ := b157 (x := x) (y := y) hnt n (i + 1) (up M 27 (4 * nt + i) (-1)) (by omega)
    refine ⟨k1, fun w h1 h2 h3 => by rw [k2 w h1 h2 h3, up_row h1], fun l => ?_, fun l => ?_, fun l => ?_⟩
    · rw [k3 l, up_self]
      by_cases e : l = 4 * nt + i
      · subst e
        rw [pk_us, if_pos (show 4 * nt + i ≤ 4 * nt + i ∧ _ by omega)]
        split <;> rfl
      · rw [pk_un e]
        by_cases e2 : 4 * nt + (i + 1) ≤ l ∧ l < 4 * nt + 4
        · rw [if_pos e2, if_pos (by omega)]
        · rw [if_neg e2, if_neg (by omega)]
    · rw [k4 l, up_row (by decide)]
    · rw [k5 l, up_row (by decide)]
section BEGC
variable {nt B R : Nat} {C M : St}
/-- how the two sides come back from begin when a transaction comes -/
theorem begin_new (h : Inv nt B R C M) (hB : B ≤ 800000) {c : Nat} (hc : c < 4) {x : Int32} (h0 : ¬ x < 0) (h9 : x ≤ 9) (hd : C 3 c = 0) (hlt : nt < 40) : (s_begin (nI c) x M).1 = nI nt ∧ (s_begin (nI c) x M).2 31 0 = 0 ∧ Inv (nt + 1) (B + 100) R (up (bg0 C nt c x) 10 0 (nI (nt + 1))) (s_begin (nI c) x M).2 := by
  have hcc : (nI c).toNatClampNeg = c := nI_clamp (by omega)
  have hnn : (nI nt).toNatClampNeg = nt := nI_clamp (by omega)
  have e3 := h.n.2.2.2.2.2.2.2 c hc
  have e16 := h.m16
  obtain ⟨a1, a2, a3, a4⟩ := (h.m31 (i := 0) (x := 0)).asks (by omega) hc
  -- the reference, unfolded
  have es : s_begin (nI c) x M = s_begin_157 (nI c) x 4 (nI nt) 0 (up (up (up (up (up (up (s_asks c (up (up (up (up M 31 0 0) 16 0 (nI nt + 1)) 17 nt (nI c)) 18 nt x)).2 19 nt (s_asks c (up (up (up (up M 31 0 0) 16 0 (nI nt + 1)) 17 nt (nI c)) 18 nt x)).1) 20 nt (s_asks c (up (up (up (up M 31 0 0) 16 0 (nI nt + 1)) 17 nt (nI c)) 18 nt x)).1) 21 nt ((s_asks c (up (up (up (up M 31 0 0) 16 0 (nI nt + 1)) 17 nt (nI c)) 18 nt x)).1 + 100)) 22 nt ((s_asks c (up (up (up (up M 31 0 0) 16 0 (nI nt + 1)) 17 nt (nI c)) 18 nt x)).2 0 0)) 23 nt 0) 24 nt (-1)) := by
    unfold s_begin
    rw [show s_in (nI c) 0 3 = 1 from in_in (N := 3) (by decide) (by omega), if_neg (by decide), in_1 h0 (Int32.not_lt.mpr h9), if_neg (by decide), hcc, ← e3, if_pos hd, e16, if_neg (fun z => by have := (nI_eq (a := nt) (b := 40) (by omega) (by decide)).mp z; omega), hnn]
  have ea1 : (s_asks c (up (up (up (up M 31 0 0) 16 0 (nI nt + 1)) 17 nt (nI c)) 18 nt x)).1 = (s_asks c (up M 31 0 0)).1 := by
    unfold s_asks
    simp (disch := decide) only [up_row]
  generalize hX : up (up (up (up M 31 0 0) 16 0 (nI nt + 1)) 17 nt (nI c)) 18 nt x = X at es ea1
  have ea2 : ∀ w, w ≠ 16 → w ≠ 17 → w ≠ 18 → (s_asks c X).2 w = (s_asks c (up M 31 0 0)).2 w := by
    intro w h1 h2 h3
    by_cases e : w = 2
    · subst e
      have z1 : (s_asks c X).2 2 = upd (X 2) c (s_asks c X).1 := by unfold s_asks; exact up_self
      have z2 : (s_asks c (up M 31 0 0)).2 2 = upd (up M 31 0 0 2) c (s_asks c (up M 31 0 0)).1 := by unfold s_asks; exact up_self
      rw [z1, z2, ea1, ← hX, up_row (by decide), up_row (by decide), up_row (by decide)]
    · rw [asks_r e, asks_r e, ← hX, up_row h3, up_row h2, up_row h1]
  have x16 : X 16 0 = nI (nt + 1) := by rw [← hX, up_row (by decide), up_row (by decide), up_eq, nI_1]
  have x17 : X 17 = upd ((s_asks c (up M 31 0 0)).2 17) nt (nI c) := by rw [← hX, up_row (by decide), up_self, up_row (by decide), asks_r (by decide)]
  have x18 : X 18 = upd ((s_asks c (up M 31 0 0)).2 18) nt x := by rw [← hX, up_self, up_row (by decide), up_row (by decide), asks_r (by decide)]
  have eT : (s_asks c X).2 0 0 = C 0 0 := by rw [ea2 0 (by decide) (by decide) (by decide), asks_r (by decide), up_row (by decide)]; exact h.n.2.1.symm
  have hst2 : tellS C c (C 0 0) 2 c = (s_asks c (up M 31 0 0)).1 := a1
  rw [eT, ea1] at es
  generalize hY : (up (up (up (up (up (up (s_asks c X).2 19 nt (s_asks c (up M 31 0 0)).1) 20 nt (s_asks c (up M 31 0 0)).1) 21 nt ((s_asks c (up M 31 0 0)).1 + 100)) 22 nt (C 0 0)) 23 nt 0) 24 nt (-1)) = Y at es
  have yE : ∀ w, w < 19 ∨ 24 < w → Y w = (s_asks c X).2 w := by
    intro w hw
    rw [← hY, up_row (by omega), up_row (by omega), up_row (by omega), up_row (by omega), up_row (by omega), up_row (by omega)]
  obtain ⟨k1, k2, k3, k4, k5⟩ := b157 (x := nI c) (y := x) hlt 4 0 Y rfl
  rw [← es] at k1 k2 k3 k4 k5
  have hup : ∀ {S : St} {v w : Nat} {z : Int32} {i : Nat}, i ≠ nt → up S v nt z w i = S w i := fun hi => up_ne (Or.inr hi)
  refine ⟨k1, ?_, ?_⟩
  · rw [k2 31 (by decide) (by decide) (by decide), yE 31 (by omega), ea2 31 (by decide) (by decide) (by decide), asks_r (by decide), up_eq]
  · refine Inv.mono (B := B + 1) ?_ (by omega)
    have hC10 : ∀ w, w ≠ 10 → up (bg0 C nt c x) 10 0 (nI (nt + 1)) w = bg0 C nt c x w := fun w hw => up_row hw
    have hT2 : ∀ w, w ≠ 2 → tellS C c (C 0 0) w = C w := fun w hw => tell_row hw
    obtain ⟨z1, z2, z3, z4, z5, z6, z7, z8, z9, z10, z11, z12⟩ := bgA_at (C := C) (nt := nt) (c := c) (r := x)
    refine Inv.fresh a2 hlt hc (x := x) (st := (s_asks c (up M 31 0 0)).1) (T := C 0 0) a3 a4 (by omega) up_eq (fun w hw => ?_) ?_ ?_ (fun w i h1 h2 hi => ?_) ?_ (fun i q hi hq => ?_) (fun w hw => ?_) ?_ (fun w i h1 h2 hi => ?_) ?_ (fun l => ?_) (fun l => ?_) (fun l => ?_)
    · rw [hC10 w (by omega)]
      by_cases e : w = 2
      · rw [e, bg0_lo (by decide) (by decide) (by decide), bgA_2]
      · rw [bg0_row (by omega) e (by omega) (by omega) (by omega), hT2 w e]
    · rw [hC10 30 (by decide), bg0_30, hT2 30 (by decide)]
    · rw [hC10 33 (by decide), bg0_33, hT2 33 (by decide)]
    · rw [hC10 w (by omega), bg0_ne h1 (by omega) hi, hT2 w (by omega)]
    · rw [hC10 11 (by decide), hC10 12 (by decide), hC10 13 (by decide), hC10 14 (by decide), hC10 15 (by decide), hC10 16 (by decide), hC10 17 (by decide), hC10 18 (by decide), hC10 19 (by decide), hC10 20 (by decide), hC10 21 (by decide), hC10 22 (by decide), bg0_lo (w := 11) (by decide) (by decide) (by decide), bg0_lo (w := 12) (by decide) (by decide) (by decide), bg0_lo (w := 13) (by decide) (by decide) (by decide), bg0_lo (w := 14) (by decide) (by decide) (by decide), bg0_lo (w := 15) (by decide) (by decide) (by decide), bg0_lo (w := 16) (by decide) (by decide) (by decide), bg0_lo (w := 17) (by decide) (by decide) (by decide), bg0_lo (w := 18) (by decide) (by decide) (by decide), bg0_lo (w := 19) (by decide) (by decide) (by decide), bg0_lo (w := 20) (by decide) (by decide) (by decide), bg0_lo (w := 21) (by decide) (by decide) (by decide), bg0_lo (w := 22) (by decide) (by decide) (by decide), z1, z2, z3, z4, z5, z6, z7, z8, z9, z10, z11, z12, hst2]
      exact ⟨rfl, rfl, rfl, rfl, rfl, rfl, rfl, rfl, rfl, rfl, rfl, rfl⟩
    · rw [hC10 _ (by omega), bg0_hi hi hq, hT2 _ (by omega)]
    · rw [k2 w (by omega) (by omega) (by omega), yE w (by omega), ea2 w (by omega) (by omega) (by omega)]
    · rw [k2 16 (by decide) (by decide) (by decide), yE 16 (by omega), asks_r (by decide), x16]
    · rw [k2 w (by omega) (by omega) (by omega)]
      have e1 : Y w i = (s_asks c X).2 w i := by rw [← hY, hup hi, hup hi, hup hi, hup hi, hup hi, hup hi]
      rw [e1]
      by_cases e17 : w = 17
      · rw [e17, asks_r (by decide), x17, pk_un hi]
      by_cases e18 : w = 18
      · rw [e18, asks_r (by decide), x18, pk_un hi]
      rw [ea2 w (by omega) e17 e18]
    · refine ⟨?_, ?_, ?_, ?_, ?_, ?_, ?_, ?_⟩
      · rw [k2 17 (by decide) (by decide) (by decide), yE 17 (by omega), asks_r (by decide), x17, pk_us]
      · rw [k2 18 (by decide) (by decide) (by decide), yE 18 (by omega), asks_r (by decide), x18, pk_us]
      · rw [k2 19 (by decide) (by decide) (by decide), ← hY, up_row (by decide), up_row (by decide), up_row (by decide), up_row (by decide), up_row (by decide), up_eq]
      · rw [k2 20 (by decide) (by decide) (by decide), ← hY, up_row (by decide), up_row (by decide), up_row (by decide), up_row (by decide), up_eq]
      · rw [k2 21 (by decide) (by decide) (by decide), ← hY, up_row (by decide), up_row (by decide), up_row (by decide), up_eq]
      · rw [k2 22 (by decide) (by decide) (by decide), ← hY, up_row (by decide), up_row (by decide), up_eq]
      · rw [k2 23 (by decide) (by decide) (by decide), ← hY, up_row (by decide), up_eq]
      · rw [k2 24 (by decide) (by decide) (by decide), ← hY, up_eq]
    · rw [k3 l, Nat.add_zero, yE 27 (by omega), ea2 27 (by decide) (by decide) (by decide)]
    · rw [k4 l, yE 28 (by omega), ea2 28 (by decide) (by decide) (by decide)]
    · rw [k5 l, yE 29 (by omega), ea2 29 (by decide) (by decide) (by decide)]
/-- how they come back when none comes -/
theorem begin_no {g : GT} (h : Inv nt B R C M) (x y : Int32) : (∃ k E, (k, E) ∈ [((1 : Int32), IOE), (2, IAE), (3, ISE)] ∧ (∀ o, THR g K_X4_begin 1 6 [.ref (ad g 0), .int x, .int y] nt C M o E) ∧ Inv nt (B + 100) R C (s_begin x y M).2 ∧ (s_begin x y M).2 31 0 = k ∧ k ≠ 0) ∨ (nt < 40 ∧ ∃ c, c < 4 ∧ x = nI c ∧ C 3 c = 0 ∧ ¬ y < 0 ∧ y ≤ 9) := by
  rcases ix_lt x (N := 4) (by decide) with q | ⟨n, hn, rfl⟩
  · have es : s_begin x y M = (0, up M 31 0 1) := by
      unfold s_begin
      rw [show s_in x 0 3 = 0 from in_out (N := 3) (by decide) q, if_pos rfl]
    refine Or.inl ⟨1, IOE, by decide, fun o => th_begin1 q, ?_, ?_, by decide⟩
    · rw [es]; exact h.w
    · rw [es]; exact m31z (M := M)
  · have hnn : (nI n).toNatClampNeg = n := nI_clamp (by omega)
    have hi : s_in (nI n) 0 3 = 1 := in_in (N := 3) (by decide) (by omega)
    have e3 := h.n.2.2.2.2.2.2.2 n hn
    by_cases q1 : y < 0 ∨ ¬ y ≤ 9
    · have es : s_begin (nI n) y M = (0, up M 31 0 2) := by
        unfold s_begin
        rw [hi, if_neg (by decide), in_0 (q1.imp id Int32.not_le.mp), if_pos rfl]
      refine Or.inl ⟨2, IAE, by decide, fun o => th_begin2 hn q1, ?_, ?_, by decide⟩
      · rw [es]; exact h.w
      · rw [es]; exact m31z (M := M)
    · have q2 : ¬ y < 0 := fun z => q1 (Or.inl z)
      have q3 : y ≤ 9 := Classical.not_not.mp (fun z => q1 (Or.inr z))
      by_cases q4 : C 3 n = 0
      · by_cases q5 : nt = 40
        · have es : s_begin (nI n) y M = (0, up M 31 0 3) := by
            unfold s_begin
            rw [hi, if_neg (by decide), in_1 q2 (Int32.not_lt.mpr q3), if_neg (by decide), hnn, ← e3, if_pos q4, h.m16, q5, if_pos (show nI 40 = 40 from by decide +kernel)]
          refine Or.inl ⟨3, ISE, by decide, fun o => th_begin4 hn q2 q3 q4 (by rw [h.wf.b, q5]; decide), ?_, ?_, by decide⟩
          · rw [es]; exact h.w
          · rw [es]; exact m31z (M := M)
        · exact Or.inr ⟨by have := h.wf.n40; omega, n, hn, rfl, q4, q2, q3⟩
      · have es : s_begin (nI n) y M = (0, up M 31 0 3) := by
          unfold s_begin
          rw [hi, if_neg (by decide), in_1 q2 (Int32.not_lt.mpr q3), if_neg (by decide), hnn, ← e3, if_neg q4]
        refine Or.inl ⟨3, ISE, by decide, fun o => th_begin3 hn q2 q3 q4, ?_, ?_, by decide⟩
        · rw [es]; exact h.w
        · rw [es]; exact m31z (M := M)
end BEGC
