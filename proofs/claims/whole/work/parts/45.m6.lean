/-! the model's invariant of the walks; refreshing -/
set_option maxHeartbeats 100000
def ct3 (C : St) : Nat → Nat
  | 0 => 0
  | n + 1 => ct3 C n + (if C 23 n = 2 then 1 else 0)
theorem ct3_le {C : St} : ∀ {n : Nat}, ct3 C n ≤ n
  | 0 => Nat.le_refl 0
  | n + 1 => by
    have := ct3_le (C := C) (n := n)
    unfold ct3
    split <;> omega
theorem ct3_congr {C C' : St} (h : C' 23 = C 23) : ∀ {n : Nat}, ct3 C' n = ct3 C n
  | 0 => rfl
  | n + 1 => by
    unfold ct3
    rw [ct3_congr h, h]
theorem ct3_out {C : St} {x : Int32} {i : Nat} : ∀ {n : Nat}, n ≤ i → ct3 (up C 23 i x) n = ct3 C n
  | 0, _ => rfl
  | n + 1, h => by
    unfold ct3
    rw [ct3_out (by omega), up_ne (Or.inr (by omega))]
theorem ct3_set {C : St} {i : Nat} (h2 : C 23 i ≠ 2) : ∀ {n : Nat}, i < n → ct3 (up C 23 i 2) n = ct3 C n + 1
  | 0, h => absurd h (Nat.not_lt_zero i)
  | n + 1, h => by
    unfold ct3
    by_cases e : i = n
    · subst e
      rw [ct3_out (Nat.le_refl i), up_eq, if_pos rfl, if_neg h2]
    · rw [ct3_set h2 (by omega), up_ne (Or.inr (by omega))]
      omega
theorem ct3_keep {C : St} {x : Int32} {i : Nat} (h2 : C 23 i ≠ 2) (hx : x ≠ 2) : ∀ {n : Nat}, ct3 (up C 23 i x) n = ct3 C n
  | 0 => rfl
  | n + 1 => by
    unfold ct3
    rw [ct3_keep h2 hx]
    by_cases e : n = i
    · subst e
      rw [up_eq, if_neg hx, if_neg h2]
    · rw [up_ne (Or.inr e)]
theorem ct3_lt {C : St} {i : Nat} (h2 : C 23 i ≠ 2) {n : Nat} (h : i < n) : ct3 C n < n := by
  have h1 := ct3_set h2 h
  have h3 := ct3_le (C := up C 23 i 2) (n := n)
  omega
def WM (N R : Nat) (M : St) : Prop := N ≤ 40 ∧ 1 ≤ R ∧ R ≤ 32 ∧ M 4 0 = nI R ∧ M 16 0 = nI N ∧ (∃ V, M 12 0 = nI V ∧ V ≤ 32 * ct3 M N) ∧ (∀ k, k < 32 → ¬ M 7 k = (-1 : Int32) → vp_in (M 7 k) N) ∧ (∀ i, i < 40 → ¬ M 24 i = (-1 : Int32) → vp_in (M 24 i) 40) ∧ (∀ r, r < 32 → vp_in (M 6 r) 4) ∧ (∀ i, i < 40 → vp_in (M 17 i) 4) ∧ (∀ i, i < N → ¬ M 24 i = (-1 : Int32) → vp_in (M 24 i) N)
section WMs
variable {N R : Nat} {M : St}
theorem WM.n (h : WM N R M) : N ≤ 40 := h.1
theorem WM.r1 (h : WM N R M) : 1 ≤ R := h.2.1
theorem WM.r2 (h : WM N R M) : R ≤ 32 := h.2.2.1
theorem WM.r (h : WM N R M) : M 4 0 = nI R := h.2.2.2.1
theorem WM.m (h : WM N R M) : M 16 0 = nI N := h.2.2.2.2.1
theorem WM.ve (h : WM N R M) : ∃ V, M 12 0 = nI V ∧ V ≤ 32 * ct3 M N := h.2.2.2.2.2.1
theorem WM.ow (h : WM N R M) : ∀ k, k < 32 → ¬ M 7 k = (-1 : Int32) → vp_in (M 7 k) N := h.2.2.2.2.2.2.1
theorem WM.aw (h : WM N R M) : ∀ i, i < 40 → ¬ M 24 i = (-1 : Int32) → vp_in (M 24 i) 40 := h.2.2.2.2.2.2.2.1
theorem WM.no (h : WM N R M) : ∀ r, r < 32 → vp_in (M 6 r) 4 := h.2.2.2.2.2.2.2.2.1
theorem WM.ho (h : WM N R M) : ∀ i, i < 40 → vp_in (M 17 i) 4 := h.2.2.2.2.2.2.2.2.2.1
theorem WM.an (h : WM N R M) : ∀ i, i < N → ¬ M 24 i = (-1 : Int32) → vp_in (M 24 i) N := h.2.2.2.2.2.2.2.2.2.2
theorem vp_le {x : Int32} {n m : Nat} (h : vp_in x n) (q : n ≤ m) : vp_in x m := by
  rintro (z | z)
  · exact h (Or.inl z)
  · exact h (Or.inr (by omega))
theorem WM.o40 (h : WM N R M) {k : Nat} (hk : k < 32) (q : ¬ M 7 k = (-1 : Int32)) : vp_in (M 7 k) 40 := vp_le (h.ow k hk q) h.n
theorem WM.v (h : WM N R M) : M 12 0 = nI (M 12 0).toNatClampNeg := by
  obtain ⟨V, e, q⟩ := h.ve
  have := ct3_le (C := M) (n := N)
  have := h.n
  rw [e, nI_clamp (by omega)]
theorem WM.vb (h : WM N R M) : (M 12 0).toNatClampNeg ≤ 1300 := by
  obtain ⟨V, e, q⟩ := h.ve
  have := ct3_le (C := M) (n := N)
  have := h.n
  rw [e, nI_clamp (by omega)]
  omega
theorem WM.vc (h : WM N R M) {i : Nat} (hi : i < N) (h2 : M 23 i ≠ 2) : ∃ V, M 12 0 = nI V ∧ V + 32 ≤ 1300 := by
  obtain ⟨V, e, q⟩ := h.ve
  have := ct3_lt h2 hi
  have := h.n
  exact ⟨V, e, by omega⟩
theorem WM.vm (h : WM N R M) {k : Nat} (hk : k < 32) (h2 : M 23 (M 7 k).toNatClampNeg = (1 : Int32)) : ∃ V, M 12 0 = nI V ∧ V + 32 ≤ 1300 := by
  by_cases hN : N = 0
  · subst hN
    obtain ⟨V, e, q⟩ := h.ve
    exact ⟨V, e, by have : ct3 M 0 = 0 := rfl; omega⟩
  · by_cases e : M 7 k = (-1 : Int32)
    · refine h.vc (i := 0) (by omega) ?_
      rw [e] at h2
      have h3 : M 23 0 = (1 : Int32) := h2
      rw [h3]
      decide
    · exact h.vc (vin_lt (h.ow k hk e)) (by rw [h2]; decide)
theorem WM_congr {M' : St} (h : WM N R M) (e4 : M' 4 = M 4) (e16 : M' 16 = M 16) (e12 : M' 12 = M 12) (e23 : M' 23 = M 23) (e7 : M' 7 = M 7) (e24 : M' 24 = M 24) (e6 : M' 6 = M 6) (e17 : M' 17 = M 17) : WM N R M' := by
  obtain ⟨h1, h2, h3, h4, h5, ⟨V, h6, h7⟩, h8, h9, h10, h11, h12⟩ := h
  exact ⟨h1, h2, h3, by rw [e4]; exact h4, by rw [e16]; exact h5, ⟨V, by rw [e12]; exact h6, by rw [ct3_congr e23]; exact h7⟩, by rw [e7]; exact h8, by rw [e24]; exact h9, by rw [e6]; exact h10, by rw [e17]; exact h11, by rw [e24]; exact h12⟩
theorem WM_up {v i : Nat} {x : Int32} (h : WM N R M) (hv : v ≠ 4 ∧ v ≠ 16 ∧ v ≠ 12 ∧ v ≠ 23 ∧ v ≠ 7 ∧ v ≠ 24 ∧ v ≠ 6 ∧ v ≠ 17) : WM N R (up M v i x) := WM_congr h (up_row (fun q => hv.1 q.symm)) (up_row (fun q => hv.2.1 q.symm)) (up_row (fun q => hv.2.2.1 q.symm)) (up_row (fun q => hv.2.2.2.1 q.symm)) (up_row (fun q => hv.2.2.2.2.1 q.symm)) (up_row (fun q => hv.2.2.2.2.2.1 q.symm)) (up_row (fun q => hv.2.2.2.2.2.2.1 q.symm)) (up_row (fun q => hv.2.2.2.2.2.2.2 q.symm))
theorem WM_up23 {i : Nat} {x : Int32} (h : WM N R M) (h2 : M 23 i ≠ 2) (hx : x ≠ 2) : WM N R (up M 23 i x) := by
  obtain ⟨h1, h2', h3, h4, h5, ⟨V, h6, h7⟩, h8, h9, h10, h11, h12⟩ := h
  exact ⟨h1, h2', h3, h4, h5, ⟨V, h6, by rw [ct3_keep h2 hx]; exact h7⟩, h8, h9, h10, h11, h12⟩
theorem WM_up7 {k : Nat} {x : Int32} (h : WM N R M) (hx : ¬ x = (-1 : Int32) → vp_in x N) : WM N R (up M 7 k x) := by
  obtain ⟨h1, h2, h3, h4, h5, ⟨V, h6, h7⟩, h8, h9, h10, h11, h12⟩ := h
  refine ⟨h1, h2, h3, h4, h5, ⟨V, h6, by rw [ct3_congr (up_row (by decide))]; exact h7⟩, ?_, h9, h10, h11, h12⟩
  intro j hj q
  by_cases e : j = k
  · subst e
    rw [up_eq] at q ⊢
    exact hx q
  · rw [up_ne (Or.inr e)] at q ⊢
    exact h8 j hj q
theorem WM_up24 {i : Nat} {x : Int32} (h : WM N R M) (hx : ¬ x = (-1 : Int32) → vp_in x N) : WM N R (up M 24 i x) := by
  obtain ⟨h1, h2, h3, h4, h5, ⟨V, h6, h7⟩, h8, h9, h10, h11, h12⟩ := h
  refine ⟨h1, h2, h3, h4, h5, ⟨V, h6, by rw [ct3_congr (up_row (by decide))]; exact h7⟩, h8, ?_, h10, h11, ?_⟩
  all_goals intro j hj q
  · by_cases e : j = i
    · subst e
      rw [up_eq] at q ⊢
      exact vp_le (hx q) h1
    · rw [up_ne (Or.inr e)] at q ⊢
      exact h9 j hj q
  · by_cases e : j = i
    · subst e
      rw [up_eq] at q ⊢
      exact hx q
    · rw [up_ne (Or.inr e)] at q ⊢
      exact h12 j hj q
theorem cm29_row {t w : Nat} (h1 : w ≠ 13) (h2 : w ≠ 14) (h3 : w ≠ 15) (h4 : w ≠ 12) (h5 : w ≠ 7) : ∀ {n i : Nat} {M : St}, s_commits_29 t n i M w = M w
  | 0, _, _ => rfl
  | n + 1, i, M => by
    unfold s_commits_29
    split
    · rw [cm29_row h1 h2 h3 h4 h5, up_row h5, up_row h4, up_row h3, up_row h2, up_row h1]
    · rw [cm29_row h1 h2 h3 h4 h5]
theorem cm29_7 {t k : Nat} : ∀ {n i : Nat} {M : St}, s_commits_29 t n i M 7 k = M 7 k ∨ s_commits_29 t n i M 7 k = (-1 : Int32)
  | 0, _, _ => Or.inl rfl
  | n + 1, i, M => by
    unfold s_commits_29
    split
    · rcases cm29_7 (t := t) (k := k) (n := n) (i := i + 1) (M := (up (up (up (up (up M 13 (M 12 0).toNatClampNeg (nI i)) 14 (M 12 0).toNatClampNeg (M 20 t)) 15 (M 12 0).toNatClampNeg (M 9 i)) 12 0 ((M 12 0) + (1 : Int32))) 7 i (-1 : Int32))) with e | e
      · rw [e]
        by_cases q : k = i
        · subst q; exact Or.inr up_eq
        · left; rw [up_ne (Or.inr q), up_row (by decide), up_row (by decide), up_row (by decide), up_row (by decide)]
      · exact Or.inr e
    · exact cm29_7
theorem cm29_12 {t : Nat} : ∀ {n i V : Nat} {M : St}, M 12 0 = nI V → ∃ V', s_commits_29 t n i M 12 0 = nI V' ∧ V' ≤ V + n
  | 0, _, V, _, h => ⟨V, h, Nat.le_refl _⟩
  | n + 1, i, V, M, h => by
    unfold s_commits_29
    split
    · obtain ⟨V', e, q⟩ := cm29_12 (t := t) (n := n) (i := i + 1) (V := V + 1) (M := (up (up (up (up (up M 13 (M 12 0).toNatClampNeg (nI i)) 14 (M 12 0).toNatClampNeg (M 20 t)) 15 (M 12 0).toNatClampNeg (M 9 i)) 12 0 ((M 12 0) + (1 : Int32))) 7 i (-1 : Int32))) (by rw [up_row (by decide), up_eq, h]; exact nI_1 _)
      exact ⟨V', e, by omega⟩
    · obtain ⟨V', e, q⟩ := cm29_12 (t := t) (n := n) (i := i + 1) (V := V) (M := M) h
      exact ⟨V', e, by omega⟩
theorem WM_commits {t : Nat} (h : WM N R M) (ht : t < N) (h2 : M 23 t ≠ 2) : WM N R (s_commits t M) := by
  obtain ⟨h1, g2, h3, h4, h5, ⟨V, h6, h7⟩, h8, h9, h10, h11, h12⟩ := h
  have e0 : ∀ w, w ≠ 13 → w ≠ 14 → w ≠ 15 → w ≠ 12 → w ≠ 7 → w ≠ 23 → w ≠ 25 → w ≠ 26 → s_commits t M w = M w := fun w a1 a2 a3 a4 a5 a6 a7 a8 => by
    unfold s_commits
    rw [cm29_row a1 a2 a3 a4 a5, up_row a8, up_row a7, up_row a6]
  refine ⟨h1, g2, h3, ?_, ?_, ?_, ?_, ?_, ?_, ?_, ?_⟩
  · rw [e0 4 (by decide) (by decide) (by decide) (by decide) (by decide) (by decide) (by decide) (by decide)]; exact h4
  · rw [e0 16 (by decide) (by decide) (by decide) (by decide) (by decide) (by decide) (by decide) (by decide)]; exact h5
  · unfold s_commits
    obtain ⟨V', q1, q2⟩ := cm29_12 (t := t) (n := 32) (i := 0) (V := V) (M := up (up (up M 23 t (2 : Int32)) 25 t (M 26 0)) 26 0 (M 26 0 + (1 : Int32))) (by rw [up_row (by decide), up_row (by decide), up_row (by decide)]; exact h6)
    refine ⟨V', q1, ?_⟩
    rw [ct3_congr (C := up M 23 t 2) (by rw [cm29_row (by decide) (by decide) (by decide) (by decide) (by decide), up_row (by decide), up_row (by decide)]), ct3_set h2 ht]
    omega
  · intro k hk q
    have e7 : s_commits t M 7 k = M 7 k ∨ s_commits t M 7 k = (-1 : Int32) := by
      unfold s_commits
      rcases cm29_7 (t := t) (k := k) (n := 32) (i := 0) (M := up (up (up M 23 t (2 : Int32)) 25 t (M 26 0)) 26 0 (M 26 0 + (1 : Int32))) with e | e
      · left; rw [e, up_row (by decide), up_row (by decide), up_row (by decide)]
      · exact Or.inr e
    rcases e7 with e | e
    · rw [e] at q ⊢; exact h8 k hk q
    · exact absurd e q
  · rw [e0 24 (by decide) (by decide) (by decide) (by decide) (by decide) (by decide) (by decide) (by decide)]; exact h9
  · rw [e0 6 (by decide) (by decide) (by decide) (by decide) (by decide) (by decide) (by decide) (by decide)]; exact h10
  · rw [e0 17 (by decide) (by decide) (by decide) (by decide) (by decide) (by decide) (by decide) (by decide)]; exact h11
  · rw [e0 24 (by decide) (by decide) (by decide) (by decide) (by decide) (by decide) (by decide) (by decide)]; exact h12
theorem WM_recovers {t : Nat} (h : WM N R M) (ht : t < N) (h2 : M 23 t ≠ 2) : WM N R (s_recovers t M) := by
  unfold s_recovers
  split
  · exact WM_up23 h h2 (by decide)
  · exact WM_commits h ht h2
theorem WM_meets49 {t k : Nat} {u : Int32} (h : WM N R M) : WM N R (s_meets_49 t k u M).2 := by
  have hn : ¬ (-1 : Int32) = (-1 : Int32) → vp_in (-1 : Int32) N := fun q => absurd rfl q
  unfold s_meets_49
  split
  · split
    · exact WM_up7 h hn
    · exact WM_up7 h hn
  · split
    · exact h
    · exact h
theorem isV_st {i : Nat} (h : ¬ s_isVanished i M = 0) : M 23 i ≠ 2 := by
  intro q
  apply h
  unfold s_isVanished
  rw [q, if_neg (by decide), if_neg (by decide)]
theorem WM_meets34 {t k : Nat} {u : Int32} (h : WM N R M) : WM N R (s_meets_34 t k u M).2 := by
  unfold s_meets_34
  split
  · exact WM_meets49 h
  · rename_i c
    exact WM_meets49 (WM_up23 h (isV_st c) (by decide))
theorem WM_meets {t k : Nat} (h : WM N R M) (hk : k < 32) : WM N R (s_meets t k M).2 := by
  unfold s_meets
  split
  · exact h
  · rename_i c
    split
    · exact h
    · split
      · rename_i c2
        exact WM_meets34 (WM_recovers h (vin_lt (h.ow k hk c)) (by rw [c2]; decide))
      · exact WM_meets34 h
theorem meets49_val {t k : Nat} {u : Int32} : (s_meets_49 t k u M).1 = (-1 : Int32) ∨ ((s_meets_49 t k u M).1 = u ∧ M 23 u.toNatClampNeg = 0 ∧ (s_meets_49 t k u M).2 = M) := by
  unfold s_meets_49
  split
  · rename_i c
    split
    · rename_i c2; rw [c] at c2; exact absurd c2 (by decide)
    · exact Or.inl rfl
  · split
    · rename_i c; exact Or.inr ⟨rfl, c, rfl⟩
    · exact Or.inl rfl
theorem meets_vp {t k : Nat} (h : WM N R M) (hk : k < 32) (c : ¬ (s_meets t k M).1 = (-1 : Int32)) : vp_in (s_meets t k M).1 N ∧ (s_meets t k M).2 23 (s_meets t k M).1.toNatClampNeg = 0 := by
  have h34 : ∀ {D : St} {u : Int32}, ¬ (s_meets_34 t k u D).1 = (-1 : Int32) → (s_meets_34 t k u D).1 = u ∧ (s_meets_34 t k u D).2 23 u.toNatClampNeg = 0 := fun {D u} q => by
    unfold s_meets_34 at q ⊢
    split
    · rename_i c1
      rw [if_pos c1] at q
      obtain ⟨e1, e2, e3⟩ := meets49_val.resolve_left q
      exact ⟨e1, by rw [e3]; exact e2⟩
    · rename_i c1
      rw [if_neg c1] at q
      obtain ⟨e1, e2, e3⟩ := meets49_val.resolve_left q
      exact ⟨e1, by rw [e3]; exact e2⟩
  unfold s_meets at c ⊢
  by_cases c1 : M 7 k = (-1 : Int32)
  · rw [if_pos c1] at c; exact absurd rfl c
  · rw [if_neg c1] at c ⊢
    by_cases c2 : M 7 k = nI t
    · rw [if_pos c2] at c; exact absurd rfl c
    · rw [if_neg c2] at c ⊢
      by_cases c3 : M 23 (M 7 k).toNatClampNeg = (1 : Int32)
      · rw [if_pos c3] at c ⊢
        obtain ⟨e1, e2⟩ := h34 c
        exact ⟨by rw [e1]; exact h.ow k hk c1, by rw [e1]; exact e2⟩
      · rw [if_neg c3] at c ⊢
        obtain ⟨e1, e2⟩ := h34 c
        exact ⟨by rw [e1]; exact h.ow k hk c1, by rw [e1]; exact e2⟩
end WMs
def s_refreshes_88 (t : Nat) (z : Int32) : Nat → Nat → St → Int32 × St
  | 0, i, M => ((1 : Int32), M)
  | n + 1, i, M => (if (M 28 (32 * t + i)) = (-1 : Int32) then (s_refreshes_88 t z n (i + 1) M) else (s_refreshes_88 t z n (i + 1) (s_marks (nI t) i z M)))
theorem bm_refreshes_88 {g : GT} {nt : Nat} {C : St} {o : Int64}  {t : Nat} {z : Int32} (ht : t < 40) {N R : Nat} : ∀ (n : Nat) (i : Nat) (M : St) (hi : i + n = 32) (h : Nat × Nat), V g K_X5_refreshes (kR K_X5_refreshes 0 0) (qM g 0 0 nt (fun v9 C9 M9 o9 => v9 = some (.int (s_refreshes_88 t z n i M).1) ∧ C9 = C ∧ M9 = (s_refreshes_88 t z n i M).2 ∧ o9 = o) (fun _ _ _ _ => False)) 0 0 nt h C M o 88 [(0, .ref (ad g 10)), (1, .int (nI t)), (2, .int z), (3, .int (nI i))] [] := by
  intro n
  induction n with
  | zero =>
    intro i M hi h
    unfold s_refreshes_88
    refine V_iload_n (dG D_X5_refreshes 53 rfl) rfl ?_
    refine V_bipush (v := 32) (dG D_X5_refreshes 54 rfl) (by decide) ?_
    refine V_icmp_ge (tgt := 122) (dG D_X5_refreshes 55 rfl) (by decide) (fun c_91 => ?_) (fun c_91 => absurd (l32 (by omega)) c_91)
    refine V_iconst (v := 1) (dG D_X5_refreshes 73 rfl) (by decide) ?_
    exact V_zret (dG D_X5_refreshes 74 rfl) rfl (by first | rfl | assumption) (Nat.le_of_ble_eq_true rfl) (Nat.le_of_ble_eq_true rfl) ⟨by first | with_reducible rfl | rfl, rfl, by first | with_reducible rfl | rfl, rfl⟩
  | succ n ih =>
    intro i M hi h
    unfold s_refreshes_88
    refine V_iload_n (dG D_X5_refreshes 53 rfl) rfl ?_
    refine V_bipush (v := 32) (dG D_X5_refreshes 54 rfl) (by decide) ?_
    refine V_icmp_ge (tgt := 122) (dG D_X5_refreshes 55 rfl) (by decide) (fun c_91 => absurd c_91 (g32 (by omega))) (fun c_91 => ?_)
    refine V_aload_n (dG D_X5_refreshes 56 rfl) rfl ?_
    refine gf_X5_84 rfl (dG D_X5_refreshes 57 rfl) ?_
    refine V_bipush (v := 32) (dG D_X5_refreshes 58 rfl) (by decide) ?_
    refine V_iload_n (dG D_X5_refreshes 59 rfl) rfl ?_
    refine V_imul (dG D_X5_refreshes 60 rfl) ?_
    refine V_iload_n (dG D_X5_refreshes 61 rfl) rfl ?_
    refine V_iadd (dG D_X5_refreshes 62 rfl) ?_
    refine iald_M28 (dG D_X5_refreshes 63 rfl) (show inr (((32 : Int32) * (nI t)) + (nI i)) 1280 (32 * t + i) from by rw [(ix32 _ _)]; exact inr_nI (by omega) (by decide)) ?_
    refine V_iconst (v := -1) (dG D_X5_refreshes 64 rfl) (by decide) ?_
    refine V_icmp_eq (tgt := 116) (dG D_X5_refreshes 65 rfl) (by decide) (fun c_106 => ?_) (fun c_106 => ?_)
    · try rw [if_pos c_106]
      refine V_iinc (dG D_X5_refreshes 71 rfl) rfl (inc1 _) (Nat.le_of_ble_eq_true rfl) ?_
      refine V_goto (tgt := 88) (dG D_X5_refreshes 72 rfl) (by decide) ?_
      refine V_sub [0, 1, 2, 3] rfl ?_
      exact ih (i + 1) M (by omega) h
    · try rw [if_neg c_106]
      refine V_aload_n (dG D_X5_refreshes 66 rfl) rfl ?_
      refine V_iload_n (dG D_X5_refreshes 67 rfl) rfl ?_
      refine V_iload_n (dG D_X5_refreshes 68 rfl) rfl ?_
      refine V_iload_n (dG D_X5_refreshes 69 rfl) rfl ?_
      refine R_nb3 (om_marks (by omega) ) lk_X5_156 (dG D_X5_refreshes 70 rfl) rcv_5 ⟨Nat.le_of_ble_eq_true rfl, Nat.le_of_ble_eq_true rfl⟩ ⟨(Nat.le_of_ble_eq_true rfl), (Nat.le_of_ble_eq_true rfl)⟩ (by first | exact Nat.le_of_ble_eq_true rfl | simp [cat_rf, cat_int, cat_ref]) (fun h => ?_)
      refine V_iinc (dG D_X5_refreshes 71 rfl) rfl (inc1 _) (Nat.le_of_ble_eq_true rfl) ?_
      refine V_goto (tgt := 88) (dG D_X5_refreshes 72 rfl) (by decide) ?_
      refine V_sub [0, 1, 2, 3] rfl ?_
      exact ih (i + 1) (s_marks (nI t) i z M) (by omega) h
def s_refreshes_2 (t : Nat) (z : Int32) : Nat → Nat → St → Int32 × St
  | 0, i, M => (s_refreshes_88 t z 32 0 M)
  | n + 1, i, M => (if (M 28 (32 * t + i)) = (-1 : Int32) then (s_refreshes_2 t z n (i + 1) M) else (if (M 3 ((s_nodeOf (nI i) M).toNatClampNeg)) = (0 : Int32) then (if ((s_meets t i M).1) = (-1 : Int32) then (if (s_latest (nI i) z (s_meets t i M).2) ≤ ((s_meets t i M).2 19 t) then (s_refreshes_2 t z n (i + 1) ((s_meets t i M).2)) else ((0 : Int32), (s_meets t i M).2)) else (if ((s_meets t i M).2 20 (((s_meets t i M).1).toNatClampNeg)) ≤ z then ((0 : Int32), (s_meets t i M).2) else (if (s_latest (nI i) z (s_meets t i M).2) ≤ ((s_meets t i M).2 19 t) then (s_refreshes_2 t z n (i + 1) ((s_meets t i M).2)) else ((0 : Int32), (s_meets t i M).2)))) else ((0 : Int32), M)))
theorem bm_refreshes_2 {g : GT} {nt : Nat} {C : St} {o : Int64}  {t : Nat} {z : Int32} (ht : t < 40) {N R : Nat} : ∀ (n : Nat) (i : Nat) (M : St) (hi : i + n = 32) (hM : WM N R M) (h : Nat × Nat), V g K_X5_refreshes (kR K_X5_refreshes 0 0) (qM g 0 0 nt (fun v9 C9 M9 o9 => v9 = some (.int (s_refreshes_2 t z n i M).1) ∧ C9 = C ∧ M9 = (s_refreshes_2 t z n i M).2 ∧ o9 = o) (fun _ _ _ _ => False)) 0 0 nt h C M o 2 [(0, .ref (ad g 10)), (1, .int (nI t)), (2, .int z), (3, .int (nI i))] [] := by
  intro n
  induction n with
  | zero =>
    intro i M hi hM h
    unfold s_refreshes_2
    refine V_iload_n (dG D_X5_refreshes 2 rfl) rfl ?_
    refine V_bipush (v := 32) (dG D_X5_refreshes 3 rfl) (by decide) ?_
    refine V_icmp_ge (tgt := 86) (dG D_X5_refreshes 4 rfl) (by decide) (fun c_5 => ?_) (fun c_5 => absurd (l32 (by omega)) c_5)
    refine V_iconst (v := 0) (dG D_X5_refreshes 51 rfl) (by decide) ?_
    refine V_istore_n (dG D_X5_refreshes 52 rfl) (Nat.le_of_ble_eq_true rfl) ?_
    refine V_sub [0, 1, 2, 3] rfl ?_
    exact bm_refreshes_88 (N := N) (R := R) ht  32 0 M (by omega) h
  | succ n ih =>
    intro i M hi hM h
    unfold s_refreshes_2
    refine V_iload_n (dG D_X5_refreshes 2 rfl) rfl ?_
    refine V_bipush (v := 32) (dG D_X5_refreshes 3 rfl) (by decide) ?_
    refine V_icmp_ge (tgt := 86) (dG D_X5_refreshes 4 rfl) (by decide) (fun c_5 => absurd c_5 (g32 (by omega))) (fun c_5 => ?_)
    refine V_aload_n (dG D_X5_refreshes 5 rfl) rfl ?_
    refine gf_X5_84 rfl (dG D_X5_refreshes 6 rfl) ?_
    refine V_bipush (v := 32) (dG D_X5_refreshes 7 rfl) (by decide) ?_
    refine V_iload_n (dG D_X5_refreshes 8 rfl) rfl ?_
    refine V_imul (dG D_X5_refreshes 9 rfl) ?_
    refine V_iload_n (dG D_X5_refreshes 10 rfl) rfl ?_
    refine V_iadd (dG D_X5_refreshes 11 rfl) ?_
    refine iald_M28 (dG D_X5_refreshes 12 rfl) (show inr (((32 : Int32) * (nI t)) + (nI i)) 1280 (32 * t + i) from by rw [(ix32 _ _)]; exact inr_nI (by omega) (by decide)) ?_
    refine V_iconst (v := -1) (dG D_X5_refreshes 13 rfl) (by decide) ?_
    refine V_icmp_eq (tgt := 80) (dG D_X5_refreshes 14 rfl) (by decide) (fun c_20 => ?_) (fun c_20 => ?_)
    · try rw [if_pos c_20]
      refine V_iinc (dG D_X5_refreshes 49 rfl) rfl (inc1 _) (Nat.le_of_ble_eq_true rfl) ?_
      refine V_goto (tgt := 2) (dG D_X5_refreshes 50 rfl) (by decide) ?_
      refine V_sub [0, 1, 2, 3] rfl ?_
      exact ih (i + 1) M (by omega) (by first | exact hM2 | exact hM) h
    · try rw [if_neg c_20]
      refine V_aload_n (dG D_X5_refreshes 15 rfl) rfl ?_
      refine gf_X5_16 rfl (dG D_X5_refreshes 16 rfl) ?_
      refine V_aload_n (dG D_X5_refreshes 17 rfl) rfl ?_
      refine V_iload_n (dG D_X5_refreshes 18 rfl) rfl ?_
      refine R_vb1 (om_nodeOf hM.r1 hM.r2 hM.r) lk_X5_118 (dG D_X5_refreshes 19 rfl) rcv_5 ⟨Nat.le_of_ble_eq_true rfl, Nat.le_of_ble_eq_true rfl⟩ ⟨(Nat.le_of_ble_eq_true rfl), (Nat.le_of_ble_eq_true rfl)⟩ (by first | exact Nat.le_of_ble_eq_true rfl | simp [cat_rf, cat_int, cat_ref]) (fun h => ?_)
      refine zald_M3 (dG D_X5_refreshes 20 rfl) (inr_of (no_vp hM.r1 hM.r2 hM.r hM.no)) ?_
      refine V_if_eq (tgt := 38) (dG D_X5_refreshes 21 rfl) (by decide) (fun c_33 => ?_) (fun c_33 => ?_)
      · try rw [if_pos c_33]
        have hM2 := WM_meets (t := t) (k := i) hM (by omega)
        refine V_aload_n (dG D_X5_refreshes 24 rfl) rfl ?_
        refine V_iload_n (dG D_X5_refreshes 25 rfl) rfl ?_
        refine V_iload_n (dG D_X5_refreshes 26 rfl) rfl ?_
        refine R_vb2 (om_meets (by omega) (by omega) (hM.o40 (by omega)) (hM.vm (by omega))) lk_X5_153 (dG D_X5_refreshes 27 rfl) rcv_5 ⟨Nat.le_of_ble_eq_true rfl, Nat.le_of_ble_eq_true rfl⟩ ⟨(Nat.le_of_ble_eq_true rfl), (Nat.le_of_ble_eq_true rfl)⟩ (by first | exact Nat.le_of_ble_eq_true rfl | simp [cat_rf, cat_int, cat_ref]) (fun h => ?_)
        refine V_istore (dG D_X5_refreshes 28 rfl) (Nat.le_of_ble_eq_true rfl) ?_
        refine V_iload (dG D_X5_refreshes 29 rfl) rfl ?_
        refine V_iconst (v := -1) (dG D_X5_refreshes 30 rfl) (by decide) ?_
        refine V_icmp_eq (tgt := 63) (dG D_X5_refreshes 31 rfl) (by decide) (fun c_49 => ?_) (fun c_49 => ?_)
        · try rw [if_pos c_49]
          refine V_aload_n (dG D_X5_refreshes 38 rfl) rfl ?_
          refine V_iload_n (dG D_X5_refreshes 39 rfl) rfl ?_
          refine V_iload_n (dG D_X5_refreshes 40 rfl) rfl ?_
          refine R_vb2 (om_latest hM2.vb hM2.v) lk_X5_150 (dG D_X5_refreshes 41 rfl) rcv_5 ⟨Nat.le_of_ble_eq_true rfl, Nat.le_of_ble_eq_true rfl⟩ ⟨(Nat.le_of_ble_eq_true rfl), (Nat.le_of_ble_eq_true rfl)⟩ (by first | exact Nat.le_of_ble_eq_true rfl | simp [cat_rf, cat_int, cat_ref]) (fun h => ?_)
          refine V_aload_n (dG D_X5_refreshes 42 rfl) rfl ?_
          refine gf_X5_60 rfl (dG D_X5_refreshes 43 rfl) ?_
          refine V_iload_n (dG D_X5_refreshes 44 rfl) rfl ?_
          refine iald_M19 (dG D_X5_refreshes 45 rfl) (inr_nI (by omega) (by decide)) ?_
          refine V_icmp_le (tgt := 80) (dG D_X5_refreshes 46 rfl) (by decide) (fun c_75 => ?_) (fun c_75 => ?_)
          · try rw [if_pos c_75]
            refine V_iinc (dG D_X5_refreshes 49 rfl) rfl (inc1 _) (Nat.le_of_ble_eq_true rfl) ?_
            refine V_goto (tgt := 2) (dG D_X5_refreshes 50 rfl) (by decide) ?_
            refine V_sub [0, 1, 2, 3] rfl ?_
            exact ih (i + 1) ((s_meets t i M).2) (by omega) (by first | exact hM2 | exact hM) h
          · try rw [if_neg c_75]
            refine V_iconst (v := 0) (dG D_X5_refreshes 47 rfl) (by decide) ?_
            exact V_zret (dG D_X5_refreshes 48 rfl) rfl (by first | rfl | assumption) (Nat.le_of_ble_eq_true rfl) (Nat.le_of_ble_eq_true rfl) ⟨by first | with_reducible rfl | rfl, rfl, by first | with_reducible rfl | rfl, rfl⟩
        · try rw [if_neg c_49]
          refine V_aload_n (dG D_X5_refreshes 32 rfl) rfl ?_
          refine gf_X5_63 rfl (dG D_X5_refreshes 33 rfl) ?_
          refine V_iload (dG D_X5_refreshes 34 rfl) rfl ?_
          refine iald_M20 (dG D_X5_refreshes 35 rfl) (inr_of (vp_le (meets_vp hM (by omega) c_49).1 hM.n)) ?_
          refine V_iload_n (dG D_X5_refreshes 36 rfl) rfl ?_
          refine V_icmp_le (tgt := 78) (dG D_X5_refreshes 37 rfl) (by decide) (fun c_60 => ?_) (fun c_60 => ?_)
          · try rw [if_pos c_60]
            refine V_iconst (v := 0) (dG D_X5_refreshes 47 rfl) (by decide) ?_
            exact V_zret (dG D_X5_refreshes 48 rfl) rfl (by first | rfl | assumption) (Nat.le_of_ble_eq_true rfl) (Nat.le_of_ble_eq_true rfl) ⟨by first | with_reducible rfl | rfl, rfl, by first | with_reducible rfl | rfl, rfl⟩
          · try rw [if_neg c_60]
            refine V_aload_n (dG D_X5_refreshes 38 rfl) rfl ?_
            refine V_iload_n (dG D_X5_refreshes 39 rfl) rfl ?_
            refine V_iload_n (dG D_X5_refreshes 40 rfl) rfl ?_
            refine R_vb2 (om_latest hM2.vb hM2.v) lk_X5_150 (dG D_X5_refreshes 41 rfl) rcv_5 ⟨Nat.le_of_ble_eq_true rfl, Nat.le_of_ble_eq_true rfl⟩ ⟨(Nat.le_of_ble_eq_true rfl), (Nat.le_of_ble_eq_true rfl)⟩ (by first | exact Nat.le_of_ble_eq_true rfl | simp [cat_rf, cat_int, cat_ref]) (fun h => ?_)
            refine V_aload_n (dG D_X5_refreshes 42 rfl) rfl ?_
            refine gf_X5_60 rfl (dG D_X5_refreshes 43 rfl) ?_
            refine V_iload_n (dG D_X5_refreshes 44 rfl) rfl ?_
            refine iald_M19 (dG D_X5_refreshes 45 rfl) (inr_nI (by omega) (by decide)) ?_
            refine V_icmp_le (tgt := 80) (dG D_X5_refreshes 46 rfl) (by decide) (fun c_75 => ?_) (fun c_75 => ?_)
            · try rw [if_pos c_75]
              refine V_iinc (dG D_X5_refreshes 49 rfl) rfl (inc1 _) (Nat.le_of_ble_eq_true rfl) ?_
              refine V_goto (tgt := 2) (dG D_X5_refreshes 50 rfl) (by decide) ?_
              refine V_sub [0, 1, 2, 3] rfl ?_
              exact ih (i + 1) ((s_meets t i M).2) (by omega) (by first | exact hM2 | exact hM) h
            · try rw [if_neg c_75]
              refine V_iconst (v := 0) (dG D_X5_refreshes 47 rfl) (by decide) ?_
              exact V_zret (dG D_X5_refreshes 48 rfl) rfl (by first | rfl | assumption) (Nat.le_of_ble_eq_true rfl) (Nat.le_of_ble_eq_true rfl) ⟨by first | with_reducible rfl | rfl, rfl, by first | with_reducible rfl | rfl, rfl⟩
      · try rw [if_neg c_33]
        refine V_iconst (v := 0) (dG D_X5_refreshes 22 rfl) (by decide) ?_
        exact V_zret (dG D_X5_refreshes 23 rfl) rfl (by first | rfl | assumption) (Nat.le_of_ble_eq_true rfl) (Nat.le_of_ble_eq_true rfl) ⟨by first | with_reducible rfl | rfl, rfl, by first | with_reducible rfl | rfl, rfl⟩
def s_refreshes (t : Nat) (z : Int32) (M : St) : Int32 × St := (s_refreshes_2 t z 32 0 M)
theorem om_refreshes {g : GT} {nt : Nat} {C : St} {o : Int64} {t : Nat} {z : Int32} {M : St} (ht : t < 40) {N R : Nat} (hM : WM N R M) : RET g K_X5_refreshes 0 0 [.ref (ad g 10), .int (nI t), .int z] nt C M o (some (.int (s_refreshes t z M).1)) C (s_refreshes t z M).2 o := by
  refine MT_of (by decide +kernel) rfl rfl (Nat.le_of_ble_eq_true rfl) (by simp [cat_rf, cat_int, cat_ref]) (fun h => ?_)
  unfold s_refreshes
  refine V_iconst (v := 0) (dG D_X5_refreshes 0 rfl) (by decide) ?_
  refine V_istore_n (dG D_X5_refreshes 1 rfl) (Nat.le_of_ble_eq_true rfl) ?_
  refine V_sub [0, 1, 2, 3] rfl ?_
  exact bm_refreshes_2 ht  32 0 M (by omega) hM h
