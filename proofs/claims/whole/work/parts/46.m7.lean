/-! the model's invariant behind refreshing and waiting; commit -/
set_option maxHeartbeats 100000
section W7
variable {N R : Nat} {M : St}
theorem neg1 {n : Nat} : ¬ (-1 : Int32) = (-1 : Int32) → vp_in (-1 : Int32) n := fun q => absurd rfl q
theorem WM_isT {x : Int32} (h : WM N R M) : WM N R (s_isTransaction x M).2 := WM_congr h (isT_row (by decide)) (isT_row (by decide)) (isT_row (by decide)) (isT_row (by decide)) (isT_row (by decide)) (isT_row (by decide)) (isT_row (by decide)) (isT_row (by decide))
theorem isT_lt {t : Nat} (h : WM N R M) (ht : t < 40) (c : ¬ (s_isTransaction (nI t) M).1 = 0) : t < N := by
  unfold s_isTransaction at c
  split at c
  · exact absurd rfl c
  · rename_i c2
    obtain ⟨c3, c4⟩ := in_ok c2
    rw [h.m] at c4
    have hn := h.n
    refine Nat.lt_of_not_le (fun q => c4 ?_)
    by_cases e : N = 0
    · subst e
      exact Int32.lt_of_lt_of_le (show (nI 0 - 1 : Int32) < 0 by decide) (nI_pos' (by omega))
    · obtain ⟨r, rfl⟩ : ∃ r, N = r + 1 := ⟨N - 1, by omega⟩
      rw [nI_pred]
      exact nI_lt (by omega) (by omega)
theorem WM_marks {k : Nat} {t s : Int32} (h : WM N R M) : WM N R (s_marks t k s M) := by
  unfold s_marks
  split
  · split
    · split
      · exact h
      · exact WM_up h (by decide)
    · exact h
  · exact WM_up (WM_up h (by decide)) (by decide)
theorem marks_row {k w : Nat} {t s : Int32} (h1 : w ≠ 10) (h2 : w ≠ 11) : s_marks t k s M w = M w := by
  unfold s_marks
  split
  · split
    · split
      · rfl
      · exact up_row h2
    · rfl
  · rw [up_row h2, up_row h1]
theorem r88_row {t w : Nat} {z : Int32} (h1 : w ≠ 10) (h2 : w ≠ 11) : ∀ {n i : Nat} {M : St}, (s_refreshes_88 t z n i M).2 w = M w
  | 0, _, _ => rfl
  | n + 1, i, M => by
    unfold s_refreshes_88
    split
    · exact r88_row h1 h2
    · rw [r88_row h1 h2, marks_row h1 h2]
theorem WM_r88 {t : Nat} {z : Int32} {n i : Nat} (h : WM N R M) : WM N R (s_refreshes_88 t z n i M).2 := WM_congr h (r88_row (by decide) (by decide)) (r88_row (by decide) (by decide)) (r88_row (by decide) (by decide)) (r88_row (by decide) (by decide)) (r88_row (by decide) (by decide)) (r88_row (by decide) (by decide)) (r88_row (by decide) (by decide)) (r88_row (by decide) (by decide))
theorem rec_23 {t u : Nat} (h : t ≠ u) : s_recovers u M 23 t = M 23 t := by
  unfold s_recovers
  split
  · exact up_ne (Or.inr h)
  · unfold s_commits
    rw [cm29_row (by decide) (by decide) (by decide) (by decide) (by decide), up_row (by decide), up_row (by decide)]
    exact up_ne (Or.inr h)
theorem meets_23 {t k : Nat} (h : WM N R M) (hk : k < 32) : (s_meets t k M).2 23 t = M 23 t := by
  have e49 : ∀ {D : St} {u : Int32}, (s_meets_49 t k u D).2 23 t = D 23 t := fun {D u} => by
    unfold s_meets_49
    split
    · split
      · show up D 7 k (-1 : Int32) 23 t = D 23 t; rw [up_row (by decide)]
      · show up D 7 k (-1 : Int32) 23 t = D 23 t; rw [up_row (by decide)]
    · split
      · rfl
      · rfl
  have e34 : ∀ {D : St} {u : Int32}, t ≠ u.toNatClampNeg → (s_meets_34 t k u D).2 23 t = D 23 t := fun {D u} q => by
    unfold s_meets_34
    split
    · exact e49
    · exact e49.trans (up_ne (Or.inr q))
  unfold s_meets
  split
  · rfl
  · rename_i c
    split
    · rfl
    · rename_i c2
      have hu := h.ow k hk c
      have hne : t ≠ (M 7 k).toNatClampNeg := fun q => c2 ((nI_self (fun z => hu (Or.inl z))).symm.trans (congrArg nI q.symm))
      split
      · exact (e34 hne).trans (rec_23 hne)
      · exact e34 hne
theorem r2_WM {t : Nat} {z : Int32} : ∀ {n i : Nat} {M : St}, i + n ≤ 32 → WM N R M → WM N R (s_refreshes_2 t z n i M).2 ∧ (s_refreshes_2 t z n i M).2 23 t = M 23 t
  | 0, _, _, _, h => ⟨WM_r88 h, congrFun (r88_row (by decide) (by decide)) _⟩
  | n + 1, i, M, hi, h => by
    have hm := WM_meets (t := t) (k := i) h (by omega)
    have e := meets_23 (t := t) (k := i) h (by omega)
    have h1 := r2_WM (t := t) (z := z) (n := n) (i := i + 1) (M := M) (by omega) h
    have h2 := r2_WM (t := t) (z := z) (n := n) (i := i + 1) (M := (s_meets t i M).2) (by omega) hm
    rw [e] at h2
    unfold s_refreshes_2
    split
    · exact h1
    · split
      · split
        · split
          · exact h2
          · exact ⟨hm, e⟩
        · split
          · exact ⟨hm, e⟩
          · split
            · exact h2
            · exact ⟨hm, e⟩
      · exact ⟨h, rfl⟩
theorem WM_refr {t : Nat} {z : Int32} (h : WM N R M) : WM N R (s_refreshes t z M).2 := (r2_WM (by omega) h).1
theorem refr_23 {t : Nat} {z : Int32} (h : WM N R M) : (s_refreshes t z M).2 23 t = M 23 t := (r2_WM (by omega) h).2
theorem WM_cma {t : Nat} {X : Int32} (h : WM N R M) : WM N R (up (up M 24 t (-1 : Int32)) 20 t X) := WM_up (WM_up24 h neg1) (by decide)
theorem cmVa {t : Nat} {X : Int32} (h : WM N R M) (ht : t < N) (h0 : M 23 t = 0) : ∃ V, up (up M 24 t (-1 : Int32)) 20 t X 12 0 = nI V ∧ V + 32 ≤ 1300 := by
  obtain ⟨V, e, q⟩ := h.vc ht (by rw [h0]; decide)
  exact ⟨V, by rw [up_row (by decide), up_row (by decide)]; exact e, q⟩
theorem cmVb {t : Nat} {X Y z : Int32} (h : WM N R M) (ht : t < N) (h0 : M 23 t = 0) : ∃ V, up (s_refreshes t z (up (up M 24 t (-1 : Int32)) 20 t X)).2 19 t Y 12 0 = nI V ∧ V + 32 ≤ 1300 := by
  have h1 := WM_refr (t := t) (z := z) (WM_cma (t := t) (X := X) h)
  have h2 := refr_23 (t := t) (z := z) (WM_cma (t := t) (X := X) h)
  obtain ⟨V, e, q⟩ := h1.vc ht (by rw [h2, up_row (by decide), up_row (by decide), h0]; decide)
  exact ⟨V, by rw [up_row (by decide)]; exact e, q⟩
end W7
def s_commit_40 (t : Nat) (p : Int32) : Nat → Int32 → Nat → St → Int32 × St
  | 0, c, i, M => (if c = (0 : Int32) then (if (s_countsWritten t (up M 24 t (-1 : Int32))) ≤ (0 : Int32) then (if (M 20 t) ≤ (M 19 t) then (if (s_hasAllIntents t (up (up M 24 t (-1 : Int32)) 20 t (M 20 t))) = (0 : Int32) then ((-13 : Int32), (up (up (up M 24 t (-1 : Int32)) 20 t (M 20 t)) 23 t (3 : Int32))) else (if p = (0 : Int32) then ((0 : Int32), (s_commits t (up (up M 24 t (-1 : Int32)) 20 t (M 20 t)))) else ((0 : Int32), (s_commits t (up (up M 24 t (-1 : Int32)) 20 t (M 20 t)))))) else (if ((s_refreshes t (M 20 t) (up (up M 24 t (-1 : Int32)) 20 t (M 20 t))).1) = (0 : Int32) then ((s_restarts t ((s_refreshes t (M 20 t) (up (up M 24 t (-1 : Int32)) 20 t (M 20 t))).2 20 t) (s_refreshes t (M 20 t) (up (up M 24 t (-1 : Int32)) 20 t (M 20 t))).2).1, (s_restarts t ((s_refreshes t (M 20 t) (up (up M 24 t (-1 : Int32)) 20 t (M 20 t))).2 20 t) (s_refreshes t (M 20 t) (up (up M 24 t (-1 : Int32)) 20 t (M 20 t))).2).2) else (if (s_hasAllIntents t (up (s_refreshes t (M 20 t) (up (up M 24 t (-1 : Int32)) 20 t (M 20 t))).2 19 t ((s_refreshes t (M 20 t) (up (up M 24 t (-1 : Int32)) 20 t (M 20 t))).2 20 t))) = (0 : Int32) then ((-13 : Int32), (up (up (s_refreshes t (M 20 t) (up (up M 24 t (-1 : Int32)) 20 t (M 20 t))).2 19 t ((s_refreshes t (M 20 t) (up (up M 24 t (-1 : Int32)) 20 t (M 20 t))).2 20 t)) 23 t (3 : Int32))) else (if p = (0 : Int32) then ((0 : Int32), (s_commits t (up (s_refreshes t (M 20 t) (up (up M 24 t (-1 : Int32)) 20 t (M 20 t))).2 19 t ((s_refreshes t (M 20 t) (up (up M 24 t (-1 : Int32)) 20 t (M 20 t))).2 20 t)))) else ((0 : Int32), (s_commits t (up (s_refreshes t (M 20 t) (up (up M 24 t (-1 : Int32)) 20 t (M 20 t))).2 19 t ((s_refreshes t (M 20 t) (up (up M 24 t (-1 : Int32)) 20 t (M 20 t))).2 20 t)))))))) else (if (s_greater (M 20 t) ((s_closedNow (up M 24 t (-1 : Int32))) + (1 : Int32))) ≤ (M 19 t) then (if (s_hasAllIntents t (up (up M 24 t (-1 : Int32)) 20 t (s_greater (M 20 t) ((s_closedNow (up M 24 t (-1 : Int32))) + (1 : Int32))))) = (0 : Int32) then ((-13 : Int32), (up (up (up M 24 t (-1 : Int32)) 20 t (s_greater (M 20 t) ((s_closedNow (up M 24 t (-1 : Int32))) + (1 : Int32)))) 23 t (3 : Int32))) else (if p = (0 : Int32) then ((0 : Int32), (s_commits t (up (up M 24 t (-1 : Int32)) 20 t (s_greater (M 20 t) ((s_closedNow (up M 24 t (-1 : Int32))) + (1 : Int32)))))) else ((0 : Int32), (up (up (up M 24 t (-1 : Int32)) 20 t (s_greater (M 20 t) ((s_closedNow (up M 24 t (-1 : Int32))) + (1 : Int32)))) 23 t (1 : Int32))))) else (if ((s_refreshes t (s_greater (M 20 t) ((s_closedNow (up M 24 t (-1 : Int32))) + (1 : Int32))) (up (up M 24 t (-1 : Int32)) 20 t (s_greater (M 20 t) ((s_closedNow (up M 24 t (-1 : Int32))) + (1 : Int32))))).1) = (0 : Int32) then ((s_restarts t ((s_refreshes t (s_greater (M 20 t) ((s_closedNow (up M 24 t (-1 : Int32))) + (1 : Int32))) (up (up M 24 t (-1 : Int32)) 20 t (s_greater (M 20 t) ((s_closedNow (up M 24 t (-1 : Int32))) + (1 : Int32))))).2 20 t) (s_refreshes t (s_greater (M 20 t) ((s_closedNow (up M 24 t (-1 : Int32))) + (1 : Int32))) (up (up M 24 t (-1 : Int32)) 20 t (s_greater (M 20 t) ((s_closedNow (up M 24 t (-1 : Int32))) + (1 : Int32))))).2).1, (s_restarts t ((s_refreshes t (s_greater (M 20 t) ((s_closedNow (up M 24 t (-1 : Int32))) + (1 : Int32))) (up (up M 24 t (-1 : Int32)) 20 t (s_greater (M 20 t) ((s_closedNow (up M 24 t (-1 : Int32))) + (1 : Int32))))).2 20 t) (s_refreshes t (s_greater (M 20 t) ((s_closedNow (up M 24 t (-1 : Int32))) + (1 : Int32))) (up (up M 24 t (-1 : Int32)) 20 t (s_greater (M 20 t) ((s_closedNow (up M 24 t (-1 : Int32))) + (1 : Int32))))).2).2) else (if (s_hasAllIntents t (up (s_refreshes t (s_greater (M 20 t) ((s_closedNow (up M 24 t (-1 : Int32))) + (1 : Int32))) (up (up M 24 t (-1 : Int32)) 20 t (s_greater (M 20 t) ((s_closedNow (up M 24 t (-1 : Int32))) + (1 : Int32))))).2 19 t ((s_refreshes t (s_greater (M 20 t) ((s_closedNow (up M 24 t (-1 : Int32))) + (1 : Int32))) (up (up M 24 t (-1 : Int32)) 20 t (s_greater (M 20 t) ((s_closedNow (up M 24 t (-1 : Int32))) + (1 : Int32))))).2 20 t))) = (0 : Int32) then ((-13 : Int32), (up (up (s_refreshes t (s_greater (M 20 t) ((s_closedNow (up M 24 t (-1 : Int32))) + (1 : Int32))) (up (up M 24 t (-1 : Int32)) 20 t (s_greater (M 20 t) ((s_closedNow (up M 24 t (-1 : Int32))) + (1 : Int32))))).2 19 t ((s_refreshes t (s_greater (M 20 t) ((s_closedNow (up M 24 t (-1 : Int32))) + (1 : Int32))) (up (up M 24 t (-1 : Int32)) 20 t (s_greater (M 20 t) ((s_closedNow (up M 24 t (-1 : Int32))) + (1 : Int32))))).2 20 t)) 23 t (3 : Int32))) else (if p = (0 : Int32) then ((0 : Int32), (s_commits t (up (s_refreshes t (s_greater (M 20 t) ((s_closedNow (up M 24 t (-1 : Int32))) + (1 : Int32))) (up (up M 24 t (-1 : Int32)) 20 t (s_greater (M 20 t) ((s_closedNow (up M 24 t (-1 : Int32))) + (1 : Int32))))).2 19 t ((s_refreshes t (s_greater (M 20 t) ((s_closedNow (up M 24 t (-1 : Int32))) + (1 : Int32))) (up (up M 24 t (-1 : Int32)) 20 t (s_greater (M 20 t) ((s_closedNow (up M 24 t (-1 : Int32))) + (1 : Int32))))).2 20 t)))) else ((0 : Int32), (up (up (s_refreshes t (s_greater (M 20 t) ((s_closedNow (up M 24 t (-1 : Int32))) + (1 : Int32))) (up (up M 24 t (-1 : Int32)) 20 t (s_greater (M 20 t) ((s_closedNow (up M 24 t (-1 : Int32))) + (1 : Int32))))).2 19 t ((s_refreshes t (s_greater (M 20 t) ((s_closedNow (up M 24 t (-1 : Int32))) + (1 : Int32))) (up (up M 24 t (-1 : Int32)) 20 t (s_greater (M 20 t) ((s_closedNow (up M 24 t (-1 : Int32))) + (1 : Int32))))).2 20 t)) 23 t (1 : Int32)))))))) else ((-14 : Int32), M))
  | n + 1, c, i, M => (if c = (0 : Int32) then (if (M 29 (32 * t + i)) = (-1 : Int32) then (s_commit_40 t p n (0 : Int32) (i + 1) M) else (if (M 3 ((s_nodeOf (nI i) M).toNatClampNeg)) = (0 : Int32) then (s_commit_40 t p n (0 : Int32) (i + 1) M) else (s_commit_40 t p n (1 : Int32) (i + 1) M))) else (s_commit_40 t p n (1 : Int32) (i + 1) M))
theorem bm_commit_40 {g : GT} {nt : Nat} {C : St} {o : Int64}  {t : Nat} {p : Int32} (ht : t < 40) {N R : Nat} : ∀ (n : Nat) (c : Int32) (i : Nat) (M : St) (hi : i + n = 32) (hM : WM N R M) (htN : t < N) (h0 : M 23 t = 0) (h : Nat × Nat), V g K_X5_commit (kR K_X5_commit 0 0) (qM g 0 0 nt (fun v9 C9 M9 o9 => v9 = some (.int (s_commit_40 t p n c i M).1) ∧ C9 = C ∧ M9 = (s_commit_40 t p n c i M).2 ∧ o9 = o) (fun _ _ _ _ => False)) 0 0 nt h C M o 40 [(0, .ref (ad g 10)), (2, .int p), (3, .int (nI t)), (4, .int c), (5, .int (nI i))] [] := by
  intro n
  induction n with
  | zero =>
    intro c i M hi hM htN h0 h
    unfold s_commit_40
    refine V_iload (dG D_X5_commit_0 25 rfl) rfl ?_
    refine V_bipush (v := 32) (dG D_X5_commit_0 26 rfl) (by decide) ?_
    refine V_icmp_ge (tgt := 95) (dG D_X5_commit_0 27 rfl) (by decide) (fun c_44 => ?_) (fun c_44 => absurd (l32 (by omega)) c_44)
    refine V_iload (dG D_X5_commit_1 5 rfl) rfl ?_
    refine V_if_eq (tgt := 103) (dG D_X5_commit_1 6 rfl) (by decide) (fun c_97 => ?_) (fun c_97 => ?_)
    · try rw [if_pos c_97]
      refine V_aload_n (dG D_X5_commit_1 9 rfl) rfl ?_
      refine gf_X5_75 rfl (dG D_X5_commit_1 10 rfl) ?_
      refine V_iload_n (dG D_X5_commit_1 11 rfl) rfl ?_
      refine V_iconst (v := -1) (dG D_X5_commit_1 12 rfl) (by decide) ?_
      refine iast_M24 (dG D_X5_commit_1 13 rfl) (inr_nI (by omega) (by decide)) ?_
      refine V_aload_n (dG D_X5_commit_1 14 rfl) rfl ?_
      refine V_iload_n (dG D_X5_commit_1 15 rfl) rfl ?_
      refine V_aload_n (dG D_X5_commit_1 16 rfl) rfl ?_
      refine gf_X5_87 rfl (dG D_X5_commit_1 17 rfl) ?_
      refine R_vb2 (om_countsWritten (by omega) ) lk_X5_189 (dG D_X5_commit_1 18 rfl) rcv_5 ⟨Nat.le_of_ble_eq_true rfl, Nat.le_of_ble_eq_true rfl⟩ ⟨(Nat.le_of_ble_eq_true rfl), (Nat.le_of_ble_eq_true rfl)⟩ (by first | exact Nat.le_of_ble_eq_true rfl | simp [cat_rf, cat_int, cat_ref]) (fun h => ?_)
      refine V_if_le (tgt := 126) (dG D_X5_commit_1 19 rfl) (by decide) (fun c_119 => ?_) (fun c_119 => ?_)
      · try rw [if_pos c_119]
        refine V_iconst (v := 0) (dG D_X5_commit_1 22 rfl) (by decide) ?_
        refine V_istore (dG D_X5_commit_1 23 rfl) (Nat.le_of_ble_eq_true rfl) ?_
        refine V_aload_n (dG D_X5_commit_1 24 rfl) rfl ?_
        refine gf_X5_63 rfl (dG D_X5_commit_1 25 rfl) ?_
        refine V_iload_n (dG D_X5_commit_1 26 rfl) rfl ?_
        refine V_iload (dG D_X5_commit_1 27 rfl) rfl ?_
        refine V_if_eq (tgt := 157) (dG D_X5_commit_1 28 rfl) (by decide) (fun c_136 => ?_) (fun c_136 => absurd c_136 (by decide))
        refine V_aload_n (dG D_X5_commit_1 39 rfl) rfl ?_
        refine gf_X5_63 rfl (dG D_X5_commit_1 40 rfl) ?_
        refine V_iload_n (dG D_X5_commit_1 41 rfl) rfl ?_
        refine iald_M20 (dG D_X5_commit_1 42 rfl) (inr_nI (by omega) (by decide)) ?_
        rw [up_row (v := 24) (w := 20) (by decide)]
        refine iast_M20 (dG D_X5_commit_1 43 rfl) (inr_nI (by omega) (by decide)) ?_
        refine V_aload_n (dG D_X5_commit_1 44 rfl) rfl ?_
        refine gf_X5_63 rfl (dG D_X5_commit_1 45 rfl) ?_
        refine V_iload_n (dG D_X5_commit_1 46 rfl) rfl ?_
        refine iald_M20 (dG D_X5_commit_1 47 rfl) (inr_nI (by omega) (by decide)) ?_
        rw [up_eq]
        refine V_aload_n (dG D_X5_commit_2 0 rfl) rfl ?_
        refine gf_X5_60 rfl (dG D_X5_commit_2 1 rfl) ?_
        refine V_iload_n (dG D_X5_commit_2 2 rfl) rfl ?_
        refine iald_M19 (dG D_X5_commit_2 3 rfl) (inr_nI (by omega) (by decide)) ?_
        rw [up_row (v := 20) (w := 19) (by decide)]
        rw [up_row (v := 24) (w := 19) (by decide)]
        refine V_icmp_le (tgt := 217) (dG D_X5_commit_2 4 rfl) (by decide) (fun c_176 => ?_) (fun c_176 => ?_)
        · try rw [if_pos c_176]
          refine V_aload_n (dG D_X5_commit_2 29 rfl) rfl ?_
          refine V_iload_n (dG D_X5_commit_2 30 rfl) rfl ?_
          refine R_vb1 (om_hasAllIntents (by omega) ) lk_X5_138 (dG D_X5_commit_2 31 rfl) rcv_5 ⟨Nat.le_of_ble_eq_true rfl, Nat.le_of_ble_eq_true rfl⟩ ⟨(Nat.le_of_ble_eq_true rfl), (Nat.le_of_ble_eq_true rfl)⟩ (by first | exact Nat.le_of_ble_eq_true rfl | simp [cat_rf, cat_int, cat_ref]) (fun h => ?_)
          refine V_if_ne (tgt := 235) (dG D_X5_commit_2 32 rfl) (by decide) (fun c_222 => ?_) (fun c_222 => ?_)
          · try rw [if_neg c_222]
            refine V_iload_n (dG D_X5_commit_2 40 rfl) rfl ?_
            refine V_if_eq (tgt := 254) (dG D_X5_commit_2 41 rfl) (by decide) (fun c_236 => ?_) (fun c_236 => ?_)
            · try rw [if_pos c_236]
              refine V_aload_n (dG D_X5_commit_3 2 rfl) rfl ?_
              refine V_iload_n (dG D_X5_commit_3 3 rfl) rfl ?_
              refine R_nb1 (om_commits (by omega) (by first | exact cmVa hM htN h0 | exact cmVb hM htN h0)) lk_X5_142 (dG D_X5_commit_3 4 rfl) rcv_5 ⟨Nat.le_of_ble_eq_true rfl, Nat.le_of_ble_eq_true rfl⟩ ⟨(Nat.le_of_ble_eq_true rfl), (Nat.le_of_ble_eq_true rfl)⟩ (by first | exact Nat.le_of_ble_eq_true rfl | simp [cat_rf, cat_int, cat_ref]) (fun h => ?_)
              refine V_iconst (v := 0) (dG D_X5_commit_3 5 rfl) (by decide) ?_
              exact V_iret (dG D_X5_commit_3 6 rfl) rfl (Nat.le_of_ble_eq_true rfl) (Nat.le_of_ble_eq_true rfl) ⟨by first | with_reducible rfl | rfl, rfl, by first | with_reducible rfl | rfl, rfl⟩
            · try rw [if_neg c_236]
              refine V_iload (dG D_X5_commit_2 42 rfl) rfl ?_
              refine V_if_eq (tgt := 254) (dG D_X5_commit_2 43 rfl) (by decide) (fun c_241 => ?_) (fun c_241 => absurd c_241 (by decide))
              refine V_aload_n (dG D_X5_commit_3 2 rfl) rfl ?_
              refine V_iload_n (dG D_X5_commit_3 3 rfl) rfl ?_
              refine R_nb1 (om_commits (by omega) (by first | exact cmVa hM htN h0 | exact cmVb hM htN h0)) lk_X5_142 (dG D_X5_commit_3 4 rfl) rcv_5 ⟨Nat.le_of_ble_eq_true rfl, Nat.le_of_ble_eq_true rfl⟩ ⟨(Nat.le_of_ble_eq_true rfl), (Nat.le_of_ble_eq_true rfl)⟩ (by first | exact Nat.le_of_ble_eq_true rfl | simp [cat_rf, cat_int, cat_ref]) (fun h => ?_)
              refine V_iconst (v := 0) (dG D_X5_commit_3 5 rfl) (by decide) ?_
              exact V_iret (dG D_X5_commit_3 6 rfl) rfl (Nat.le_of_ble_eq_true rfl) (Nat.le_of_ble_eq_true rfl) ⟨by first | with_reducible rfl | rfl, rfl, by first | with_reducible rfl | rfl, rfl⟩
          · try rw [if_pos c_222]
            refine V_aload_n (dG D_X5_commit_2 33 rfl) rfl ?_
            refine gf_X5_72 rfl (dG D_X5_commit_2 34 rfl) ?_
            refine V_iload_n (dG D_X5_commit_2 35 rfl) rfl ?_
            refine V_iconst (v := 3) (dG D_X5_commit_2 36 rfl) (by decide) ?_
            refine iast_M23 (dG D_X5_commit_2 37 rfl) (inr_nI (by omega) (by decide)) ?_
            refine V_bipush (v := -13) (dG D_X5_commit_2 38 rfl) (by decide) ?_
            exact V_iret (dG D_X5_commit_2 39 rfl) rfl (Nat.le_of_ble_eq_true rfl) (Nat.le_of_ble_eq_true rfl) ⟨by first | with_reducible rfl | rfl, rfl, by first | with_reducible rfl | rfl, rfl⟩
        · try rw [if_neg c_176]
          refine V_aload_n (dG D_X5_commit_2 5 rfl) rfl ?_
          refine V_iload_n (dG D_X5_commit_2 6 rfl) rfl ?_
          refine V_aload_n (dG D_X5_commit_2 7 rfl) rfl ?_
          refine gf_X5_63 rfl (dG D_X5_commit_2 8 rfl) ?_
          refine V_iload_n (dG D_X5_commit_2 9 rfl) rfl ?_
          refine iald_M20 (dG D_X5_commit_2 10 rfl) (inr_nI (by omega) (by decide)) ?_
          rw [up_eq]
          refine R_vb2 (om_refreshes (by omega) (WM_cma hM)) lk_X5_176 (dG D_X5_commit_2 11 rfl) rcv_5 ⟨Nat.le_of_ble_eq_true rfl, Nat.le_of_ble_eq_true rfl⟩ ⟨(Nat.le_of_ble_eq_true rfl), (Nat.le_of_ble_eq_true rfl)⟩ (by first | exact Nat.le_of_ble_eq_true rfl | simp [cat_rf, cat_int, cat_ref]) (fun h => ?_)
          refine V_if_ne (tgt := 205) (dG D_X5_commit_2 12 rfl) (by decide) (fun c_190 => ?_) (fun c_190 => ?_)
          · try rw [if_neg c_190]
            refine V_aload_n (dG D_X5_commit_2 21 rfl) rfl ?_
            refine gf_X5_60 rfl (dG D_X5_commit_2 22 rfl) ?_
            refine V_iload_n (dG D_X5_commit_2 23 rfl) rfl ?_
            refine V_aload_n (dG D_X5_commit_2 24 rfl) rfl ?_
            refine gf_X5_63 rfl (dG D_X5_commit_2 25 rfl) ?_
            refine V_iload_n (dG D_X5_commit_2 26 rfl) rfl ?_
            refine iald_M20 (dG D_X5_commit_2 27 rfl) (inr_nI (by omega) (by decide)) ?_
            refine iast_M19 (dG D_X5_commit_2 28 rfl) (inr_nI (by omega) (by decide)) ?_
            refine V_aload_n (dG D_X5_commit_2 29 rfl) rfl ?_
            refine V_iload_n (dG D_X5_commit_2 30 rfl) rfl ?_
            refine R_vb1 (om_hasAllIntents (by omega) ) lk_X5_138 (dG D_X5_commit_2 31 rfl) rcv_5 ⟨Nat.le_of_ble_eq_true rfl, Nat.le_of_ble_eq_true rfl⟩ ⟨(Nat.le_of_ble_eq_true rfl), (Nat.le_of_ble_eq_true rfl)⟩ (by first | exact Nat.le_of_ble_eq_true rfl | simp [cat_rf, cat_int, cat_ref]) (fun h => ?_)
            refine V_if_ne (tgt := 235) (dG D_X5_commit_2 32 rfl) (by decide) (fun c_222 => ?_) (fun c_222 => ?_)
            · try rw [if_neg c_222]
              refine V_iload_n (dG D_X5_commit_2 40 rfl) rfl ?_
              refine V_if_eq (tgt := 254) (dG D_X5_commit_2 41 rfl) (by decide) (fun c_236 => ?_) (fun c_236 => ?_)
              · try rw [if_pos c_236]
                refine V_aload_n (dG D_X5_commit_3 2 rfl) rfl ?_
                refine V_iload_n (dG D_X5_commit_3 3 rfl) rfl ?_
                refine R_nb1 (om_commits (by omega) (by first | exact cmVa hM htN h0 | exact cmVb hM htN h0)) lk_X5_142 (dG D_X5_commit_3 4 rfl) rcv_5 ⟨Nat.le_of_ble_eq_true rfl, Nat.le_of_ble_eq_true rfl⟩ ⟨(Nat.le_of_ble_eq_true rfl), (Nat.le_of_ble_eq_true rfl)⟩ (by first | exact Nat.le_of_ble_eq_true rfl | simp [cat_rf, cat_int, cat_ref]) (fun h => ?_)
                refine V_iconst (v := 0) (dG D_X5_commit_3 5 rfl) (by decide) ?_
                exact V_iret (dG D_X5_commit_3 6 rfl) rfl (Nat.le_of_ble_eq_true rfl) (Nat.le_of_ble_eq_true rfl) ⟨by first | with_reducible rfl | rfl, rfl, by first | with_reducible rfl | rfl, rfl⟩
              · try rw [if_neg c_236]
                refine V_iload (dG D_X5_commit_2 42 rfl) rfl ?_
                refine V_if_eq (tgt := 254) (dG D_X5_commit_2 43 rfl) (by decide) (fun c_241 => ?_) (fun c_241 => absurd c_241 (by decide))
                refine V_aload_n (dG D_X5_commit_3 2 rfl) rfl ?_
                refine V_iload_n (dG D_X5_commit_3 3 rfl) rfl ?_
                refine R_nb1 (om_commits (by omega) (by first | exact cmVa hM htN h0 | exact cmVb hM htN h0)) lk_X5_142 (dG D_X5_commit_3 4 rfl) rcv_5 ⟨Nat.le_of_ble_eq_true rfl, Nat.le_of_ble_eq_true rfl⟩ ⟨(Nat.le_of_ble_eq_true rfl), (Nat.le_of_ble_eq_true rfl)⟩ (by first | exact Nat.le_of_ble_eq_true rfl | simp [cat_rf, cat_int, cat_ref]) (fun h => ?_)
                refine V_iconst (v := 0) (dG D_X5_commit_3 5 rfl) (by decide) ?_
                exact V_iret (dG D_X5_commit_3 6 rfl) rfl (Nat.le_of_ble_eq_true rfl) (Nat.le_of_ble_eq_true rfl) ⟨by first | with_reducible rfl | rfl, rfl, by first | with_reducible rfl | rfl, rfl⟩
            · try rw [if_pos c_222]
              refine V_aload_n (dG D_X5_commit_2 33 rfl) rfl ?_
              refine gf_X5_72 rfl (dG D_X5_commit_2 34 rfl) ?_
              refine V_iload_n (dG D_X5_commit_2 35 rfl) rfl ?_
              refine V_iconst (v := 3) (dG D_X5_commit_2 36 rfl) (by decide) ?_
              refine iast_M23 (dG D_X5_commit_2 37 rfl) (inr_nI (by omega) (by decide)) ?_
              refine V_bipush (v := -13) (dG D_X5_commit_2 38 rfl) (by decide) ?_
              exact V_iret (dG D_X5_commit_2 39 rfl) rfl (Nat.le_of_ble_eq_true rfl) (Nat.le_of_ble_eq_true rfl) ⟨by first | with_reducible rfl | rfl, rfl, by first | with_reducible rfl | rfl, rfl⟩
          · try rw [if_pos c_190]
            refine V_aload_n (dG D_X5_commit_2 13 rfl) rfl ?_
            refine V_iload_n (dG D_X5_commit_2 14 rfl) rfl ?_
            refine V_aload_n (dG D_X5_commit_2 15 rfl) rfl ?_
            refine gf_X5_63 rfl (dG D_X5_commit_2 16 rfl) ?_
            refine V_iload_n (dG D_X5_commit_2 17 rfl) rfl ?_
            refine iald_M20 (dG D_X5_commit_2 18 rfl) (inr_nI (by omega) (by decide)) ?_
            refine R_vb2 (om_restarts (by omega) ) lk_X5_179 (dG D_X5_commit_2 19 rfl) rcv_5 ⟨Nat.le_of_ble_eq_true rfl, Nat.le_of_ble_eq_true rfl⟩ ⟨(Nat.le_of_ble_eq_true rfl), (Nat.le_of_ble_eq_true rfl)⟩ (by first | exact Nat.le_of_ble_eq_true rfl | simp [cat_rf, cat_int, cat_ref]) (fun h => ?_)
            exact V_iret (dG D_X5_commit_2 20 rfl) rfl (Nat.le_of_ble_eq_true rfl) (Nat.le_of_ble_eq_true rfl) ⟨by first | with_reducible rfl | rfl, rfl, by first | with_reducible rfl | rfl, rfl⟩
      · try rw [if_neg c_119]
        refine V_iconst (v := 1) (dG D_X5_commit_1 20 rfl) (by decide) ?_
        refine V_goto (tgt := 127) (dG D_X5_commit_1 21 rfl) (by decide) ?_
        refine V_istore (dG D_X5_commit_1 23 rfl) (Nat.le_of_ble_eq_true rfl) ?_
        refine V_aload_n (dG D_X5_commit_1 24 rfl) rfl ?_
        refine gf_X5_63 rfl (dG D_X5_commit_1 25 rfl) ?_
        refine V_iload_n (dG D_X5_commit_1 26 rfl) rfl ?_
        refine V_iload (dG D_X5_commit_1 27 rfl) rfl ?_
        refine V_if_eq (tgt := 157) (dG D_X5_commit_1 28 rfl) (by decide) (fun c_136 => absurd c_136 (by decide)) (fun c_136 => ?_)
        refine V_aload_n (dG D_X5_commit_1 29 rfl) rfl ?_
        refine gf_X5_63 rfl (dG D_X5_commit_1 30 rfl) ?_
        refine V_iload_n (dG D_X5_commit_1 31 rfl) rfl ?_
        refine iald_M20 (dG D_X5_commit_1 32 rfl) (inr_nI (by omega) (by decide)) ?_
        rw [up_row (v := 24) (w := 20) (by decide)]
        refine V_aload_n (dG D_X5_commit_1 33 rfl) rfl ?_
        refine R_vb0 om_closedNow lk_X5_111 (dG D_X5_commit_1 34 rfl) rcv_5 ⟨Nat.le_of_ble_eq_true rfl, Nat.le_of_ble_eq_true rfl⟩ ⟨(Nat.le_of_ble_eq_true rfl), (Nat.le_of_ble_eq_true rfl)⟩ (by first | exact Nat.le_of_ble_eq_true rfl | simp [cat_rf, cat_int, cat_ref]) (fun h => ?_)
        refine V_iconst (v := 1) (dG D_X5_commit_1 35 rfl) (by decide) ?_
        refine V_iadd (dG D_X5_commit_1 36 rfl) ?_
        refine R_vs2 om_greater lk_X5_103 (dG D_X5_commit_1 37 rfl) ⟨Nat.le_of_ble_eq_true rfl, Nat.le_of_ble_eq_true rfl⟩ ⟨(Nat.le_of_ble_eq_true rfl), (Nat.le_of_ble_eq_true rfl)⟩ (by first | exact Nat.le_of_ble_eq_true rfl | simp [cat_rf, cat_int, cat_ref]) (fun h => ?_)
        refine V_goto (tgt := 163) (dG D_X5_commit_1 38 rfl) (by decide) ?_
        refine iast_M20 (dG D_X5_commit_1 43 rfl) (inr_nI (by omega) (by decide)) ?_
        refine V_aload_n (dG D_X5_commit_1 44 rfl) rfl ?_
        refine gf_X5_63 rfl (dG D_X5_commit_1 45 rfl) ?_
        refine V_iload_n (dG D_X5_commit_1 46 rfl) rfl ?_
        refine iald_M20 (dG D_X5_commit_1 47 rfl) (inr_nI (by omega) (by decide)) ?_
        rw [up_eq]
        refine V_aload_n (dG D_X5_commit_2 0 rfl) rfl ?_
        refine gf_X5_60 rfl (dG D_X5_commit_2 1 rfl) ?_
        refine V_iload_n (dG D_X5_commit_2 2 rfl) rfl ?_
        refine iald_M19 (dG D_X5_commit_2 3 rfl) (inr_nI (by omega) (by decide)) ?_
        rw [up_row (v := 20) (w := 19) (by decide)]
        rw [up_row (v := 24) (w := 19) (by decide)]
        refine V_icmp_le (tgt := 217) (dG D_X5_commit_2 4 rfl) (by decide) (fun c_176 => ?_) (fun c_176 => ?_)
        · try rw [if_pos c_176]
          refine V_aload_n (dG D_X5_commit_2 29 rfl) rfl ?_
          refine V_iload_n (dG D_X5_commit_2 30 rfl) rfl ?_
          refine R_vb1 (om_hasAllIntents (by omega) ) lk_X5_138 (dG D_X5_commit_2 31 rfl) rcv_5 ⟨Nat.le_of_ble_eq_true rfl, Nat.le_of_ble_eq_true rfl⟩ ⟨(Nat.le_of_ble_eq_true rfl), (Nat.le_of_ble_eq_true rfl)⟩ (by first | exact Nat.le_of_ble_eq_true rfl | simp [cat_rf, cat_int, cat_ref]) (fun h => ?_)
          refine V_if_ne (tgt := 235) (dG D_X5_commit_2 32 rfl) (by decide) (fun c_222 => ?_) (fun c_222 => ?_)
          · try rw [if_neg c_222]
            refine V_iload_n (dG D_X5_commit_2 40 rfl) rfl ?_
            refine V_if_eq (tgt := 254) (dG D_X5_commit_2 41 rfl) (by decide) (fun c_236 => ?_) (fun c_236 => ?_)
            · try rw [if_pos c_236]
              refine V_aload_n (dG D_X5_commit_3 2 rfl) rfl ?_
              refine V_iload_n (dG D_X5_commit_3 3 rfl) rfl ?_
              refine R_nb1 (om_commits (by omega) (by first | exact cmVa hM htN h0 | exact cmVb hM htN h0)) lk_X5_142 (dG D_X5_commit_3 4 rfl) rcv_5 ⟨Nat.le_of_ble_eq_true rfl, Nat.le_of_ble_eq_true rfl⟩ ⟨(Nat.le_of_ble_eq_true rfl), (Nat.le_of_ble_eq_true rfl)⟩ (by first | exact Nat.le_of_ble_eq_true rfl | simp [cat_rf, cat_int, cat_ref]) (fun h => ?_)
              refine V_iconst (v := 0) (dG D_X5_commit_3 5 rfl) (by decide) ?_
              exact V_iret (dG D_X5_commit_3 6 rfl) rfl (Nat.le_of_ble_eq_true rfl) (Nat.le_of_ble_eq_true rfl) ⟨by first | with_reducible rfl | rfl, rfl, by first | with_reducible rfl | rfl, rfl⟩
            · try rw [if_neg c_236]
              refine V_iload (dG D_X5_commit_2 42 rfl) rfl ?_
              refine V_if_eq (tgt := 254) (dG D_X5_commit_2 43 rfl) (by decide) (fun c_241 => absurd c_241 (by decide)) (fun c_241 => ?_)
              refine V_aload_n (dG D_X5_commit_2 44 rfl) rfl ?_
              refine gf_X5_72 rfl (dG D_X5_commit_2 45 rfl) ?_
              refine V_iload_n (dG D_X5_commit_2 46 rfl) rfl ?_
              refine V_iconst (v := 1) (dG D_X5_commit_2 47 rfl) (by decide) ?_
              refine iast_M23 (dG D_X5_commit_3 0 rfl) (inr_nI (by omega) (by decide)) ?_
              refine V_goto (tgt := 259) (dG D_X5_commit_3 1 rfl) (by decide) ?_
              refine V_iconst (v := 0) (dG D_X5_commit_3 5 rfl) (by decide) ?_
              exact V_iret (dG D_X5_commit_3 6 rfl) rfl (Nat.le_of_ble_eq_true rfl) (Nat.le_of_ble_eq_true rfl) ⟨by first | with_reducible rfl | rfl, rfl, by first | with_reducible rfl | rfl, rfl⟩
          · try rw [if_pos c_222]
            refine V_aload_n (dG D_X5_commit_2 33 rfl) rfl ?_
            refine gf_X5_72 rfl (dG D_X5_commit_2 34 rfl) ?_
            refine V_iload_n (dG D_X5_commit_2 35 rfl) rfl ?_
            refine V_iconst (v := 3) (dG D_X5_commit_2 36 rfl) (by decide) ?_
            refine iast_M23 (dG D_X5_commit_2 37 rfl) (inr_nI (by omega) (by decide)) ?_
            refine V_bipush (v := -13) (dG D_X5_commit_2 38 rfl) (by decide) ?_
            exact V_iret (dG D_X5_commit_2 39 rfl) rfl (Nat.le_of_ble_eq_true rfl) (Nat.le_of_ble_eq_true rfl) ⟨by first | with_reducible rfl | rfl, rfl, by first | with_reducible rfl | rfl, rfl⟩
        · try rw [if_neg c_176]
          refine V_aload_n (dG D_X5_commit_2 5 rfl) rfl ?_
          refine V_iload_n (dG D_X5_commit_2 6 rfl) rfl ?_
          refine V_aload_n (dG D_X5_commit_2 7 rfl) rfl ?_
          refine gf_X5_63 rfl (dG D_X5_commit_2 8 rfl) ?_
          refine V_iload_n (dG D_X5_commit_2 9 rfl) rfl ?_
          refine iald_M20 (dG D_X5_commit_2 10 rfl) (inr_nI (by omega) (by decide)) ?_
          rw [up_eq]
          refine R_vb2 (om_refreshes (by omega) (WM_cma hM)) lk_X5_176 (dG D_X5_commit_2 11 rfl) rcv_5 ⟨Nat.le_of_ble_eq_true rfl, Nat.le_of_ble_eq_true rfl⟩ ⟨(Nat.le_of_ble_eq_true rfl), (Nat.le_of_ble_eq_true rfl)⟩ (by first | exact Nat.le_of_ble_eq_true rfl | simp [cat_rf, cat_int, cat_ref]) (fun h => ?_)
          refine V_if_ne (tgt := 205) (dG D_X5_commit_2 12 rfl) (by decide) (fun c_190 => ?_) (fun c_190 => ?_)
          · try rw [if_neg c_190]
            refine V_aload_n (dG D_X5_commit_2 21 rfl) rfl ?_
            refine gf_X5_60 rfl (dG D_X5_commit_2 22 rfl) ?_
            refine V_iload_n (dG D_X5_commit_2 23 rfl) rfl ?_
            refine V_aload_n (dG D_X5_commit_2 24 rfl) rfl ?_
            refine gf_X5_63 rfl (dG D_X5_commit_2 25 rfl) ?_
            refine V_iload_n (dG D_X5_commit_2 26 rfl) rfl ?_
            refine iald_M20 (dG D_X5_commit_2 27 rfl) (inr_nI (by omega) (by decide)) ?_
            refine iast_M19 (dG D_X5_commit_2 28 rfl) (inr_nI (by omega) (by decide)) ?_
            refine V_aload_n (dG D_X5_commit_2 29 rfl) rfl ?_
            refine V_iload_n (dG D_X5_commit_2 30 rfl) rfl ?_
            refine R_vb1 (om_hasAllIntents (by omega) ) lk_X5_138 (dG D_X5_commit_2 31 rfl) rcv_5 ⟨Nat.le_of_ble_eq_true rfl, Nat.le_of_ble_eq_true rfl⟩ ⟨(Nat.le_of_ble_eq_true rfl), (Nat.le_of_ble_eq_true rfl)⟩ (by first | exact Nat.le_of_ble_eq_true rfl | simp [cat_rf, cat_int, cat_ref]) (fun h => ?_)
            refine V_if_ne (tgt := 235) (dG D_X5_commit_2 32 rfl) (by decide) (fun c_222 => ?_) (fun c_222 => ?_)
            · try rw [if_neg c_222]
              refine V_iload_n (dG D_X5_commit_2 40 rfl) rfl ?_
              refine V_if_eq (tgt := 254) (dG D_X5_commit_2 41 rfl) (by decide) (fun c_236 => ?_) (fun c_236 => ?_)
              · try rw [if_pos c_236]
                refine V_aload_n (dG D_X5_commit_3 2 rfl) rfl ?_
                refine V_iload_n (dG D_X5_commit_3 3 rfl) rfl ?_
                refine R_nb1 (om_commits (by omega) (by first | exact cmVa hM htN h0 | exact cmVb hM htN h0)) lk_X5_142 (dG D_X5_commit_3 4 rfl) rcv_5 ⟨Nat.le_of_ble_eq_true rfl, Nat.le_of_ble_eq_true rfl⟩ ⟨(Nat.le_of_ble_eq_true rfl), (Nat.le_of_ble_eq_true rfl)⟩ (by first | exact Nat.le_of_ble_eq_true rfl | simp [cat_rf, cat_int, cat_ref]) (fun h => ?_)
                refine V_iconst (v := 0) (dG D_X5_commit_3 5 rfl) (by decide) ?_
                exact V_iret (dG D_X5_commit_3 6 rfl) rfl (Nat.le_of_ble_eq_true rfl) (Nat.le_of_ble_eq_true rfl) ⟨by first | with_reducible rfl | rfl, rfl, by first | with_reducible rfl | rfl, rfl⟩
              · try rw [if_neg c_236]
                refine V_iload (dG D_X5_commit_2 42 rfl) rfl ?_
                refine V_if_eq (tgt := 254) (dG D_X5_commit_2 43 rfl) (by decide) (fun c_241 => absurd c_241 (by decide)) (fun c_241 => ?_)
                refine V_aload_n (dG D_X5_commit_2 44 rfl) rfl ?_
                refine gf_X5_72 rfl (dG D_X5_commit_2 45 rfl) ?_
                refine V_iload_n (dG D_X5_commit_2 46 rfl) rfl ?_
                refine V_iconst (v := 1) (dG D_X5_commit_2 47 rfl) (by decide) ?_
                refine iast_M23 (dG D_X5_commit_3 0 rfl) (inr_nI (by omega) (by decide)) ?_
                refine V_goto (tgt := 259) (dG D_X5_commit_3 1 rfl) (by decide) ?_
                refine V_iconst (v := 0) (dG D_X5_commit_3 5 rfl) (by decide) ?_
                exact V_iret (dG D_X5_commit_3 6 rfl) rfl (Nat.le_of_ble_eq_true rfl) (Nat.le_of_ble_eq_true rfl) ⟨by first | with_reducible rfl | rfl, rfl, by first | with_reducible rfl | rfl, rfl⟩
            · try rw [if_pos c_222]
              refine V_aload_n (dG D_X5_commit_2 33 rfl) rfl ?_
              refine gf_X5_72 rfl (dG D_X5_commit_2 34 rfl) ?_
              refine V_iload_n (dG D_X5_commit_2 35 rfl) rfl ?_
              refine V_iconst (v := 3) (dG D_X5_commit_2 36 rfl) (by decide) ?_
              refine iast_M23 (dG D_X5_commit_2 37 rfl) (inr_nI (by omega) (by decide)) ?_
              refine V_bipush (v := -13) (dG D_X5_commit_2 38 rfl) (by decide) ?_
              exact V_iret (dG D_X5_commit_2 39 rfl) rfl (Nat.le_of_ble_eq_true rfl) (Nat.le_of_ble_eq_true rfl) ⟨by first | with_reducible rfl | rfl, rfl, by first | with_reducible rfl | rfl, rfl⟩
          · try rw [if_pos c_190]
            refine V_aload_n (dG D_X5_commit_2 13 rfl) rfl ?_
            refine V_iload_n (dG D_X5_commit_2 14 rfl) rfl ?_
            refine V_aload_n (dG D_X5_commit_2 15 rfl) rfl ?_
            refine gf_X5_63 rfl (dG D_X5_commit_2 16 rfl) ?_
            refine V_iload_n (dG D_X5_commit_2 17 rfl) rfl ?_
            refine iald_M20 (dG D_X5_commit_2 18 rfl) (inr_nI (by omega) (by decide)) ?_
            refine R_vb2 (om_restarts (by omega) ) lk_X5_179 (dG D_X5_commit_2 19 rfl) rcv_5 ⟨Nat.le_of_ble_eq_true rfl, Nat.le_of_ble_eq_true rfl⟩ ⟨(Nat.le_of_ble_eq_true rfl), (Nat.le_of_ble_eq_true rfl)⟩ (by first | exact Nat.le_of_ble_eq_true rfl | simp [cat_rf, cat_int, cat_ref]) (fun h => ?_)
            exact V_iret (dG D_X5_commit_2 20 rfl) rfl (Nat.le_of_ble_eq_true rfl) (Nat.le_of_ble_eq_true rfl) ⟨by first | with_reducible rfl | rfl, rfl, by first | with_reducible rfl | rfl, rfl⟩
    · try rw [if_neg c_97]
      refine V_bipush (v := -14) (dG D_X5_commit_1 7 rfl) (by decide) ?_
      exact V_iret (dG D_X5_commit_1 8 rfl) rfl (Nat.le_of_ble_eq_true rfl) (Nat.le_of_ble_eq_true rfl) ⟨by first | with_reducible rfl | rfl, rfl, by first | with_reducible rfl | rfl, rfl⟩
  | succ n ih =>
    intro c i M hi hM htN h0 h
    unfold s_commit_40
    refine V_iload (dG D_X5_commit_0 25 rfl) rfl ?_
    refine V_bipush (v := 32) (dG D_X5_commit_0 26 rfl) (by decide) ?_
    refine V_icmp_ge (tgt := 95) (dG D_X5_commit_0 27 rfl) (by decide) (fun c_44 => absurd c_44 (g32 (by omega))) (fun c_44 => ?_)
    refine V_iload (dG D_X5_commit_0 28 rfl) rfl ?_
    refine V_if_ne (tgt := 82) (dG D_X5_commit_0 29 rfl) (by decide) (fun c_49 => ?_) (fun c_49 => ?_)
    · try rw [if_neg c_49]
      refine V_iconst (v := 1) (dG D_X5_commit_0 47 rfl) (by decide) ?_
      refine V_goto (tgt := 87) (dG D_X5_commit_1 0 rfl) (by decide) ?_
      refine V_istore (dG D_X5_commit_1 2 rfl) (Nat.le_of_ble_eq_true rfl) ?_
      refine V_iinc (dG D_X5_commit_1 3 rfl) rfl (inc1 _) (Nat.le_of_ble_eq_true rfl) ?_
      refine V_goto (tgt := 40) (dG D_X5_commit_1 4 rfl) (by decide) ?_
      refine V_sub [0, 2, 3, 4, 5] rfl ?_
      exact ih (1 : Int32) (i + 1) M (by omega) hM htN h0 h
    · try rw [if_pos c_49]
      refine V_aload_n (dG D_X5_commit_0 30 rfl) rfl ?_
      refine gf_X5_87 rfl (dG D_X5_commit_0 31 rfl) ?_
      refine V_bipush (v := 32) (dG D_X5_commit_0 32 rfl) (by decide) ?_
      refine V_iload_n (dG D_X5_commit_0 33 rfl) rfl ?_
      refine V_imul (dG D_X5_commit_0 34 rfl) ?_
      refine V_iload (dG D_X5_commit_0 35 rfl) rfl ?_
      refine V_iadd (dG D_X5_commit_0 36 rfl) ?_
      refine iald_M29 (dG D_X5_commit_0 37 rfl) (show inr (((32 : Int32) * (nI t)) + (nI i)) 1280 (32 * t + i) from by rw [(ix32 _ _)]; exact inr_nI (by omega) (by decide)) ?_
      refine V_iconst (v := -1) (dG D_X5_commit_0 38 rfl) (by decide) ?_
      refine V_icmp_eq (tgt := 86) (dG D_X5_commit_0 39 rfl) (by decide) (fun c_65 => ?_) (fun c_65 => ?_)
      · try rw [if_pos c_65]
        refine V_iconst (v := 0) (dG D_X5_commit_1 1 rfl) (by decide) ?_
        refine V_istore (dG D_X5_commit_1 2 rfl) (Nat.le_of_ble_eq_true rfl) ?_
        refine V_iinc (dG D_X5_commit_1 3 rfl) rfl (inc1 _) (Nat.le_of_ble_eq_true rfl) ?_
        refine V_goto (tgt := 40) (dG D_X5_commit_1 4 rfl) (by decide) ?_
        refine V_sub [0, 2, 3, 4, 5] rfl ?_
        exact ih (0 : Int32) (i + 1) M (by omega) hM htN h0 h
      · try rw [if_neg c_65]
        refine V_aload_n (dG D_X5_commit_0 40 rfl) rfl ?_
        refine gf_X5_16 rfl (dG D_X5_commit_0 41 rfl) ?_
        refine V_aload_n (dG D_X5_commit_0 42 rfl) rfl ?_
        refine V_iload (dG D_X5_commit_0 43 rfl) rfl ?_
        refine R_vb1 (om_nodeOf hM.r1 hM.r2 hM.r) lk_X5_118 (dG D_X5_commit_0 44 rfl) rcv_5 ⟨Nat.le_of_ble_eq_true rfl, Nat.le_of_ble_eq_true rfl⟩ ⟨(Nat.le_of_ble_eq_true rfl), (Nat.le_of_ble_eq_true rfl)⟩ (by first | exact Nat.le_of_ble_eq_true rfl | simp [cat_rf, cat_int, cat_ref]) (fun h => ?_)
        refine zald_M3 (dG D_X5_commit_0 45 rfl) (inr_of (no_vp hM.r1 hM.r2 hM.r hM.no)) ?_
        refine V_if_eq (tgt := 86) (dG D_X5_commit_0 46 rfl) (by decide) (fun c_79 => ?_) (fun c_79 => ?_)
        · try rw [if_pos c_79]
          refine V_iconst (v := 0) (dG D_X5_commit_1 1 rfl) (by decide) ?_
          refine V_istore (dG D_X5_commit_1 2 rfl) (Nat.le_of_ble_eq_true rfl) ?_
          refine V_iinc (dG D_X5_commit_1 3 rfl) rfl (inc1 _) (Nat.le_of_ble_eq_true rfl) ?_
          refine V_goto (tgt := 40) (dG D_X5_commit_1 4 rfl) (by decide) ?_
          refine V_sub [0, 2, 3, 4, 5] rfl ?_
          exact ih (0 : Int32) (i + 1) M (by omega) hM htN h0 h
        · try rw [if_neg c_79]
          refine V_iconst (v := 1) (dG D_X5_commit_0 47 rfl) (by decide) ?_
          refine V_goto (tgt := 87) (dG D_X5_commit_1 0 rfl) (by decide) ?_
          refine V_istore (dG D_X5_commit_1 2 rfl) (Nat.le_of_ble_eq_true rfl) ?_
          refine V_iinc (dG D_X5_commit_1 3 rfl) rfl (inc1 _) (Nat.le_of_ble_eq_true rfl) ?_
          refine V_goto (tgt := 40) (dG D_X5_commit_1 4 rfl) (by decide) ?_
          refine V_sub [0, 2, 3, 4, 5] rfl ?_
          exact ih (1 : Int32) (i + 1) M (by omega) hM htN h0 h
def s_commit (t : Nat) (p : Int32) (M : St) : Int32 × St := (if ((s_isTransaction (nI t) M).1) = (0 : Int32) then ((0 : Int32), (s_isTransaction (nI t) M).2) else (if ((s_isTransaction (nI t) M).2 23 t) = (0 : Int32) then (s_commit_40 t p 32 ((s_isTransaction (nI t) M).2 3 (((s_isTransaction (nI t) M).2 17 t).toNatClampNeg)) 0 ((s_isTransaction (nI t) M).2)) else ((-13 : Int32), (s_isTransaction (nI t) M).2)))
theorem om_commit {g : GT} {nt : Nat} {C : St} {o : Int64} {t : Nat} {p : Int32} {M : St} (ht : t < 40) {N R : Nat} (hM : WM N R M) : RET g K_X5_commit 0 0 [.ref (ad g 10), .int (nI t), .int p] nt C M o (some (.int (s_commit t p M).1)) C (s_commit t p M).2 o := by
  refine MT_of (by decide +kernel) rfl rfl (Nat.le_of_ble_eq_true rfl) (by simp [cat_rf, cat_int, cat_ref]) (fun h => ?_)
  unfold s_commit
  refine V_aload_n (dG D_X5_commit_0 0 rfl) rfl ?_
  refine V_iload_n (dG D_X5_commit_0 1 rfl) rfl ?_
  refine R_vb1 om_isTransaction lk_X5_186 (dG D_X5_commit_0 2 rfl) rcv_5 ⟨Nat.le_of_ble_eq_true rfl, Nat.le_of_ble_eq_true rfl⟩ ⟨(Nat.le_of_ble_eq_true rfl), (Nat.le_of_ble_eq_true rfl)⟩ (by first | exact Nat.le_of_ble_eq_true rfl | simp [cat_rf, cat_int, cat_ref]) (fun h => ?_)
  refine V_if_ne (tgt := 10) (dG D_X5_commit_0 3 rfl) (by decide) (fun c_5 => ?_) (fun c_5 => ?_)
  · try rw [if_neg c_5]
    have htN := isT_lt hM ht c_5
    have hM1 := WM_isT (x := nI t) hM
    refine V_iload_n (dG D_X5_commit_0 6 rfl) rfl ?_
    refine V_istore_n (dG D_X5_commit_0 7 rfl) (Nat.le_of_ble_eq_true rfl) ?_
    refine V_aload_n (dG D_X5_commit_0 8 rfl) rfl ?_
    refine gf_X5_72 rfl (dG D_X5_commit_0 9 rfl) ?_
    refine V_iload_n (dG D_X5_commit_0 10 rfl) rfl ?_
    refine iald_M23 (dG D_X5_commit_0 11 rfl) (inr_nI (by omega) (by decide)) ?_
    refine V_if_eq (tgt := 24) (dG D_X5_commit_0 12 rfl) (by decide) (fun c_18 => ?_) (fun c_18 => ?_)
    · try rw [if_pos c_18]
      refine V_aload_n (dG D_X5_commit_0 15 rfl) rfl ?_
      refine gf_X5_16 rfl (dG D_X5_commit_0 16 rfl) ?_
      refine V_aload_n (dG D_X5_commit_0 17 rfl) rfl ?_
      refine gf_X5_54 rfl (dG D_X5_commit_0 18 rfl) ?_
      refine V_iload_n (dG D_X5_commit_0 19 rfl) rfl ?_
      refine iald_M17 (dG D_X5_commit_0 20 rfl) (inr_nI (by omega) (by decide)) ?_
      refine zald_M3 (dG D_X5_commit_0 21 rfl) (inr_of (hM1.ho _ ht)) ?_
      refine V_istore (dG D_X5_commit_0 22 rfl) (Nat.le_of_ble_eq_true rfl) ?_
      refine V_iconst (v := 0) (dG D_X5_commit_0 23 rfl) (by decide) ?_
      refine V_istore (dG D_X5_commit_0 24 rfl) (Nat.le_of_ble_eq_true rfl) ?_
      refine V_sub [0, 2, 3, 4, 5] rfl ?_
      exact bm_commit_40 ht  32 ((s_isTransaction (nI t) M).2 3 (((s_isTransaction (nI t) M).2 17 t).toNatClampNeg)) 0 ((s_isTransaction (nI t) M).2) (by omega) hM1 htN c_18 h
    · try rw [if_neg c_18]
      refine V_bipush (v := -13) (dG D_X5_commit_0 13 rfl) (by decide) ?_
      exact V_iret (dG D_X5_commit_0 14 rfl) rfl (Nat.le_of_ble_eq_true rfl) (Nat.le_of_ble_eq_true rfl) ⟨by first | with_reducible rfl | rfl, rfl, by first | with_reducible rfl | rfl, rfl⟩
  · try rw [if_pos c_5]
    refine V_iconst (v := 0) (dG D_X5_commit_0 4 rfl) (by decide) ?_
    exact V_iret (dG D_X5_commit_0 5 rfl) rfl (Nat.le_of_ble_eq_true rfl) (Nat.le_of_ble_eq_true rfl) ⟨by first | with_reducible rfl | rfl, rfl, by first | with_reducible rfl | rfl, rfl⟩
