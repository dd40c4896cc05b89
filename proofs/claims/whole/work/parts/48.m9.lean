/-! get: what ends its looking -/
set_option maxHeartbeats 100000
theorem cP_lt1 {M : St} {x : Int32} {i : Nat} (hx : ¬ (x = 0 ∨ x = 1)) (h0 : M 23 i = 0 ∨ M 23 i = 1) : ∀ {n : Nat}, i < n → cP (up M 23 i x) n + 1 ≤ cP M n
  | 0, h => absurd h (Nat.not_lt_zero i)
  | n + 1, h => by
    unfold cP
    by_cases e : n = i
    · subst e
      have := cP_up (M := M) (i := n) hx (n := n)
      rw [up_eq, if_neg hx, if_pos h0]
      omega
    · have := cP_lt1 (M := M) (i := i) hx h0 (n := n) (by omega)
      rw [up_ne (Or.inr e)]
      omega
def VS (N : Nat) (M M' : St) : Prop := cP M' N ≤ cP M N ∧ (cP M' N = cP M N → M' 12 = M 12 ∧ M' 13 = M 13 ∧ M' 14 = M 14)
section W9
variable {N R : Nat} {M : St}
theorem VS.refl : VS N M M := ⟨Nat.le_refl _, fun _ => ⟨rfl, rfl, rfl⟩⟩
theorem VS.trans {M1 M2 : St} (p : VS N M M1) (q : VS N M1 M2) : VS N M M2 := by
  refine ⟨Nat.le_trans q.1 p.1, fun e => ?_⟩
  have h1 := p.1
  have h2 := q.1
  obtain ⟨a1, a2, a3⟩ := p.2 (by omega)
  obtain ⟨b1, b2, b3⟩ := q.2 (by omega)
  exact ⟨b1.trans a1, b2.trans a2, b3.trans a3⟩
theorem VS_congr {M' : St} (e23 : M' 23 = M 23) (e12 : M' 12 = M 12) (e13 : M' 13 = M 13) (e14 : M' 14 = M 14) : VS N M M' := ⟨Nat.le_of_eq (cP_congr e23), fun _ => ⟨e12, e13, e14⟩⟩
theorem VS_up {v i : Nat} {x : Int32} (hv : v ≠ 23 ∧ v ≠ 12 ∧ v ≠ 13 ∧ v ≠ 14) : VS N M (up M v i x) := VS_congr (up_row (fun q => hv.1 q.symm)) (up_row (fun q => hv.2.1 q.symm)) (up_row (fun q => hv.2.2.1 q.symm)) (up_row (fun q => hv.2.2.2 q.symm))
theorem VS_up23 {i : Nat} {x : Int32} (hx : ¬ (x = 0 ∨ x = 1)) : VS N M (up M 23 i x) := ⟨cP_up hx, fun _ => ⟨up_row (by decide), up_row (by decide), up_row (by decide)⟩⟩
theorem VS_rec {u : Nat} (hu : u < N) (h1 : M 23 u = 1) : VS N M (s_recovers u M) := by
  unfold s_recovers
  split
  · exact VS_up23 (by decide)
  · have e : cP (s_commits u M) N = cP (up M 23 u 2) N := by
      unfold s_commits
      exact cP_congr (by rw [cm29_row (by decide) (by decide) (by decide) (by decide) (by decide), up_row (by decide), up_row (by decide)])
    have h2 := cP_lt1 (M := M) (x := 2) (by decide) (Or.inr h1) hu
    exact ⟨by omega, fun q => by omega⟩
theorem VS_meets49 {t k : Nat} {u : Int32} : VS N M (s_meets_49 t k u M).2 := by
  unfold s_meets_49
  split
  · split
    · exact VS_up (v := 7) (by decide)
    · exact VS_up (v := 7) (by decide)
  · split
    · exact VS.refl
    · exact VS.refl
theorem VS_meets34 {t k : Nat} {u : Int32} : VS N M (s_meets_34 t k u M).2 := by
  unfold s_meets_34
  split
  · exact VS_meets49
  · exact VS.trans (VS_up23 (by decide)) VS_meets49
theorem VS_meets {t k : Nat} (h : WM N R M) (hk : k < 32) : VS N M (s_meets t k M).2 := by
  unfold s_meets
  split
  · exact VS.refl
  · rename_i c
    split
    · exact VS.refl
    · split
      · rename_i c2
        exact VS.trans (VS_rec (vin_lt (h.ow k hk c)) c2) VS_meets34
      · exact VS_meets34
theorem rec_19 {u : Nat} : s_recovers u M 19 = M 19 := by
  unfold s_recovers
  split
  · exact up_row (by decide)
  · unfold s_commits
    rw [cm29_row (by decide) (by decide) (by decide) (by decide) (by decide), up_row (by decide), up_row (by decide), up_row (by decide)]
theorem meets49_19 {t k : Nat} {u : Int32} : (s_meets_49 t k u M).2 19 = M 19 := by
  unfold s_meets_49
  split
  · split
    · show up M 7 k (-1 : Int32) 19 = M 19; rw [up_row (by decide)]
    · show up M 7 k (-1 : Int32) 19 = M 19; rw [up_row (by decide)]
  · split
    · rfl
    · rfl
theorem meets34_19 {t k : Nat} {u : Int32} : (s_meets_34 t k u M).2 19 = M 19 := by
  unfold s_meets_34
  split
  · exact meets49_19
  · exact meets49_19.trans (up_row (by decide))
theorem meets_19 {t k : Nat} : (s_meets t k M).2 19 = M 19 := by
  unfold s_meets
  split
  · rfl
  · split
    · rfl
    · split
      · exact meets34_19.trans rec_19
      · exact meets34_19
theorem VS_r2 {t : Nat} {z : Int32} : ∀ {n i : Nat} {M : St}, i + n ≤ 32 → WM N R M → VS N M (s_refreshes_2 t z n i M).2
  | 0, _, _, _, _ => VS_congr (r88_row (by decide) (by decide)) (r88_row (by decide) (by decide)) (r88_row (by decide) (by decide)) (r88_row (by decide) (by decide))
  | n + 1, i, M, hi, h => by
    have hm := WM_meets (t := t) (k := i) h (by omega)
    have e := VS_meets (t := t) (k := i) h (by omega)
    have h1 := VS_r2 (t := t) (z := z) (n := n) (i := i + 1) (M := M) (by omega) h
    have h2 := VS.trans e (VS_r2 (t := t) (z := z) (n := n) (i := i + 1) (M := (s_meets t i M).2) (by omega) hm)
    unfold s_refreshes_2
    split
    · exact h1
    · split
      · split
        · split
          · exact h2
          · exact e
        · split
          · exact e
          · split
            · exact h2
            · exact e
      · exact VS.refl
theorem VS_refr {t : Nat} {z : Int32} (h : WM N R M) : VS N M (s_refreshes t z M).2 := VS_r2 (by omega) h
theorem la5_congr {key s : Int32} {M' : St} (e13 : M' 13 = M 13) (e14 : M' 14 = M 14) : ∀ {n i : Nat} {b : Int32}, s_latest_5 key s n b i M' = s_latest_5 key s n b i M
  | 0, _, _ => rfl
  | n + 1, i, b => by
    unfold s_latest_5
    rw [e13, e14, la5_congr e13 e14, la5_congr e13 e14]
theorem la_congr {key s : Int32} {M' : St} (e12 : M' 12 = M 12) (e13 : M' 13 = M 13) (e14 : M' 14 = M 14) : s_latest key s M' = s_latest key s M := by
  unfold s_latest
  rw [e12]
  exact la5_congr e13 e14
def ph (M : St) (t k : Nat) (d : Int32) : Nat := if s_latest (nI k) d M ≤ M 19 t then 0 else 1
theorem ph_le {t k : Nat} {d : Int32} : ph M t k d ≤ 1 := by
  unfold ph
  split <;> omega
theorem gt_b {t k n : Nat} {d Y : Int32} {Mx : St} (hx : WM N R Mx) (hv : VS N M Mx) (h23 : Mx 23 t = 0) (hr : Mx 19 t = M 19 t) (c : ¬ s_latest (nI k) d Mx ≤ Mx 19 t) (hm : 2 * cP M N + ph M t k d < n + 1) : WM N R (up (up (s_refreshes t (s_latest (nI k) d Mx) Mx).2 19 t (s_latest (nI k) d Mx)) 20 t Y) ∧ up (up (s_refreshes t (s_latest (nI k) d Mx) Mx).2 19 t (s_latest (nI k) d Mx)) 20 t Y 23 t = 0 ∧ 2 * cP (up (up (s_refreshes t (s_latest (nI k) d Mx) Mx).2 19 t (s_latest (nI k) d Mx)) 20 t Y) N + ph (up (up (s_refreshes t (s_latest (nI k) d Mx) Mx).2 19 t (s_latest (nI k) d Mx)) 20 t Y) t k d < n := by
  obtain ⟨z, hz⟩ : ∃ z, z = s_latest (nI k) d Mx := ⟨_, rfl⟩
  rw [← hz] at c ⊢
  have hrf := WM_refr (t := t) (z := z) hx
  have h2 := refr_23 (t := t) (z := z) hx
  have hvr := VS_refr (t := t) (z := z) hx
  obtain ⟨M2, hM2⟩ : ∃ M2, M2 = (s_refreshes t z Mx).2 := ⟨_, rfl⟩
  rw [← hM2] at hrf h2 hvr ⊢
  refine ⟨WM_up (WM_up hrf (by decide)) (by decide), by rw [up_row (by decide), up_row (by decide), h2]; exact h23, ?_⟩
  have e1 : cP (up (up M2 19 t z) 20 t Y) N = cP M2 N := cP_congr (by rw [up_row (by decide), up_row (by decide)])
  have hp := ph_le (M := up (up M2 19 t z) 20 t Y) (t := t) (k := k) (d := d)
  have v1 := hv.1
  have v2 := hvr.1
  by_cases e : cP M2 N = cP M N
  · obtain ⟨a1, a2, a3⟩ := hvr.2 (by omega)
    obtain ⟨b1, b2, b3⟩ := hv.2 (by omega)
    have l1 : s_latest (nI k) d M = z := by rw [hz]; exact (la_congr b1 b2 b3).symm
    have l2 : s_latest (nI k) d (up (up M2 19 t z) 20 t Y) = z := by
      rw [hz]
      refine la_congr ?_ ?_ ?_
      · rw [up_row (by decide), up_row (by decide)]; exact a1
      · rw [up_row (by decide), up_row (by decide)]; exact a2
      · rw [up_row (by decide), up_row (by decide)]; exact a3
    have p1 : ph (up (up M2 19 t z) 20 t Y) t k d = 0 := by
      unfold ph
      rw [l2, up_row (by decide), up_eq, if_pos (Int32.le_refl _)]
    have p2 : ph M t k d = 1 := by
      unfold ph
      rw [l1, ← hr, if_neg c]
    omega
  · omega
theorem gt_a {t k n : Nat} {d u : Int32} {M1 : St} (h : WM N R M1) (hv : VS N M M1) (ht : t < N) (h0 : M1 23 t = 0) (hu : vp_in u N ∧ M1 23 u.toNatClampNeg = 0) (c : ¬ (s_comesAnew t u M1).1 = 0) (hm : 2 * cP M N + ph M t k d < n + 1) : (s_comesAnew t u M1).2 23 t = 0 ∧ 2 * cP (s_comesAnew t u M1).2 N + ph (s_comesAnew t u M1).2 t k d < n := by
  obtain ⟨a1, a2⟩ := (ca_ok h ht h0 hu).2 c
  have hp := ph_le (M := (s_comesAnew t u M1).2) (t := t) (k := k) (d := d)
  have v1 := hv.1
  exact ⟨a2.trans h0, by omega⟩
end W9
theorem mu82 {N t k : Nat} {d : Int32} {M : St} (hN : N ≤ 40) : 2 * cP M N + ph M t k d < 82 := by
  have h1 := cP_le (M := M) (n := N)
  have h2 := ph_le (M := M) (t := t) (k := k) (d := d)
  omega
def s_get_75 (t : Nat) (k : Nat) : Nat → Int32 → Int32 → St → Int32 × St
  | 0, d, w, M => ((s_valueAt (nI k) (M 19 t) M), (s_marks (nI t) k (M 19 t) (up M 28 (32 * t + k) (s_valueAt (nI k) (M 19 t) M))))
  | n + 1, d, w, M => (if w = (0 : Int32) then ((s_valueAt (nI k) (M 19 t) M), (s_marks (nI t) k (M 19 t) (up M 28 (32 * t + k) (s_valueAt (nI k) (M 19 t) M)))) else (if ((s_meets t k M).1) = (-1 : Int32) then (if (s_latest (nI k) d (s_meets t k M).2) ≤ ((s_meets t k M).2 19 t) then (s_get_75 t k n d (0 : Int32) ((s_meets t k M).2)) else (if ((s_refreshes t (s_latest (nI k) d (s_meets t k M).2) (s_meets t k M).2).1) = (0 : Int32) then ((s_restarts t (s_latest (nI k) d (s_meets t k M).2) (s_refreshes t (s_latest (nI k) d (s_meets t k M).2) (s_meets t k M).2).2).1, (s_restarts t (s_latest (nI k) d (s_meets t k M).2) (s_refreshes t (s_latest (nI k) d (s_meets t k M).2) (s_meets t k M).2).2).2) else (s_get_75 t k n d (1 : Int32) (up (up (s_refreshes t (s_latest (nI k) d (s_meets t k M).2) (s_meets t k M).2).2 19 t (s_latest (nI k) d (s_meets t k M).2)) 20 t (s_greater ((s_refreshes t (s_latest (nI k) d (s_meets t k M).2) (s_meets t k M).2).2 20 t) (s_latest (nI k) d (s_meets t k M).2)))))) else (if (s_greater ((s_meets t k M).2 19 t) d) < ((s_meets t k M).2 20 (((s_meets t k M).1).toNatClampNeg)) then (if (s_latest (nI k) d (s_meets t k M).2) ≤ ((s_meets t k M).2 19 t) then (s_get_75 t k n d (0 : Int32) ((s_meets t k M).2)) else (if ((s_refreshes t (s_latest (nI k) d (s_meets t k M).2) (s_meets t k M).2).1) = (0 : Int32) then ((s_restarts t (s_latest (nI k) d (s_meets t k M).2) (s_refreshes t (s_latest (nI k) d (s_meets t k M).2) (s_meets t k M).2).2).1, (s_restarts t (s_latest (nI k) d (s_meets t k M).2) (s_refreshes t (s_latest (nI k) d (s_meets t k M).2) (s_meets t k M).2).2).2) else (s_get_75 t k n d (1 : Int32) (up (up (s_refreshes t (s_latest (nI k) d (s_meets t k M).2) (s_meets t k M).2).2 19 t (s_latest (nI k) d (s_meets t k M).2)) 20 t (s_greater ((s_refreshes t (s_latest (nI k) d (s_meets t k M).2) (s_meets t k M).2).2 20 t) (s_latest (nI k) d (s_meets t k M).2)))))) else (if ((s_meets t k M).2 18 t) ≤ ((s_meets t k M).2 18 (((s_meets t k M).1).toNatClampNeg)) then (if ((s_comesAnew t ((s_meets t k M).1) (s_meets t k M).2).1) = (0 : Int32) then ((s_waitAnswer t (s_comesAnew t ((s_meets t k M).1) (s_meets t k M).2).2), (s_comesAnew t ((s_meets t k M).1) (s_meets t k M).2).2) else (s_get_75 t k n d (1 : Int32) ((s_comesAnew t ((s_meets t k M).1) (s_meets t k M).2).2))) else (if (s_latest (nI k) d (up (s_meets t k M).2 20 ((s_meets t k M).1).toNatClampNeg ((s_greater ((s_meets t k M).2 19 t) d) + (1 : Int32)))) ≤ ((s_meets t k M).2 19 t) then (s_get_75 t k n d (0 : Int32) (up (s_meets t k M).2 20 ((s_meets t k M).1).toNatClampNeg ((s_greater ((s_meets t k M).2 19 t) d) + (1 : Int32)))) else (if ((s_refreshes t (s_latest (nI k) d (up (s_meets t k M).2 20 ((s_meets t k M).1).toNatClampNeg ((s_greater ((s_meets t k M).2 19 t) d) + (1 : Int32)))) (up (s_meets t k M).2 20 ((s_meets t k M).1).toNatClampNeg ((s_greater ((s_meets t k M).2 19 t) d) + (1 : Int32)))).1) = (0 : Int32) then ((s_restarts t (s_latest (nI k) d (up (s_meets t k M).2 20 ((s_meets t k M).1).toNatClampNeg ((s_greater ((s_meets t k M).2 19 t) d) + (1 : Int32)))) (s_refreshes t (s_latest (nI k) d (up (s_meets t k M).2 20 ((s_meets t k M).1).toNatClampNeg ((s_greater ((s_meets t k M).2 19 t) d) + (1 : Int32)))) (up (s_meets t k M).2 20 ((s_meets t k M).1).toNatClampNeg ((s_greater ((s_meets t k M).2 19 t) d) + (1 : Int32)))).2).1, (s_restarts t (s_latest (nI k) d (up (s_meets t k M).2 20 ((s_meets t k M).1).toNatClampNeg ((s_greater ((s_meets t k M).2 19 t) d) + (1 : Int32)))) (s_refreshes t (s_latest (nI k) d (up (s_meets t k M).2 20 ((s_meets t k M).1).toNatClampNeg ((s_greater ((s_meets t k M).2 19 t) d) + (1 : Int32)))) (up (s_meets t k M).2 20 ((s_meets t k M).1).toNatClampNeg ((s_greater ((s_meets t k M).2 19 t) d) + (1 : Int32)))).2).2) else (s_get_75 t k n d (1 : Int32) (up (up (s_refreshes t (s_latest (nI k) d (up (s_meets t k M).2 20 ((s_meets t k M).1).toNatClampNeg ((s_greater ((s_meets t k M).2 19 t) d) + (1 : Int32)))) (up (s_meets t k M).2 20 ((s_meets t k M).1).toNatClampNeg ((s_greater ((s_meets t k M).2 19 t) d) + (1 : Int32)))).2 19 t (s_latest (nI k) d (up (s_meets t k M).2 20 ((s_meets t k M).1).toNatClampNeg ((s_greater ((s_meets t k M).2 19 t) d) + (1 : Int32))))) 20 t (s_greater ((s_refreshes t (s_latest (nI k) d (up (s_meets t k M).2 20 ((s_meets t k M).1).toNatClampNeg ((s_greater ((s_meets t k M).2 19 t) d) + (1 : Int32)))) (up (s_meets t k M).2 20 ((s_meets t k M).1).toNatClampNeg ((s_greater ((s_meets t k M).2 19 t) d) + (1 : Int32)))).2 20 t) (s_latest (nI k) d (up (s_meets t k M).2 20 ((s_meets t k M).1).toNatClampNeg ((s_greater ((s_meets t k M).2 19 t) d) + (1 : Int32)))))))))))))
theorem bm_get_75 {g : GT} {nt : Nat} {C : St} {o : Int64}  {t : Nat} {k : Nat} (ht : t < 40) (hk : k < 32) {N R : Nat} : ∀ (n : Nat) (d : Int32) (w : Int32) (M : St) (hM : WM N R M) (htN : t < N) (h0 : M 23 t = 0) (hmu : ¬ w = 0 → 2 * cP M N + ph M t k d < n) (h : Nat × Nat), V g K_X5_get (kR K_X5_get 0 0) (qM g 0 0 nt (fun v9 C9 M9 o9 => v9 = some (.int (s_get_75 t k n d w M).1) ∧ C9 = C ∧ M9 = (s_get_75 t k n d w M).2 ∧ o9 = o) (fun _ _ _ _ => False)) 0 0 nt h C M o 75 [(0, .ref (ad g 10)), (2, .int (nI k)), (3, .int (nI t)), (5, .int d), (6, .int w)] [] := by
  intro n
  induction n with
  | zero =>
    intro d w M hM htN h0 hmu h
    unfold s_get_75
    refine V_iload (dG D_X5_get_1 2 rfl) rfl ?_
    refine V_if_eq (tgt := 248) (dG D_X5_get_1 3 rfl) (by decide) (fun c_77 => ?_) (fun c_77 => absurd (hmu c_77) (Nat.not_lt_zero _))
    refine V_aload_n (dG D_X5_get_3 1 rfl) rfl ?_
    refine V_iload_n (dG D_X5_get_3 2 rfl) rfl ?_
    refine V_aload_n (dG D_X5_get_3 3 rfl) rfl ?_
    refine gf_X5_60 rfl (dG D_X5_get_3 4 rfl) ?_
    refine V_iload_n (dG D_X5_get_3 5 rfl) rfl ?_
    refine iald_M19 (dG D_X5_get_3 6 rfl) (inr_nI (by omega) (by decide)) ?_
    refine R_vb2 (om_valueAt hM.vb hM.v) lk_X5_182 (dG D_X5_get_3 7 rfl) rcv_5 ⟨Nat.le_of_ble_eq_true rfl, Nat.le_of_ble_eq_true rfl⟩ ⟨(Nat.le_of_ble_eq_true rfl), (Nat.le_of_ble_eq_true rfl)⟩ (by first | exact Nat.le_of_ble_eq_true rfl | simp [cat_rf, cat_int, cat_ref]) (fun h => ?_)
    refine V_istore (dG D_X5_get_3 8 rfl) (Nat.le_of_ble_eq_true rfl) ?_
    refine V_aload_n (dG D_X5_get_3 9 rfl) rfl ?_
    refine gf_X5_84 rfl (dG D_X5_get_3 10 rfl) ?_
    refine V_bipush (v := 32) (dG D_X5_get_3 11 rfl) (by decide) ?_
    refine V_iload_n (dG D_X5_get_3 12 rfl) rfl ?_
    refine V_imul (dG D_X5_get_3 13 rfl) ?_
    refine V_iload_n (dG D_X5_get_3 14 rfl) rfl ?_
    refine V_iadd (dG D_X5_get_3 15 rfl) ?_
    refine V_iload (dG D_X5_get_3 16 rfl) rfl ?_
    refine iast_M28 (dG D_X5_get_3 17 rfl) (show inr (((32 : Int32) * (nI t)) + (nI k)) 1280 (32 * t + k) from by rw [(ix32 _ _)]; exact inr_nI (by omega) (by decide)) ?_
    refine V_aload_n (dG D_X5_get_3 18 rfl) rfl ?_
    refine V_iload_n (dG D_X5_get_3 19 rfl) rfl ?_
    refine V_iload_n (dG D_X5_get_3 20 rfl) rfl ?_
    refine V_aload_n (dG D_X5_get_3 21 rfl) rfl ?_
    refine gf_X5_60 rfl (dG D_X5_get_3 22 rfl) ?_
    refine V_iload_n (dG D_X5_get_3 23 rfl) rfl ?_
    refine iald_M19 (dG D_X5_get_3 24 rfl) (inr_nI (by omega) (by decide)) ?_
    rw [up_row (v := 28) (w := 19) (by decide)]
    refine R_nb3 (om_marks (by omega) ) lk_X5_156 (dG D_X5_get_3 25 rfl) rcv_5 ⟨Nat.le_of_ble_eq_true rfl, Nat.le_of_ble_eq_true rfl⟩ ⟨(Nat.le_of_ble_eq_true rfl), (Nat.le_of_ble_eq_true rfl)⟩ (by first | exact Nat.le_of_ble_eq_true rfl | simp [cat_rf, cat_int, cat_ref]) (fun h => ?_)
    refine V_iload (dG D_X5_get_3 26 rfl) rfl ?_
    exact V_iret (dG D_X5_get_3 27 rfl) rfl (Nat.le_of_ble_eq_true rfl) (Nat.le_of_ble_eq_true rfl) ⟨by first | with_reducible rfl | rfl, rfl, by first | with_reducible rfl | rfl, rfl⟩
  | succ n ih =>
    intro d w M hM htN h0 hmu h
    unfold s_get_75
    refine V_iload (dG D_X5_get_1 2 rfl) rfl ?_
    refine V_if_eq (tgt := 248) (dG D_X5_get_1 3 rfl) (by decide) (fun c_77 => ?_) (fun c_77 => ?_)
    · try rw [if_pos c_77]
      refine V_aload_n (dG D_X5_get_3 1 rfl) rfl ?_
      refine V_iload_n (dG D_X5_get_3 2 rfl) rfl ?_
      refine V_aload_n (dG D_X5_get_3 3 rfl) rfl ?_
      refine gf_X5_60 rfl (dG D_X5_get_3 4 rfl) ?_
      refine V_iload_n (dG D_X5_get_3 5 rfl) rfl ?_
      refine iald_M19 (dG D_X5_get_3 6 rfl) (inr_nI (by omega) (by decide)) ?_
      refine R_vb2 (om_valueAt hM.vb hM.v) lk_X5_182 (dG D_X5_get_3 7 rfl) rcv_5 ⟨Nat.le_of_ble_eq_true rfl, Nat.le_of_ble_eq_true rfl⟩ ⟨(Nat.le_of_ble_eq_true rfl), (Nat.le_of_ble_eq_true rfl)⟩ (by first | exact Nat.le_of_ble_eq_true rfl | simp [cat_rf, cat_int, cat_ref]) (fun h => ?_)
      refine V_istore (dG D_X5_get_3 8 rfl) (Nat.le_of_ble_eq_true rfl) ?_
      refine V_aload_n (dG D_X5_get_3 9 rfl) rfl ?_
      refine gf_X5_84 rfl (dG D_X5_get_3 10 rfl) ?_
      refine V_bipush (v := 32) (dG D_X5_get_3 11 rfl) (by decide) ?_
      refine V_iload_n (dG D_X5_get_3 12 rfl) rfl ?_
      refine V_imul (dG D_X5_get_3 13 rfl) ?_
      refine V_iload_n (dG D_X5_get_3 14 rfl) rfl ?_
      refine V_iadd (dG D_X5_get_3 15 rfl) ?_
      refine V_iload (dG D_X5_get_3 16 rfl) rfl ?_
      refine iast_M28 (dG D_X5_get_3 17 rfl) (show inr (((32 : Int32) * (nI t)) + (nI k)) 1280 (32 * t + k) from by rw [(ix32 _ _)]; exact inr_nI (by omega) (by decide)) ?_
      refine V_aload_n (dG D_X5_get_3 18 rfl) rfl ?_
      refine V_iload_n (dG D_X5_get_3 19 rfl) rfl ?_
      refine V_iload_n (dG D_X5_get_3 20 rfl) rfl ?_
      refine V_aload_n (dG D_X5_get_3 21 rfl) rfl ?_
      refine gf_X5_60 rfl (dG D_X5_get_3 22 rfl) ?_
      refine V_iload_n (dG D_X5_get_3 23 rfl) rfl ?_
      refine iald_M19 (dG D_X5_get_3 24 rfl) (inr_nI (by omega) (by decide)) ?_
      rw [up_row (v := 28) (w := 19) (by decide)]
      refine R_nb3 (om_marks (by omega) ) lk_X5_156 (dG D_X5_get_3 25 rfl) rcv_5 ⟨Nat.le_of_ble_eq_true rfl, Nat.le_of_ble_eq_true rfl⟩ ⟨(Nat.le_of_ble_eq_true rfl), (Nat.le_of_ble_eq_true rfl)⟩ (by first | exact Nat.le_of_ble_eq_true rfl | simp [cat_rf, cat_int, cat_ref]) (fun h => ?_)
      refine V_iload (dG D_X5_get_3 26 rfl) rfl ?_
      exact V_iret (dG D_X5_get_3 27 rfl) rfl (Nat.le_of_ble_eq_true rfl) (Nat.le_of_ble_eq_true rfl) ⟨by first | with_reducible rfl | rfl, rfl, by first | with_reducible rfl | rfl, rfl⟩
    · try rw [if_neg c_77]
      refine V_iconst (v := 0) (dG D_X5_get_1 4 rfl) (by decide) ?_
      refine V_istore (dG D_X5_get_1 5 rfl) (Nat.le_of_ble_eq_true rfl) ?_
      refine V_aload_n (dG D_X5_get_1 6 rfl) rfl ?_
      refine V_iload_n (dG D_X5_get_1 7 rfl) rfl ?_
      refine V_iload_n (dG D_X5_get_1 8 rfl) rfl ?_
      refine R_vb2 (om_meets (by omega) (by omega) (hM.o40 hk) (hM.vm hk)) lk_X5_153 (dG D_X5_get_1 9 rfl) rcv_5 ⟨Nat.le_of_ble_eq_true rfl, Nat.le_of_ble_eq_true rfl⟩ ⟨(Nat.le_of_ble_eq_true rfl), (Nat.le_of_ble_eq_true rfl)⟩ (by first | exact Nat.le_of_ble_eq_true rfl | simp [cat_rf, cat_int, cat_ref]) (fun h => ?_)
      refine V_istore (dG D_X5_get_1 10 rfl) (Nat.le_of_ble_eq_true rfl) ?_
      refine V_aload_n (dG D_X5_get_1 11 rfl) rfl ?_
      refine gf_X5_60 rfl (dG D_X5_get_1 12 rfl) ?_
      refine V_iload_n (dG D_X5_get_1 13 rfl) rfl ?_
      refine iald_M19 (dG D_X5_get_1 14 rfl) (inr_nI (by omega) (by decide)) ?_
      refine V_iload (dG D_X5_get_1 15 rfl) rfl ?_
      refine R_vs2 om_greater lk_X5_103 (dG D_X5_get_1 16 rfl) ⟨Nat.le_of_ble_eq_true rfl, Nat.le_of_ble_eq_true rfl⟩ ⟨(Nat.le_of_ble_eq_true rfl), (Nat.le_of_ble_eq_true rfl)⟩ (by first | exact Nat.le_of_ble_eq_true rfl | simp [cat_rf, cat_int, cat_ref]) (fun h => ?_)
      refine V_istore (dG D_X5_get_1 17 rfl) (Nat.le_of_ble_eq_true rfl) ?_
      refine V_iload (dG D_X5_get_1 18 rfl) rfl ?_
      refine V_iconst (v := -1) (dG D_X5_get_1 19 rfl) (by decide) ?_
      refine V_icmp_eq (tgt := 174) (dG D_X5_get_1 20 rfl) (by decide) (fun c_107 => ?_) (fun c_107 => ?_)
      · try rw [if_pos c_107]
        have hw1 := WM_meets (t := t) hM hk
        have h1 : (s_meets t k M).2 23 t = 0 := (meets_23 hM hk).trans h0
        have hvs := VS_meets (t := t) hM hk
        have hwc := hw1
        have h23c := h1
        have hvsc := hvs
        have hrc : (s_meets t k M).2 19 t = M 19 t := congrFun meets_19 t
        refine V_aload_n (dG D_X5_get_2 8 rfl) rfl ?_
        refine V_iload_n (dG D_X5_get_2 9 rfl) rfl ?_
        refine V_iload (dG D_X5_get_2 10 rfl) rfl ?_
        refine R_vb2 (om_latest hwc.vb hwc.v) lk_X5_150 (dG D_X5_get_2 11 rfl) rcv_5 ⟨Nat.le_of_ble_eq_true rfl, Nat.le_of_ble_eq_true rfl⟩ ⟨(Nat.le_of_ble_eq_true rfl), (Nat.le_of_ble_eq_true rfl)⟩ (by first | exact Nat.le_of_ble_eq_true rfl | simp [cat_rf, cat_int, cat_ref]) (fun h => ?_)
        refine V_istore (dG D_X5_get_2 12 rfl) (Nat.le_of_ble_eq_true rfl) ?_
        refine V_iload (dG D_X5_get_2 13 rfl) rfl ?_
        refine V_if_ne (tgt := 245) (dG D_X5_get_2 14 rfl) (by decide) (fun c_185 => absurd c_185 (by decide)) (fun c_185 => ?_)
        refine V_iload (dG D_X5_get_2 15 rfl) rfl ?_
        refine V_aload_n (dG D_X5_get_2 16 rfl) rfl ?_
        refine gf_X5_60 rfl (dG D_X5_get_2 17 rfl) ?_
        refine V_iload_n (dG D_X5_get_2 18 rfl) rfl ?_
        refine iald_M19 (dG D_X5_get_2 19 rfl) (inr_nI (by omega) (by decide)) ?_
        refine V_icmp_le (tgt := 245) (dG D_X5_get_2 20 rfl) (by decide) (fun c_196 => ?_) (fun c_196 => ?_)
        · try rw [if_pos c_196]
          refine V_goto (tgt := 75) (dG D_X5_get_3 0 rfl) (by decide) ?_
          refine V_sub [0, 2, 3, 5, 6] rfl ?_
          exact ih d (0 : Int32) ((s_meets t k M).2) (by first | exact (hB _).1 | exact hwc) htN (by first | exact (hB _).2.1 | exact h23c) (by first | exact fun _ => (hB _).2.2 | exact fun _ => hA.2 | exact fun q => absurd rfl q) h
        · try rw [if_neg c_196]
          refine V_aload_n (dG D_X5_get_2 21 rfl) rfl ?_
          refine V_iload_n (dG D_X5_get_2 22 rfl) rfl ?_
          refine V_iload (dG D_X5_get_2 23 rfl) rfl ?_
          refine R_vb2 (om_refreshes (by omega) hwc) lk_X5_176 (dG D_X5_get_2 24 rfl) rcv_5 ⟨Nat.le_of_ble_eq_true rfl, Nat.le_of_ble_eq_true rfl⟩ ⟨(Nat.le_of_ble_eq_true rfl), (Nat.le_of_ble_eq_true rfl)⟩ (by first | exact Nat.le_of_ble_eq_true rfl | simp [cat_rf, cat_int, cat_ref]) (fun h => ?_)
          refine V_if_ne (tgt := 217) (dG D_X5_get_2 25 rfl) (by decide) (fun c_206 => ?_) (fun c_206 => ?_)
          · try rw [if_neg c_206]
            have hB := fun Y => gt_b (Y := Y) hwc hvsc h23c hrc c_196 (hmu c_77)
            refine V_aload_n (dG D_X5_get_2 31 rfl) rfl ?_
            refine gf_X5_60 rfl (dG D_X5_get_2 32 rfl) ?_
            refine V_iload_n (dG D_X5_get_2 33 rfl) rfl ?_
            refine V_iload (dG D_X5_get_2 34 rfl) rfl ?_
            refine iast_M19 (dG D_X5_get_2 35 rfl) (inr_nI (by omega) (by decide)) ?_
            refine V_aload_n (dG D_X5_get_2 36 rfl) rfl ?_
            refine gf_X5_63 rfl (dG D_X5_get_2 37 rfl) ?_
            refine V_iload_n (dG D_X5_get_2 38 rfl) rfl ?_
            refine V_aload_n (dG D_X5_get_2 39 rfl) rfl ?_
            refine gf_X5_63 rfl (dG D_X5_get_2 40 rfl) ?_
            refine V_iload_n (dG D_X5_get_2 41 rfl) rfl ?_
            refine iald_M20 (dG D_X5_get_2 42 rfl) (inr_nI (by omega) (by decide)) ?_
            rw [up_row (v := 19) (w := 20) (by decide)]
            refine V_iload (dG D_X5_get_2 43 rfl) rfl ?_
            refine R_vs2 om_greater lk_X5_103 (dG D_X5_get_2 44 rfl) ⟨Nat.le_of_ble_eq_true rfl, Nat.le_of_ble_eq_true rfl⟩ ⟨(Nat.le_of_ble_eq_true rfl), (Nat.le_of_ble_eq_true rfl)⟩ (by first | exact Nat.le_of_ble_eq_true rfl | simp [cat_rf, cat_int, cat_ref]) (fun h => ?_)
            refine iast_M20 (dG D_X5_get_2 45 rfl) (inr_nI (by omega) (by decide)) ?_
            refine V_iconst (v := 1) (dG D_X5_get_2 46 rfl) (by decide) ?_
            refine V_istore (dG D_X5_get_2 47 rfl) (Nat.le_of_ble_eq_true rfl) ?_
            refine V_goto (tgt := 75) (dG D_X5_get_3 0 rfl) (by decide) ?_
            refine V_sub [0, 2, 3, 5, 6] rfl ?_
            exact ih d (1 : Int32) (up (up (s_refreshes t (s_latest (nI k) d (s_meets t k M).2) (s_meets t k M).2).2 19 t (s_latest (nI k) d (s_meets t k M).2)) 20 t (s_greater ((s_refreshes t (s_latest (nI k) d (s_meets t k M).2) (s_meets t k M).2).2 20 t) (s_latest (nI k) d (s_meets t k M).2))) (by first | exact (hB _).1 | exact hwc) htN (by first | exact (hB _).2.1 | exact h23c) (by first | exact fun _ => (hB _).2.2 | exact fun _ => hA.2 | exact fun q => absurd rfl q) h
          · try rw [if_pos c_206]
            refine V_aload_n (dG D_X5_get_2 26 rfl) rfl ?_
            refine V_iload_n (dG D_X5_get_2 27 rfl) rfl ?_
            refine V_iload (dG D_X5_get_2 28 rfl) rfl ?_
            refine R_vb2 (om_restarts (by omega) ) lk_X5_179 (dG D_X5_get_2 29 rfl) rcv_5 ⟨Nat.le_of_ble_eq_true rfl, Nat.le_of_ble_eq_true rfl⟩ ⟨(Nat.le_of_ble_eq_true rfl), (Nat.le_of_ble_eq_true rfl)⟩ (by first | exact Nat.le_of_ble_eq_true rfl | simp [cat_rf, cat_int, cat_ref]) (fun h => ?_)
            exact V_iret (dG D_X5_get_2 30 rfl) rfl (Nat.le_of_ble_eq_true rfl) (Nat.le_of_ble_eq_true rfl) ⟨by first | with_reducible rfl | rfl, rfl, by first | with_reducible rfl | rfl, rfl⟩
      · try rw [if_neg c_107]
        have hw1 := WM_meets (t := t) hM hk
        have h1 : (s_meets t k M).2 23 t = 0 := (meets_23 hM hk).trans h0
        have hvs := VS_meets (t := t) hM hk
        have hzz := meets_vp hM hk c_107
        have hz40 := vp_le hzz.1 hM.n
        refine V_aload_n (dG D_X5_get_1 21 rfl) rfl ?_
        refine gf_X5_63 rfl (dG D_X5_get_1 22 rfl) ?_
        refine V_iload (dG D_X5_get_1 23 rfl) rfl ?_
        refine iald_M20 (dG D_X5_get_1 24 rfl) (inr_of hz40) ?_
        refine V_iload (dG D_X5_get_1 25 rfl) rfl ?_
        refine V_icmp_gt (tgt := 174) (dG D_X5_get_1 26 rfl) (by decide) (fun c_119 => ?_) (fun c_119 => ?_)
        · try rw [if_pos c_119]
          have hwc := hw1
          have h23c := h1
          have hvsc := hvs
          have hrc : (s_meets t k M).2 19 t = M 19 t := congrFun meets_19 t
          refine V_aload_n (dG D_X5_get_2 8 rfl) rfl ?_
          refine V_iload_n (dG D_X5_get_2 9 rfl) rfl ?_
          refine V_iload (dG D_X5_get_2 10 rfl) rfl ?_
          refine R_vb2 (om_latest hwc.vb hwc.v) lk_X5_150 (dG D_X5_get_2 11 rfl) rcv_5 ⟨Nat.le_of_ble_eq_true rfl, Nat.le_of_ble_eq_true rfl⟩ ⟨(Nat.le_of_ble_eq_true rfl), (Nat.le_of_ble_eq_true rfl)⟩ (by first | exact Nat.le_of_ble_eq_true rfl | simp [cat_rf, cat_int, cat_ref]) (fun h => ?_)
          refine V_istore (dG D_X5_get_2 12 rfl) (Nat.le_of_ble_eq_true rfl) ?_
          refine V_iload (dG D_X5_get_2 13 rfl) rfl ?_
          refine V_if_ne (tgt := 245) (dG D_X5_get_2 14 rfl) (by decide) (fun c_185 => absurd c_185 (by decide)) (fun c_185 => ?_)
          refine V_iload (dG D_X5_get_2 15 rfl) rfl ?_
          refine V_aload_n (dG D_X5_get_2 16 rfl) rfl ?_
          refine gf_X5_60 rfl (dG D_X5_get_2 17 rfl) ?_
          refine V_iload_n (dG D_X5_get_2 18 rfl) rfl ?_
          refine iald_M19 (dG D_X5_get_2 19 rfl) (inr_nI (by omega) (by decide)) ?_
          refine V_icmp_le (tgt := 245) (dG D_X5_get_2 20 rfl) (by decide) (fun c_196 => ?_) (fun c_196 => ?_)
          · try rw [if_pos c_196]
            refine V_goto (tgt := 75) (dG D_X5_get_3 0 rfl) (by decide) ?_
            refine V_sub [0, 2, 3, 5, 6] rfl ?_
            exact ih d (0 : Int32) ((s_meets t k M).2) (by first | exact (hB _).1 | exact hwc) htN (by first | exact (hB _).2.1 | exact h23c) (by first | exact fun _ => (hB _).2.2 | exact fun _ => hA.2 | exact fun q => absurd rfl q) h
          · try rw [if_neg c_196]
            refine V_aload_n (dG D_X5_get_2 21 rfl) rfl ?_
            refine V_iload_n (dG D_X5_get_2 22 rfl) rfl ?_
            refine V_iload (dG D_X5_get_2 23 rfl) rfl ?_
            refine R_vb2 (om_refreshes (by omega) hwc) lk_X5_176 (dG D_X5_get_2 24 rfl) rcv_5 ⟨Nat.le_of_ble_eq_true rfl, Nat.le_of_ble_eq_true rfl⟩ ⟨(Nat.le_of_ble_eq_true rfl), (Nat.le_of_ble_eq_true rfl)⟩ (by first | exact Nat.le_of_ble_eq_true rfl | simp [cat_rf, cat_int, cat_ref]) (fun h => ?_)
            refine V_if_ne (tgt := 217) (dG D_X5_get_2 25 rfl) (by decide) (fun c_206 => ?_) (fun c_206 => ?_)
            · try rw [if_neg c_206]
              have hB := fun Y => gt_b (Y := Y) hwc hvsc h23c hrc c_196 (hmu c_77)
              refine V_aload_n (dG D_X5_get_2 31 rfl) rfl ?_
              refine gf_X5_60 rfl (dG D_X5_get_2 32 rfl) ?_
              refine V_iload_n (dG D_X5_get_2 33 rfl) rfl ?_
              refine V_iload (dG D_X5_get_2 34 rfl) rfl ?_
              refine iast_M19 (dG D_X5_get_2 35 rfl) (inr_nI (by omega) (by decide)) ?_
              refine V_aload_n (dG D_X5_get_2 36 rfl) rfl ?_
              refine gf_X5_63 rfl (dG D_X5_get_2 37 rfl) ?_
              refine V_iload_n (dG D_X5_get_2 38 rfl) rfl ?_
              refine V_aload_n (dG D_X5_get_2 39 rfl) rfl ?_
              refine gf_X5_63 rfl (dG D_X5_get_2 40 rfl) ?_
              refine V_iload_n (dG D_X5_get_2 41 rfl) rfl ?_
              refine iald_M20 (dG D_X5_get_2 42 rfl) (inr_nI (by omega) (by decide)) ?_
              rw [up_row (v := 19) (w := 20) (by decide)]
              refine V_iload (dG D_X5_get_2 43 rfl) rfl ?_
              refine R_vs2 om_greater lk_X5_103 (dG D_X5_get_2 44 rfl) ⟨Nat.le_of_ble_eq_true rfl, Nat.le_of_ble_eq_true rfl⟩ ⟨(Nat.le_of_ble_eq_true rfl), (Nat.le_of_ble_eq_true rfl)⟩ (by first | exact Nat.le_of_ble_eq_true rfl | simp [cat_rf, cat_int, cat_ref]) (fun h => ?_)
              refine iast_M20 (dG D_X5_get_2 45 rfl) (inr_nI (by omega) (by decide)) ?_
              refine V_iconst (v := 1) (dG D_X5_get_2 46 rfl) (by decide) ?_
              refine V_istore (dG D_X5_get_2 47 rfl) (Nat.le_of_ble_eq_true rfl) ?_
              refine V_goto (tgt := 75) (dG D_X5_get_3 0 rfl) (by decide) ?_
              refine V_sub [0, 2, 3, 5, 6] rfl ?_
              exact ih d (1 : Int32) (up (up (s_refreshes t (s_latest (nI k) d (s_meets t k M).2) (s_meets t k M).2).2 19 t (s_latest (nI k) d (s_meets t k M).2)) 20 t (s_greater ((s_refreshes t (s_latest (nI k) d (s_meets t k M).2) (s_meets t k M).2).2 20 t) (s_latest (nI k) d (s_meets t k M).2))) (by first | exact (hB _).1 | exact hwc) htN (by first | exact (hB _).2.1 | exact h23c) (by first | exact fun _ => (hB _).2.2 | exact fun _ => hA.2 | exact fun q => absurd rfl q) h
            · try rw [if_pos c_206]
              refine V_aload_n (dG D_X5_get_2 26 rfl) rfl ?_
              refine V_iload_n (dG D_X5_get_2 27 rfl) rfl ?_
              refine V_iload (dG D_X5_get_2 28 rfl) rfl ?_
              refine R_vb2 (om_restarts (by omega) ) lk_X5_179 (dG D_X5_get_2 29 rfl) rcv_5 ⟨Nat.le_of_ble_eq_true rfl, Nat.le_of_ble_eq_true rfl⟩ ⟨(Nat.le_of_ble_eq_true rfl), (Nat.le_of_ble_eq_true rfl)⟩ (by first | exact Nat.le_of_ble_eq_true rfl | simp [cat_rf, cat_int, cat_ref]) (fun h => ?_)
              exact V_iret (dG D_X5_get_2 30 rfl) rfl (Nat.le_of_ble_eq_true rfl) (Nat.le_of_ble_eq_true rfl) ⟨by first | with_reducible rfl | rfl, rfl, by first | with_reducible rfl | rfl, rfl⟩
        · try rw [if_neg c_119]
          refine V_aload_n (dG D_X5_get_1 27 rfl) rfl ?_
          refine gf_X5_57 rfl (dG D_X5_get_1 28 rfl) ?_
          refine V_iload_n (dG D_X5_get_1 29 rfl) rfl ?_
          refine iald_M18 (dG D_X5_get_1 30 rfl) (inr_nI (by omega) (by decide)) ?_
          refine V_aload_n (dG D_X5_get_1 31 rfl) rfl ?_
          refine gf_X5_57 rfl (dG D_X5_get_1 32 rfl) ?_
          refine V_iload (dG D_X5_get_1 33 rfl) rfl ?_
          refine iald_M18 (dG D_X5_get_1 34 rfl) (inr_of hz40) ?_
          refine V_icmp_le (tgt := 152) (dG D_X5_get_1 35 rfl) (by decide) (fun c_135 => ?_) (fun c_135 => ?_)
          · try rw [if_pos c_135]
            refine V_aload_n (dG D_X5_get_1 44 rfl) rfl ?_
            refine V_iload_n (dG D_X5_get_1 45 rfl) rfl ?_
            refine V_iload (dG D_X5_get_1 46 rfl) rfl ?_
            refine R_vb2 (om_comesAnew (by omega) hz40 hw1.aw) lk_X5_170 (dG D_X5_get_1 47 rfl) rcv_5 ⟨Nat.le_of_ble_eq_true rfl, Nat.le_of_ble_eq_true rfl⟩ ⟨(Nat.le_of_ble_eq_true rfl), (Nat.le_of_ble_eq_true rfl)⟩ (by first | exact Nat.le_of_ble_eq_true rfl | simp [cat_rf, cat_int, cat_ref]) (fun h => ?_)
            refine V_if_eq (tgt := 168) (dG D_X5_get_2 0 rfl) (by decide) (fun c_159 => ?_) (fun c_159 => ?_)
            · try rw [if_pos c_159]
              refine V_aload_n (dG D_X5_get_2 4 rfl) rfl ?_
              refine V_iload_n (dG D_X5_get_2 5 rfl) rfl ?_
              refine R_vb1 (om_waitAnswer (by omega) ) lk_X5_173 (dG D_X5_get_2 6 rfl) rcv_5 ⟨Nat.le_of_ble_eq_true rfl, Nat.le_of_ble_eq_true rfl⟩ ⟨(Nat.le_of_ble_eq_true rfl), (Nat.le_of_ble_eq_true rfl)⟩ (by first | exact Nat.le_of_ble_eq_true rfl | simp [cat_rf, cat_int, cat_ref]) (fun h => ?_)
              exact V_iret (dG D_X5_get_2 7 rfl) rfl (Nat.le_of_ble_eq_true rfl) (Nat.le_of_ble_eq_true rfl) ⟨by first | with_reducible rfl | rfl, rfl, by first | with_reducible rfl | rfl, rfl⟩
            · try rw [if_neg c_159]
              have hwc := (ca_ok hw1 htN h1 hzz).1
              have hA := gt_a (d := d) hw1 hvs htN h1 hzz c_159 (hmu c_77)
              have h23c := hA.1
              refine V_iconst (v := 1) (dG D_X5_get_2 1 rfl) (by decide) ?_
              refine V_istore (dG D_X5_get_2 2 rfl) (Nat.le_of_ble_eq_true rfl) ?_
              refine V_goto (tgt := 174) (dG D_X5_get_2 3 rfl) (by decide) ?_
              refine V_aload_n (dG D_X5_get_2 8 rfl) rfl ?_
              refine V_iload_n (dG D_X5_get_2 9 rfl) rfl ?_
              refine V_iload (dG D_X5_get_2 10 rfl) rfl ?_
              refine R_vb2 (om_latest hwc.vb hwc.v) lk_X5_150 (dG D_X5_get_2 11 rfl) rcv_5 ⟨Nat.le_of_ble_eq_true rfl, Nat.le_of_ble_eq_true rfl⟩ ⟨(Nat.le_of_ble_eq_true rfl), (Nat.le_of_ble_eq_true rfl)⟩ (by first | exact Nat.le_of_ble_eq_true rfl | simp [cat_rf, cat_int, cat_ref]) (fun h => ?_)
              refine V_istore (dG D_X5_get_2 12 rfl) (Nat.le_of_ble_eq_true rfl) ?_
              refine V_iload (dG D_X5_get_2 13 rfl) rfl ?_
              refine V_if_ne (tgt := 245) (dG D_X5_get_2 14 rfl) (by decide) (fun c_185 => ?_) (fun c_185 => absurd c_185 (by decide))
              refine V_goto (tgt := 75) (dG D_X5_get_3 0 rfl) (by decide) ?_
              refine V_sub [0, 2, 3, 5, 6] rfl ?_
              exact ih d (1 : Int32) ((s_comesAnew t ((s_meets t k M).1) (s_meets t k M).2).2) (by first | exact (hB _).1 | exact hwc) htN (by first | exact (hB _).2.1 | exact h23c) (by first | exact fun _ => (hB _).2.2 | exact fun _ => hA.2 | exact fun q => absurd rfl q) h
          · try rw [if_neg c_135]
            have hwc : WM N R (up (s_meets t k M).2 20 (s_meets t k M).1.toNatClampNeg (s_greater ((s_meets t k M).2 19 t) d + 1)) := WM_up hw1 (by decide)
            have h23c : (up (s_meets t k M).2 20 (s_meets t k M).1.toNatClampNeg (s_greater ((s_meets t k M).2 19 t) d + 1)) 23 t = 0 := by rw [up_row (by decide)]; exact h1
            have hvsc : VS N M (up (s_meets t k M).2 20 (s_meets t k M).1.toNatClampNeg (s_greater ((s_meets t k M).2 19 t) d + 1)) := VS.trans hvs (VS_up (by decide))
            have hrc : (up (s_meets t k M).2 20 (s_meets t k M).1.toNatClampNeg (s_greater ((s_meets t k M).2 19 t) d + 1)) 19 t = M 19 t := by rw [up_row (by decide)]; exact congrFun meets_19 t
            refine V_aload_n (dG D_X5_get_1 36 rfl) rfl ?_
            refine gf_X5_63 rfl (dG D_X5_get_1 37 rfl) ?_
            refine V_iload (dG D_X5_get_1 38 rfl) rfl ?_
            refine V_iload (dG D_X5_get_1 39 rfl) rfl ?_
            refine V_iconst (v := 1) (dG D_X5_get_1 40 rfl) (by decide) ?_
            refine V_iadd (dG D_X5_get_1 41 rfl) ?_
            refine iast_M20 (dG D_X5_get_1 42 rfl) (inr_of hz40) ?_
            refine V_goto (tgt := 174) (dG D_X5_get_1 43 rfl) (by decide) ?_
            refine V_aload_n (dG D_X5_get_2 8 rfl) rfl ?_
            refine V_iload_n (dG D_X5_get_2 9 rfl) rfl ?_
            refine V_iload (dG D_X5_get_2 10 rfl) rfl ?_
            refine R_vb2 (om_latest hwc.vb hwc.v) lk_X5_150 (dG D_X5_get_2 11 rfl) rcv_5 ⟨Nat.le_of_ble_eq_true rfl, Nat.le_of_ble_eq_true rfl⟩ ⟨(Nat.le_of_ble_eq_true rfl), (Nat.le_of_ble_eq_true rfl)⟩ (by first | exact Nat.le_of_ble_eq_true rfl | simp [cat_rf, cat_int, cat_ref]) (fun h => ?_)
            refine V_istore (dG D_X5_get_2 12 rfl) (Nat.le_of_ble_eq_true rfl) ?_
            refine V_iload (dG D_X5_get_2 13 rfl) rfl ?_
            refine V_if_ne (tgt := 245) (dG D_X5_get_2 14 rfl) (by decide) (fun c_185 => absurd c_185 (by decide)) (fun c_185 => ?_)
            refine V_iload (dG D_X5_get_2 15 rfl) rfl ?_
            refine V_aload_n (dG D_X5_get_2 16 rfl) rfl ?_
            refine gf_X5_60 rfl (dG D_X5_get_2 17 rfl) ?_
            refine V_iload_n (dG D_X5_get_2 18 rfl) rfl ?_
            refine iald_M19 (dG D_X5_get_2 19 rfl) (inr_nI (by omega) (by decide)) ?_
            rw [up_row (v := 20) (w := 19) (by decide)]
            refine V_icmp_le (tgt := 245) (dG D_X5_get_2 20 rfl) (by decide) (fun c_196 => ?_) (fun c_196 => ?_)
            · try rw [if_pos c_196]
              refine V_goto (tgt := 75) (dG D_X5_get_3 0 rfl) (by decide) ?_
              refine V_sub [0, 2, 3, 5, 6] rfl ?_
              exact ih d (0 : Int32) (up (s_meets t k M).2 20 ((s_meets t k M).1).toNatClampNeg ((s_greater ((s_meets t k M).2 19 t) d) + (1 : Int32))) (by first | exact (hB _).1 | exact hwc) htN (by first | exact (hB _).2.1 | exact h23c) (by first | exact fun _ => (hB _).2.2 | exact fun _ => hA.2 | exact fun q => absurd rfl q) h
            · try rw [if_neg c_196]
              refine V_aload_n (dG D_X5_get_2 21 rfl) rfl ?_
              refine V_iload_n (dG D_X5_get_2 22 rfl) rfl ?_
              refine V_iload (dG D_X5_get_2 23 rfl) rfl ?_
              refine R_vb2 (om_refreshes (by omega) hwc) lk_X5_176 (dG D_X5_get_2 24 rfl) rcv_5 ⟨Nat.le_of_ble_eq_true rfl, Nat.le_of_ble_eq_true rfl⟩ ⟨(Nat.le_of_ble_eq_true rfl), (Nat.le_of_ble_eq_true rfl)⟩ (by first | exact Nat.le_of_ble_eq_true rfl | simp [cat_rf, cat_int, cat_ref]) (fun h => ?_)
              refine V_if_ne (tgt := 217) (dG D_X5_get_2 25 rfl) (by decide) (fun c_206 => ?_) (fun c_206 => ?_)
              · try rw [if_neg c_206]
                have hB := fun Y => gt_b (Y := Y) hwc hvsc h23c hrc c_196 (hmu c_77)
                refine V_aload_n (dG D_X5_get_2 31 rfl) rfl ?_
                refine gf_X5_60 rfl (dG D_X5_get_2 32 rfl) ?_
                refine V_iload_n (dG D_X5_get_2 33 rfl) rfl ?_
                refine V_iload (dG D_X5_get_2 34 rfl) rfl ?_
                refine iast_M19 (dG D_X5_get_2 35 rfl) (inr_nI (by omega) (by decide)) ?_
                refine V_aload_n (dG D_X5_get_2 36 rfl) rfl ?_
                refine gf_X5_63 rfl (dG D_X5_get_2 37 rfl) ?_
                refine V_iload_n (dG D_X5_get_2 38 rfl) rfl ?_
                refine V_aload_n (dG D_X5_get_2 39 rfl) rfl ?_
                refine gf_X5_63 rfl (dG D_X5_get_2 40 rfl) ?_
                refine V_iload_n (dG D_X5_get_2 41 rfl) rfl ?_
                refine iald_M20 (dG D_X5_get_2 42 rfl) (inr_nI (by omega) (by decide)) ?_
                rw [up_row (v := 19) (w := 20) (by decide)]
                refine V_iload (dG D_X5_get_2 43 rfl) rfl ?_
                refine R_vs2 om_greater lk_X5_103 (dG D_X5_get_2 44 rfl) ⟨Nat.le_of_ble_eq_true rfl, Nat.le_of_ble_eq_true rfl⟩ ⟨(Nat.le_of_ble_eq_true rfl), (Nat.le_of_ble_eq_true rfl)⟩ (by first | exact Nat.le_of_ble_eq_true rfl | simp [cat_rf, cat_int, cat_ref]) (fun h => ?_)
                refine iast_M20 (dG D_X5_get_2 45 rfl) (inr_nI (by omega) (by decide)) ?_
                refine V_iconst (v := 1) (dG D_X5_get_2 46 rfl) (by decide) ?_
                refine V_istore (dG D_X5_get_2 47 rfl) (Nat.le_of_ble_eq_true rfl) ?_
                refine V_goto (tgt := 75) (dG D_X5_get_3 0 rfl) (by decide) ?_
                refine V_sub [0, 2, 3, 5, 6] rfl ?_
                exact ih d (1 : Int32) (up (up (s_refreshes t (s_latest (nI k) d (up (s_meets t k M).2 20 ((s_meets t k M).1).toNatClampNeg ((s_greater ((s_meets t k M).2 19 t) d) + (1 : Int32)))) (up (s_meets t k M).2 20 ((s_meets t k M).1).toNatClampNeg ((s_greater ((s_meets t k M).2 19 t) d) + (1 : Int32)))).2 19 t (s_latest (nI k) d (up (s_meets t k M).2 20 ((s_meets t k M).1).toNatClampNeg ((s_greater ((s_meets t k M).2 19 t) d) + (1 : Int32))))) 20 t (s_greater ((s_refreshes t (s_latest (nI k) d (up (s_meets t k M).2 20 ((s_meets t k M).1).toNatClampNeg ((s_greater ((s_meets t k M).2 19 t) d) + (1 : Int32)))) (up (s_meets t k M).2 20 ((s_meets t k M).1).toNatClampNeg ((s_greater ((s_meets t k M).2 19 t) d) + (1 : Int32)))).2 20 t) (s_latest (nI k) d (up (s_meets t k M).2 20 ((s_meets t k M).1).toNatClampNeg ((s_greater ((s_meets t k M).2 19 t) d) + (1 : Int32)))))) (by first | exact (hB _).1 | exact hwc) htN (by first | exact (hB _).2.1 | exact h23c) (by first | exact fun _ => (hB _).2.2 | exact fun _ => hA.2 | exact fun q => absurd rfl q) h
              · try rw [if_pos c_206]
                refine V_aload_n (dG D_X5_get_2 26 rfl) rfl ?_
                refine V_iload_n (dG D_X5_get_2 27 rfl) rfl ?_
                refine V_iload (dG D_X5_get_2 28 rfl) rfl ?_
                refine R_vb2 (om_restarts (by omega) ) lk_X5_179 (dG D_X5_get_2 29 rfl) rcv_5 ⟨Nat.le_of_ble_eq_true rfl, Nat.le_of_ble_eq_true rfl⟩ ⟨(Nat.le_of_ble_eq_true rfl), (Nat.le_of_ble_eq_true rfl)⟩ (by first | exact Nat.le_of_ble_eq_true rfl | simp [cat_rf, cat_int, cat_ref]) (fun h => ?_)
                exact V_iret (dG D_X5_get_2 30 rfl) rfl (Nat.le_of_ble_eq_true rfl) (Nat.le_of_ble_eq_true rfl) ⟨by first | with_reducible rfl | rfl, rfl, by first | with_reducible rfl | rfl, rfl⟩
def s_get (t : Nat) (k : Nat) (M : St) : Int32 × St := (if ((s_areThere (nI t) (nI k) M).1) = (0 : Int32) then ((0 : Int32), (s_areThere (nI t) (nI k) M).2) else (if ((s_opens t (nI k) (s_areThere (nI t) (nI k) M).2).1) = (0 : Int32) then (if ((s_opens t (nI k) (s_areThere (nI t) (nI k) M).2).2 29 (32 * t + k)) = (-1 : Int32) then (s_get_75 t k 82 ((s_opens t (nI k) (s_areThere (nI t) (nI k) M).2).2 27 (4 * t + (s_nodeOf (nI k) (s_opens t (nI k) (s_areThere (nI t) (nI k) M).2).2).toNatClampNeg)) (1 : Int32) ((s_opens t (nI k) (s_areThere (nI t) (nI k) M).2).2)) else ((s_opens t (nI k) (s_areThere (nI t) (nI k) M).2).2 29 (32 * t + k), (s_opens t (nI k) (s_areThere (nI t) (nI k) M).2).2)) else ((s_opens t (nI k) (s_areThere (nI t) (nI k) M).2).1, (s_opens t (nI k) (s_areThere (nI t) (nI k) M).2).2)))
theorem om_get {g : GT} {nt : Nat} {C : St} {o : Int64} {t : Nat} {k : Nat} {M : St} (ht : t < 40) (hk : k < 32) {N R : Nat} (hM : WM N R M) : RET g K_X5_get 0 0 [.ref (ad g 10), .int (nI t), .int (nI k)] nt C M o (some (.int (s_get t k M).1)) C (s_get t k M).2 o := by
  refine MT_of (by decide +kernel) rfl rfl (Nat.le_of_ble_eq_true rfl) (by simp [cat_rf, cat_int, cat_ref]) (fun h => ?_)
  unfold s_get
  refine V_aload_n (dG D_X5_get_0 0 rfl) rfl ?_
  refine V_iload_n (dG D_X5_get_0 1 rfl) rfl ?_
  refine V_iload_n (dG D_X5_get_0 2 rfl) rfl ?_
  refine R_vb2 om_areThere lk_X5_163 (dG D_X5_get_0 3 rfl) rcv_5 ⟨Nat.le_of_ble_eq_true rfl, Nat.le_of_ble_eq_true rfl⟩ ⟨(Nat.le_of_ble_eq_true rfl), (Nat.le_of_ble_eq_true rfl)⟩ (by first | exact Nat.le_of_ble_eq_true rfl | simp [cat_rf, cat_int, cat_ref]) (fun h => ?_)
  refine V_if_ne (tgt := 11) (dG D_X5_get_0 4 rfl) (by decide) (fun c_6 => ?_) (fun c_6 => ?_)
  · try rw [if_neg c_6]
    have htN := aT_lt hM ht c_6
    have hM1 : WM N R (s_areThere (nI t) (nI k) M).2 := WM_aT hM
    refine V_iload_n (dG D_X5_get_0 7 rfl) rfl ?_
    refine V_istore_n (dG D_X5_get_0 8 rfl) (Nat.le_of_ble_eq_true rfl) ?_
    refine V_aload_n (dG D_X5_get_0 9 rfl) rfl ?_
    refine V_iload_n (dG D_X5_get_0 10 rfl) rfl ?_
    refine V_iload_n (dG D_X5_get_0 11 rfl) rfl ?_
    refine R_vb2 (om_opens (by omega) hM1.r1 hM1.r2 hM1.r hM1.no (hM1.ho _ ht)) lk_X5_167 (dG D_X5_get_0 12 rfl) rcv_5 ⟨Nat.le_of_ble_eq_true rfl, Nat.le_of_ble_eq_true rfl⟩ ⟨(Nat.le_of_ble_eq_true rfl), (Nat.le_of_ble_eq_true rfl)⟩ (by first | exact Nat.le_of_ble_eq_true rfl | simp [cat_rf, cat_int, cat_ref]) (fun h => ?_)
    refine V_istore (dG D_X5_get_0 13 rfl) (Nat.le_of_ble_eq_true rfl) ?_
    refine V_iload (dG D_X5_get_0 14 rfl) rfl ?_
    refine V_if_eq (tgt := 29) (dG D_X5_get_0 15 rfl) (by decide) (fun c_23 => ?_) (fun c_23 => ?_)
    · try rw [if_pos c_23]
      have hMo := WM_opens (t := t) (key := nI k) hM1
      have h0o : (s_opens t (nI k) (s_areThere (nI t) (nI k) M).2).2 23 t = 0 := by rw [opens_row (by decide) (by decide) (by decide)]; exact op_st c_23
      refine V_aload_n (dG D_X5_get_0 18 rfl) rfl ?_
      refine gf_X5_87 rfl (dG D_X5_get_0 19 rfl) ?_
      refine V_bipush (v := 32) (dG D_X5_get_0 20 rfl) (by decide) ?_
      refine V_iload_n (dG D_X5_get_0 21 rfl) rfl ?_
      refine V_imul (dG D_X5_get_0 22 rfl) ?_
      refine V_iload_n (dG D_X5_get_0 23 rfl) rfl ?_
      refine V_iadd (dG D_X5_get_0 24 rfl) ?_
      refine iald_M29 (dG D_X5_get_0 25 rfl) (show inr (((32 : Int32) * (nI t)) + (nI k)) 1280 (32 * t + k) from by rw [(ix32 _ _)]; exact inr_nI (by omega) (by decide)) ?_
      refine V_iconst (v := -1) (dG D_X5_get_0 26 rfl) (by decide) ?_
      refine V_icmp_eq (tgt := 56) (dG D_X5_get_0 27 rfl) (by decide) (fun c_41 => ?_) (fun c_41 => ?_)
      · try rw [if_pos c_41]
        refine V_aload_n (dG D_X5_get_0 37 rfl) rfl ?_
        refine gf_X5_81 rfl (dG D_X5_get_0 38 rfl) ?_
        refine V_iconst (v := 4) (dG D_X5_get_0 39 rfl) (by decide) ?_
        refine V_iload_n (dG D_X5_get_0 40 rfl) rfl ?_
        refine V_imul (dG D_X5_get_0 41 rfl) ?_
        refine V_aload_n (dG D_X5_get_0 42 rfl) rfl ?_
        refine V_iload_n (dG D_X5_get_0 43 rfl) rfl ?_
        refine R_vb1 (om_nodeOf hMo.r1 hMo.r2 hMo.r) lk_X5_118 (dG D_X5_get_0 44 rfl) rcv_5 ⟨Nat.le_of_ble_eq_true rfl, Nat.le_of_ble_eq_true rfl⟩ ⟨(Nat.le_of_ble_eq_true rfl), (Nat.le_of_ble_eq_true rfl)⟩ (by first | exact Nat.le_of_ble_eq_true rfl | simp [cat_rf, cat_int, cat_ref]) (fun h => ?_)
        refine V_iadd (dG D_X5_get_0 45 rfl) ?_
        refine iald_M27 (dG D_X5_get_0 46 rfl) (ix4v ht (no_vp hMo.r1 hMo.r2 hMo.r hMo.no)) ?_
        refine V_istore (dG D_X5_get_0 47 rfl) (Nat.le_of_ble_eq_true rfl) ?_
        refine V_iconst (v := 1) (dG D_X5_get_1 0 rfl) (by decide) ?_
        refine V_istore (dG D_X5_get_1 1 rfl) (Nat.le_of_ble_eq_true rfl) ?_
        refine V_sub [0, 2, 3, 5, 6] rfl ?_
        exact bm_get_75 ht hk  82 ((s_opens t (nI k) (s_areThere (nI t) (nI k) M).2).2 27 (4 * t + (s_nodeOf (nI k) (s_opens t (nI k) (s_areThere (nI t) (nI k) M).2).2).toNatClampNeg)) (1 : Int32) ((s_opens t (nI k) (s_areThere (nI t) (nI k) M).2).2) hMo htN h0o (fun _ => mu82 hM.n) h
      · try rw [if_neg c_41]
        refine V_aload_n (dG D_X5_get_0 28 rfl) rfl ?_
        refine gf_X5_87 rfl (dG D_X5_get_0 29 rfl) ?_
        refine V_bipush (v := 32) (dG D_X5_get_0 30 rfl) (by decide) ?_
        refine V_iload_n (dG D_X5_get_0 31 rfl) rfl ?_
        refine V_imul (dG D_X5_get_0 32 rfl) ?_
        refine V_iload_n (dG D_X5_get_0 33 rfl) rfl ?_
        refine V_iadd (dG D_X5_get_0 34 rfl) ?_
        refine iald_M29 (dG D_X5_get_0 35 rfl) (show inr (((32 : Int32) * (nI t)) + (nI k)) 1280 (32 * t + k) from by rw [(ix32 _ _)]; exact inr_nI (by omega) (by decide)) ?_
        exact V_iret (dG D_X5_get_0 36 rfl) rfl (Nat.le_of_ble_eq_true rfl) (Nat.le_of_ble_eq_true rfl) ⟨by first | with_reducible rfl | rfl, rfl, by first | with_reducible rfl | rfl, rfl⟩
    · try rw [if_neg c_23]
      refine V_iload (dG D_X5_get_0 16 rfl) rfl ?_
      exact V_iret (dG D_X5_get_0 17 rfl) rfl (Nat.le_of_ble_eq_true rfl) (Nat.le_of_ble_eq_true rfl) ⟨by first | with_reducible rfl | rfl, rfl, by first | with_reducible rfl | rfl, rfl⟩
  · try rw [if_pos c_6]
    refine V_iconst (v := 0) (dG D_X5_get_0 5 rfl) (by decide) ?_
    exact V_iret (dG D_X5_get_0 6 rfl) rfl (Nat.le_of_ble_eq_true rfl) (Nat.le_of_ble_eq_true rfl) ⟨by first | with_reducible rfl | rfl, rfl, by first | with_reducible rfl | rfl, rfl⟩
