/-! how many are undecided: what ends the waiting; put -/
set_option maxHeartbeats 100000
def cP (M : St) : Nat → Nat
  | 0 => 0
  | n + 1 => cP M n + (if M 23 n = 0 ∨ M 23 n = 1 then 1 else 0)
theorem cP_le {M : St} : ∀ {n : Nat}, cP M n ≤ n
  | 0 => Nat.le_refl 0
  | n + 1 => by
    have := cP_le (M := M) (n := n)
    unfold cP
    split <;> omega
theorem cP_congr {M M' : St} (h : M' 23 = M 23) : ∀ {n : Nat}, cP M' n = cP M n
  | 0 => rfl
  | n + 1 => by
    unfold cP
    rw [cP_congr h, h]
theorem cP_up {M : St} {x : Int32} {i : Nat} (hx : ¬ (x = 0 ∨ x = 1)) : ∀ {n : Nat}, cP (up M 23 i x) n ≤ cP M n
  | 0 => Nat.le_refl 0
  | n + 1 => by
    have h := cP_up (M := M) (i := i) hx (n := n)
    unfold cP
    by_cases e : n = i
    · subst e
      rw [up_eq, if_neg hx]
      omega
    · rw [up_ne (Or.inr e)]
      omega
theorem cP_lt {M : St} {x : Int32} {i : Nat} (hx : ¬ (x = 0 ∨ x = 1)) (h0 : M 23 i = 0) : ∀ {n : Nat}, i < n → cP (up M 23 i x) n + 1 ≤ cP M n
  | 0, h => absurd h (Nat.not_lt_zero i)
  | n + 1, h => by
    unfold cP
    by_cases e : n = i
    · subst e
      have := cP_up (M := M) (i := n) hx (n := n)
      rw [up_eq, if_neg hx, if_pos (Or.inl h0)]
      omega
    · have := cP_lt (M := M) (i := i) hx h0 (n := n) (by omega)
      rw [up_ne (Or.inr e)]
      omega
section W8
variable {N R : Nat} {M : St}
theorem cP_rec {u n : Nat} : cP (s_recovers u M) n ≤ cP M n := by
  unfold s_recovers
  split
  · exact cP_up (by decide)
  · unfold s_commits
    rw [cP_congr (M := up M 23 u 2) (by rw [cm29_row (by decide) (by decide) (by decide) (by decide) (by decide), up_row (by decide), up_row (by decide)])]
    exact cP_up (by decide)
theorem cP_meets {t k n : Nat} : cP (s_meets t k M).2 n ≤ cP M n := by
  have e49 : ∀ {D : St} {u : Int32}, cP (s_meets_49 t k u D).2 n = cP D n := fun {D u} => by
    unfold s_meets_49
    split
    · split
      · show cP (up D 7 k (-1 : Int32)) n = cP D n
        exact cP_congr (up_row (by decide))
      · show cP (up D 7 k (-1 : Int32)) n = cP D n
        exact cP_congr (up_row (by decide))
    · split
      · rfl
      · rfl
  have e34 : ∀ {D : St} {u : Int32}, cP (s_meets_34 t k u D).2 n ≤ cP D n := fun {D u} => by
    unfold s_meets_34
    split
    · exact Nat.le_of_eq e49
    · exact Nat.le_trans (Nat.le_of_eq e49) (cP_up (by decide))
  unfold s_meets
  split
  · exact Nat.le_refl _
  · split
    · exact Nat.le_refl _
    · split
      · exact Nat.le_trans e34 cP_rec
      · exact e34
theorem wf_ok {i : Nat} (h : WM N R M) (hi : i < N) (c : ¬ s_waitsFor i M = (-1 : Int32)) : vp_in (s_waitsFor i M) N ∧ M 23 (s_waitsFor i M).toNatClampNeg = 0 := by
  unfold s_waitsFor at c ⊢
  by_cases c1 : M 23 i = (0 : Int32)
  · rw [if_pos c1] at c ⊢
    by_cases c2 : M 24 i = (-1 : Int32)
    · rw [if_pos c2] at c; exact absurd rfl c
    · rw [if_neg c2] at c ⊢
      by_cases c3 : M 23 (M 24 i).toNatClampNeg = (0 : Int32)
      · rw [if_pos c3]; exact ⟨h.an i hi c2, c3⟩
      · rw [if_neg c3] at c; exact absurd rfl c
  · rw [if_neg c1] at c; exact absurd rfl c
def caOK (N R t : Nat) (M : St) (r : Int32 × St) : Prop := WM N R r.2 ∧ (¬ r.1 = 0 → cP r.2 N + 1 ≤ cP M N ∧ r.2 23 t = M 23 t)
theorem ca_end {t : Nat} {v z : Int32} (h : WM N R M) (hv : vp_in v N ∧ M 23 v.toNatClampNeg = 0) : caOK N R t M (if z = (nI t) then (if v = (nI t) then ((0 : Int32), (up (up M 23 v.toNatClampNeg (3 : Int32)) 24 t (-1 : Int32))) else ((1 : Int32), (up (up M 23 v.toNatClampNeg (3 : Int32)) 24 t (-1 : Int32)))) else ((0 : Int32), M)) := by
  have hw : WM N R (up (up M 23 v.toNatClampNeg (3 : Int32)) 24 t (-1 : Int32)) := WM_up24 (WM_up23 h (by rw [hv.2]; decide) (by decide)) neg1
  split
  · split
    · exact ⟨hw, fun q => absurd rfl q⟩
    · rename_i c
      refine ⟨hw, fun _ => ⟨?_, ?_⟩⟩
      · show cP (up (up M 23 v.toNatClampNeg (3 : Int32)) 24 t (-1 : Int32)) N + 1 ≤ cP M N
        rw [cP_congr (M := up M 23 v.toNatClampNeg 3) (up_row (by decide))]
        exact cP_lt (by decide) hv.2 (vin_lt hv.1)
      · show up (up M 23 v.toNatClampNeg (3 : Int32)) 24 t (-1 : Int32) 23 t = M 23 t
        rw [up_row (by decide)]
        exact up_ne (Or.inr (fun e => c ((nI_self (fun z => hv.1 (Or.inl z))).symm.trans (congrArg nI e.symm))))
  · exact ⟨h, fun q => absurd rfl q⟩
theorem ca15 {t : Nat} {u : Int32} : ∀ {n i : Nat} {v z : Int32} {M : St}, WM N R M → (vp_in v N ∧ M 23 v.toNatClampNeg = 0) → (¬ z = (-1 : Int32) → vp_in z N ∧ M 23 z.toNatClampNeg = 0) → caOK N R t M (s_comesAnew_15 t u n v z i M)
  | 0, i, v, z, M, h, hv, _ => by
    have e := ca_end (t := t) (z := z) h hv
    unfold s_comesAnew_15
    by_cases c1 : z = (-1 : Int32)
    · rw [if_pos c1]; exact e
    · rw [if_neg c1]
      by_cases c2 : z = nI t
      · rw [if_pos c2]; exact e
      · rw [if_neg c2]; exact e
  | n + 1, i, v, z, M, h, hv, hz => by
    have e := ca_end (t := t) (z := z) h hv
    unfold s_comesAnew_15
    by_cases c1 : z = (-1 : Int32)
    · rw [if_pos c1]; exact e
    · rw [if_neg c1]
      have hzz := hz c1
      have hw := wf_ok h (vin_lt hzz.1)
      have r1 := ca15 (t := t) (u := u) (n := n) (i := i + 1) (v := v) (z := s_waitsFor z.toNatClampNeg M) h hv hw
      have r2 := ca15 (t := t) (u := u) (n := n) (i := i + 1) (v := z) (z := s_waitsFor z.toNatClampNeg M) h hzz hw
      by_cases c2 : z = nI t
      · rw [if_pos c2]; exact e
      · rw [if_neg c2]
        by_cases c3 : M 18 z.toNatClampNeg < M 18 v.toNatClampNeg
        · rw [if_pos c3]; exact r2
        · rw [if_neg c3]
          by_cases c4 : M 18 z.toNatClampNeg = M 18 v.toNatClampNeg
          · rw [if_pos c4]
            by_cases c5 : z ≤ v
            · rw [if_pos c5]; exact r1
            · rw [if_neg c5]; exact r2
          · rw [if_neg c4]; exact r1
theorem ca_ok {t : Nat} {u : Int32} (h : WM N R M) (ht : t < N) (h0 : M 23 t = 0) (hu : vp_in u N ∧ M 23 u.toNatClampNeg = 0) : caOK N R t M (s_comesAnew t u M) := by
  have hn := h.n
  have e : up M 24 t u 23 = M 23 := up_row (by decide)
  have r := ca15 (t := t) (u := u) (n := 40) (i := 0) (v := nI t) (z := u) (WM_up24 (i := t) (x := u) h (fun _ => hu.1)) ⟨vp_in_nI ht (by omega), by rw [e, nI_clamp (by omega)]; exact h0⟩ (fun _ => ⟨hu.1, by rw [e]; exact hu.2⟩)
  unfold s_comesAnew
  refine ⟨r.1, fun q => ?_⟩
  have r2 := r.2 q
  rw [cP_congr e, e] at r2
  exact r2
theorem pt_a {t k : Nat} {z : Int32} (h : WM N R M) (hk : k < 32) (h0 : M 23 t = 0) (hz : vp_in z N ∧ M 23 z.toNatClampNeg = 0) (hne : t ≠ z.toNatClampNeg) : WM N R (s_meets t k (up (up M 23 z.toNatClampNeg (3 : Int32)) 7 k (-1 : Int32))).2 ∧ (s_meets t k (up (up M 23 z.toNatClampNeg (3 : Int32)) 7 k (-1 : Int32))).2 23 t = 0 ∧ cP (s_meets t k (up (up M 23 z.toNatClampNeg (3 : Int32)) 7 k (-1 : Int32))).2 N + 1 ≤ cP M N := by
  have hw : WM N R (up (up M 23 z.toNatClampNeg (3 : Int32)) 7 k (-1 : Int32)) := WM_up7 (WM_up23 h (by rw [hz.2]; decide) (by decide)) neg1
  refine ⟨WM_meets hw hk, ?_, ?_⟩
  · rw [meets_23 hw hk, up_row (by decide), up_ne (Or.inr hne)]; exact h0
  · have h1 := cP_meets (M := up (up M 23 z.toNatClampNeg (3 : Int32)) 7 k (-1 : Int32)) (t := t) (k := k) (n := N)
    rw [cP_congr (M := up M 23 z.toNatClampNeg 3) (up_row (by decide))] at h1
    have h2 := cP_lt (M := M) (x := 3) (by decide) hz.2 (vin_lt hz.1)
    omega
theorem pt_b {t k : Nat} {z : Int32} (h : WM N R M) (hk : k < 32) (ht : t < N) (h0 : M 23 t = 0) (hz : vp_in z N ∧ M 23 z.toNatClampNeg = 0) (c : ¬ (s_comesAnew t z M).1 = 0) : WM N R (s_meets t k (s_comesAnew t z M).2).2 ∧ (s_meets t k (s_comesAnew t z M).2).2 23 t = 0 ∧ cP (s_meets t k (s_comesAnew t z M).2).2 N + 1 ≤ cP M N := by
  obtain ⟨a1, a2⟩ := ca_ok h ht h0 hz
  obtain ⟨a3, a4⟩ := a2 c
  refine ⟨WM_meets a1 hk, ?_, ?_⟩
  · rw [meets_23 a1 hk, a4]; exact h0
  · have h1 := cP_meets (M := (s_comesAnew t z M).2) (t := t) (k := k) (n := N)
    omega
theorem cP_pos {z : Int32} (hz : vp_in z N ∧ M 23 z.toNatClampNeg = 0) : 0 < cP M N := by
  have := cP_lt (M := M) (x := 3) (by decide) hz.2 (vin_lt hz.1)
  omega
theorem asks_row2 {n w : Nat} (h : w ≠ 2) : (s_asks n M).2 w = M w := up_row h
theorem opens_row {t w : Nat} {key : Int32} (h1 : w ≠ 24) (h2 : w ≠ 2) (h3 : w ≠ 27) : (s_opens t key M).2 w = M w := by
  unfold s_opens
  repeat' split
  all_goals first | rfl | (show up _ 27 _ _ w = M w; rw [up_row h3, asks_row2 h2, up_row h2, up_row h1]) | (show up _ 2 _ _ w = M w; rw [up_row h2, up_row h1])
theorem opens_24 {t : Nat} {key : Int32} : (s_opens t key M).2 24 = M 24 ∨ (s_opens t key M).2 24 = up M 24 t (-1) 24 := by
  unfold s_opens
  repeat' split
  all_goals first | exact Or.inl rfl | (right; dsimp only; rw [up_row (v := 27) (w := 24) (by decide), asks_row2 (by decide), up_row (v := 2) (w := 24) (by decide)]) | (right; dsimp only; rw [up_row (v := 2) (w := 24) (by decide)])
theorem WM_opens {t : Nat} {key : Int32} (h : WM N R M) : WM N R (s_opens t key M).2 := by
  have hw := WM_up24 (i := t) (x := -1) h neg1
  rcases opens_24 (M := M) (t := t) (key := key) with e | e
  · exact WM_congr h (opens_row (by decide) (by decide) (by decide)) (opens_row (by decide) (by decide) (by decide)) (opens_row (by decide) (by decide) (by decide)) (opens_row (by decide) (by decide) (by decide)) (opens_row (by decide) (by decide) (by decide)) e (opens_row (by decide) (by decide) (by decide)) (opens_row (by decide) (by decide) (by decide))
  · have r : ∀ w, w ≠ 24 → w ≠ 2 → w ≠ 27 → (s_opens t key M).2 w = up M 24 t (-1) w := fun w h1 h2 h3 => (opens_row h1 h2 h3).trans (up_row h1).symm
    exact WM_congr hw (r _ (by decide) (by decide) (by decide)) (r _ (by decide) (by decide) (by decide)) (r _ (by decide) (by decide) (by decide)) (r _ (by decide) (by decide) (by decide)) (r _ (by decide) (by decide) (by decide)) e (r _ (by decide) (by decide) (by decide)) (r _ (by decide) (by decide) (by decide))
theorem op_st {t : Nat} {key : Int32} (c : (s_opens t key M).1 = 0) : M 23 t = 0 := by
  unfold s_opens at c
  split at c
  · assumption
  · exact absurd (show (-13 : Int32) = 0 from c) (by decide)
end W8
theorem aT_row {x y : Int32} {M : St} {w : Nat} (h : w ≠ 31) : (s_areThere x y M).2 w = M w := by
  unfold s_areThere
  split
  · exact up_row h
  · split
    · exact up_row h
    · exact up_row h
theorem WM_aT {N R : Nat} {M : St} {x y : Int32} (h : WM N R M) : WM N R (s_areThere x y M).2 := WM_congr h (aT_row (by decide)) (aT_row (by decide)) (aT_row (by decide)) (aT_row (by decide)) (aT_row (by decide)) (aT_row (by decide)) (aT_row (by decide)) (aT_row (by decide))
theorem aT_lt {N R : Nat} {M : St} {t : Nat} {y : Int32} (h : WM N R M) (ht : t < 40) (c : ¬ (s_areThere (nI t) y M).1 = 0) : t < N := by
  refine isT_lt h ht (fun q => c ?_)
  unfold s_isTransaction at q
  unfold s_areThere
  split at q
  · rename_i c2
    rw [if_pos c2]
  · exact absurd (show (1 : Int32) = 0 from q) (by decide)
def s_put_69 (t : Nat) (k : Nat) (v : Int32) : Nat → Int32 → St → Int32 × St
  | 0, z, M => (if (M 11 k) = (nI t) then ((0 : Int32), (up (up (up (up (up (up M 20 t (s_greater (M 20 t) ((s_latest (nI k) (1000000 : Int32) M) + (1 : Int32)))) 20 t (s_greater (M 20 t) ((s_latest (nI k) (1000000 : Int32) M) + (1 : Int32)))) 7 k (nI t)) 8 k (0 : Int32)) 9 k v) 29 (32 * t + k) v)) else ((0 : Int32), (up (up (up (up (up (up M 20 t (s_greater (M 20 t) ((s_latest (nI k) (1000000 : Int32) M) + (1 : Int32)))) 20 t (s_greater (s_greater (M 20 t) ((s_latest (nI k) (1000000 : Int32) M) + (1 : Int32))) ((M 10 k) + (1 : Int32)))) 7 k (nI t)) 8 k (0 : Int32)) 9 k v) 29 (32 * t + k) v)))
  | n + 1, z, M => (if z = (-1 : Int32) then (if (M 11 k) = (nI t) then ((0 : Int32), (up (up (up (up (up (up M 20 t (s_greater (M 20 t) ((s_latest (nI k) (1000000 : Int32) M) + (1 : Int32)))) 20 t (s_greater (M 20 t) ((s_latest (nI k) (1000000 : Int32) M) + (1 : Int32)))) 7 k (nI t)) 8 k (0 : Int32)) 9 k v) 29 (32 * t + k) v)) else ((0 : Int32), (up (up (up (up (up (up M 20 t (s_greater (M 20 t) ((s_latest (nI k) (1000000 : Int32) M) + (1 : Int32)))) 20 t (s_greater (s_greater (M 20 t) ((s_latest (nI k) (1000000 : Int32) M) + (1 : Int32))) ((M 10 k) + (1 : Int32)))) 7 k (nI t)) 8 k (0 : Int32)) 9 k v) 29 (32 * t + k) v))) else (if (M 18 t) ≤ (M 18 z.toNatClampNeg) then (if ((s_comesAnew t z M).1) = (0 : Int32) then ((s_waitAnswer t (s_comesAnew t z M).2), (s_comesAnew t z M).2) else (s_put_69 t k v n ((s_meets t k (s_comesAnew t z M).2).1) ((s_meets t k (s_comesAnew t z M).2).2))) else (s_put_69 t k v n ((s_meets t k (up (up M 23 z.toNatClampNeg (3 : Int32)) 7 k (-1 : Int32))).1) ((s_meets t k (up (up M 23 z.toNatClampNeg (3 : Int32)) 7 k (-1 : Int32))).2))))
theorem bm_put_69 {g : GT} {nt : Nat} {C : St} {o : Int64}  {t : Nat} {k : Nat} {v : Int32} (ht : t < 40) (hk : k < 32) {N R : Nat} : ∀ (n : Nat) (z : Int32) (M : St) (hM : WM N R M) (htN : t < N) (h0 : M 23 t = 0) (hz : ¬ z = (-1 : Int32) → vp_in z N ∧ M 23 z.toNatClampNeg = 0) (hU : cP M N ≤ n) (h : Nat × Nat), V g K_X5_put (kR K_X5_put 0 0) (qM g 0 0 nt (fun v9 C9 M9 o9 => v9 = some (.int (s_put_69 t k v n z M).1) ∧ C9 = C ∧ M9 = (s_put_69 t k v n z M).2 ∧ o9 = o) (fun _ _ _ _ => False)) 0 0 nt h C M o 69 [(0, .ref (ad g 10)), (2, .int (nI k)), (3, .int v), (4, .int (nI t)), (6, .int z)] [] := by
  intro n
  induction n with
  | zero =>
    intro z M hM htN h0 hz hU h
    unfold s_put_69
    refine V_iload (dG D_X5_put_0 38 rfl) rfl ?_
    refine V_iconst (v := -1) (dG D_X5_put_0 39 rfl) (by decide) ?_
    refine V_icmp_eq (tgt := 140) (dG D_X5_put_0 40 rfl) (by decide) (fun c_72 => ?_) (fun c_72 => absurd (cP_pos (hz c_72)) (by omega))
    refine V_aload_n (dG D_X5_put_1 28 rfl) rfl ?_
    refine gf_X5_63 rfl (dG D_X5_put_1 29 rfl) ?_
    refine V_iload (dG D_X5_put_1 30 rfl) rfl ?_
    refine V_aload_n (dG D_X5_put_1 31 rfl) rfl ?_
    refine gf_X5_63 rfl (dG D_X5_put_1 32 rfl) ?_
    refine V_iload (dG D_X5_put_1 33 rfl) rfl ?_
    refine iald_M20 (dG D_X5_put_1 34 rfl) (inr_nI (by omega) (by decide)) ?_
    refine V_aload_n (dG D_X5_put_1 35 rfl) rfl ?_
    refine V_iload_n (dG D_X5_put_1 36 rfl) rfl ?_
    refine V_ldc (v := 1000000) (dG D_X5_put_1 37 rfl) w_938 ?_
    refine R_vb2 (om_latest hM.vb hM.v) lk_X5_150 (dG D_X5_put_1 38 rfl) rcv_5 ⟨Nat.le_of_ble_eq_true rfl, Nat.le_of_ble_eq_true rfl⟩ ⟨(Nat.le_of_ble_eq_true rfl), (Nat.le_of_ble_eq_true rfl)⟩ (by first | exact Nat.le_of_ble_eq_true rfl | simp [cat_rf, cat_int, cat_ref]) (fun h => ?_)
    refine V_iconst (v := 1) (dG D_X5_put_1 39 rfl) (by decide) ?_
    refine V_iadd (dG D_X5_put_1 40 rfl) ?_
    refine R_vs2 om_greater lk_X5_103 (dG D_X5_put_1 41 rfl) ⟨Nat.le_of_ble_eq_true rfl, Nat.le_of_ble_eq_true rfl⟩ ⟨(Nat.le_of_ble_eq_true rfl), (Nat.le_of_ble_eq_true rfl)⟩ (by first | exact Nat.le_of_ble_eq_true rfl | simp [cat_rf, cat_int, cat_ref]) (fun h => ?_)
    refine iast_M20 (dG D_X5_put_1 42 rfl) (inr_nI (by omega) (by decide)) ?_
    refine V_aload_n (dG D_X5_put_1 43 rfl) rfl ?_
    refine gf_X5_63 rfl (dG D_X5_put_1 44 rfl) ?_
    refine V_iload (dG D_X5_put_1 45 rfl) rfl ?_
    refine V_aload_n (dG D_X5_put_1 46 rfl) rfl ?_
    refine gf_X5_42 rfl (dG D_X5_put_1 47 rfl) ?_
    refine V_iload_n (dG D_X5_put_2 0 rfl) rfl ?_
    refine iald_M11 (dG D_X5_put_2 1 rfl) (inr_nI (by omega) (by decide)) ?_
    rw [up_row (v := 20) (w := 11) (by decide)]
    refine V_iload (dG D_X5_put_2 2 rfl) rfl ?_
    refine V_icmp_ne (tgt := 193) (dG D_X5_put_2 3 rfl) (by decide) (fun c_180 => ?_) (fun c_180 => ?_)
    · try rw [if_neg c_180]
      refine V_aload_n (dG D_X5_put_2 9 rfl) rfl ?_
      refine gf_X5_63 rfl (dG D_X5_put_2 10 rfl) ?_
      refine V_iload (dG D_X5_put_2 11 rfl) rfl ?_
      refine iald_M20 (dG D_X5_put_2 12 rfl) (inr_nI (by omega) (by decide)) ?_
      rw [up_eq]
      refine V_aload_n (dG D_X5_put_2 13 rfl) rfl ?_
      refine gf_X5_39 rfl (dG D_X5_put_2 14 rfl) ?_
      refine V_iload_n (dG D_X5_put_2 15 rfl) rfl ?_
      refine iald_M10 (dG D_X5_put_2 16 rfl) (inr_nI (by omega) (by decide)) ?_
      rw [up_row (v := 20) (w := 10) (by decide)]
      refine V_iconst (v := 1) (dG D_X5_put_2 17 rfl) (by decide) ?_
      refine V_iadd (dG D_X5_put_2 18 rfl) ?_
      refine R_vs2 om_greater lk_X5_103 (dG D_X5_put_2 19 rfl) ⟨Nat.le_of_ble_eq_true rfl, Nat.le_of_ble_eq_true rfl⟩ ⟨(Nat.le_of_ble_eq_true rfl), (Nat.le_of_ble_eq_true rfl)⟩ (by first | exact Nat.le_of_ble_eq_true rfl | simp [cat_rf, cat_int, cat_ref]) (fun h => ?_)
      refine iast_M20 (dG D_X5_put_2 20 rfl) (inr_nI (by omega) (by decide)) ?_
      refine V_aload_n (dG D_X5_put_2 21 rfl) rfl ?_
      refine gf_X5_30 rfl (dG D_X5_put_2 22 rfl) ?_
      refine V_iload_n (dG D_X5_put_2 23 rfl) rfl ?_
      refine V_iload (dG D_X5_put_2 24 rfl) rfl ?_
      refine iast_M7 (dG D_X5_put_2 25 rfl) (inr_nI (by omega) (by decide)) ?_
      refine V_aload_n (dG D_X5_put_2 26 rfl) rfl ?_
      refine gf_X5_33 rfl (dG D_X5_put_2 27 rfl) ?_
      refine V_iload_n (dG D_X5_put_2 28 rfl) rfl ?_
      refine V_iconst (v := 0) (dG D_X5_put_2 29 rfl) (by decide) ?_
      refine zast_M8 (dG D_X5_put_2 30 rfl) (inr_nI (by omega) (by decide)) rfl ?_
      refine V_aload_n (dG D_X5_put_2 31 rfl) rfl ?_
      refine gf_X5_36 rfl (dG D_X5_put_2 32 rfl) ?_
      refine V_iload_n (dG D_X5_put_2 33 rfl) rfl ?_
      refine V_iload_n (dG D_X5_put_2 34 rfl) rfl ?_
      refine iast_M9 (dG D_X5_put_2 35 rfl) (inr_nI (by omega) (by decide)) ?_
      refine V_aload_n (dG D_X5_put_2 36 rfl) rfl ?_
      refine gf_X5_87 rfl (dG D_X5_put_2 37 rfl) ?_
      refine V_bipush (v := 32) (dG D_X5_put_2 38 rfl) (by decide) ?_
      refine V_iload (dG D_X5_put_2 39 rfl) rfl ?_
      refine V_imul (dG D_X5_put_2 40 rfl) ?_
      refine V_iload_n (dG D_X5_put_2 41 rfl) rfl ?_
      refine V_iadd (dG D_X5_put_2 42 rfl) ?_
      refine V_iload_n (dG D_X5_put_2 43 rfl) rfl ?_
      refine iast_M29 (dG D_X5_put_2 44 rfl) (show inr (((32 : Int32) * (nI t)) + (nI k)) 1280 (32 * t + k) from by rw [(ix32 _ _)]; exact inr_nI (by omega) (by decide)) ?_
      refine V_iconst (v := 0) (dG D_X5_put_2 45 rfl) (by decide) ?_
      exact V_iret (dG D_X5_put_2 46 rfl) rfl (Nat.le_of_ble_eq_true rfl) (Nat.le_of_ble_eq_true rfl) ⟨by first | with_reducible rfl | rfl, rfl, by first | with_reducible rfl | rfl, rfl⟩
    · try rw [if_pos c_180]
      refine V_aload_n (dG D_X5_put_2 4 rfl) rfl ?_
      refine gf_X5_63 rfl (dG D_X5_put_2 5 rfl) ?_
      refine V_iload (dG D_X5_put_2 6 rfl) rfl ?_
      refine iald_M20 (dG D_X5_put_2 7 rfl) (inr_nI (by omega) (by decide)) ?_
      rw [up_eq]
      refine V_goto (tgt := 211) (dG D_X5_put_2 8 rfl) (by decide) ?_
      refine iast_M20 (dG D_X5_put_2 20 rfl) (inr_nI (by omega) (by decide)) ?_
      refine V_aload_n (dG D_X5_put_2 21 rfl) rfl ?_
      refine gf_X5_30 rfl (dG D_X5_put_2 22 rfl) ?_
      refine V_iload_n (dG D_X5_put_2 23 rfl) rfl ?_
      refine V_iload (dG D_X5_put_2 24 rfl) rfl ?_
      refine iast_M7 (dG D_X5_put_2 25 rfl) (inr_nI (by omega) (by decide)) ?_
      refine V_aload_n (dG D_X5_put_2 26 rfl) rfl ?_
      refine gf_X5_33 rfl (dG D_X5_put_2 27 rfl) ?_
      refine V_iload_n (dG D_X5_put_2 28 rfl) rfl ?_
      refine V_iconst (v := 0) (dG D_X5_put_2 29 rfl) (by decide) ?_
      refine zast_M8 (dG D_X5_put_2 30 rfl) (inr_nI (by omega) (by decide)) rfl ?_
      refine V_aload_n (dG D_X5_put_2 31 rfl) rfl ?_
      refine gf_X5_36 rfl (dG D_X5_put_2 32 rfl) ?_
      refine V_iload_n (dG D_X5_put_2 33 rfl) rfl ?_
      refine V_iload_n (dG D_X5_put_2 34 rfl) rfl ?_
      refine iast_M9 (dG D_X5_put_2 35 rfl) (inr_nI (by omega) (by decide)) ?_
      refine V_aload_n (dG D_X5_put_2 36 rfl) rfl ?_
      refine gf_X5_87 rfl (dG D_X5_put_2 37 rfl) ?_
      refine V_bipush (v := 32) (dG D_X5_put_2 38 rfl) (by decide) ?_
      refine V_iload (dG D_X5_put_2 39 rfl) rfl ?_
      refine V_imul (dG D_X5_put_2 40 rfl) ?_
      refine V_iload_n (dG D_X5_put_2 41 rfl) rfl ?_
      refine V_iadd (dG D_X5_put_2 42 rfl) ?_
      refine V_iload_n (dG D_X5_put_2 43 rfl) rfl ?_
      refine iast_M29 (dG D_X5_put_2 44 rfl) (show inr (((32 : Int32) * (nI t)) + (nI k)) 1280 (32 * t + k) from by rw [(ix32 _ _)]; exact inr_nI (by omega) (by decide)) ?_
      refine V_iconst (v := 0) (dG D_X5_put_2 45 rfl) (by decide) ?_
      exact V_iret (dG D_X5_put_2 46 rfl) rfl (Nat.le_of_ble_eq_true rfl) (Nat.le_of_ble_eq_true rfl) ⟨by first | with_reducible rfl | rfl, rfl, by first | with_reducible rfl | rfl, rfl⟩
  | succ n ih =>
    intro z M hM htN h0 hz hU h
    unfold s_put_69
    refine V_iload (dG D_X5_put_0 38 rfl) rfl ?_
    refine V_iconst (v := -1) (dG D_X5_put_0 39 rfl) (by decide) ?_
    refine V_icmp_eq (tgt := 140) (dG D_X5_put_0 40 rfl) (by decide) (fun c_72 => ?_) (fun c_72 => ?_)
    · try rw [if_pos c_72]
      refine V_aload_n (dG D_X5_put_1 28 rfl) rfl ?_
      refine gf_X5_63 rfl (dG D_X5_put_1 29 rfl) ?_
      refine V_iload (dG D_X5_put_1 30 rfl) rfl ?_
      refine V_aload_n (dG D_X5_put_1 31 rfl) rfl ?_
      refine gf_X5_63 rfl (dG D_X5_put_1 32 rfl) ?_
      refine V_iload (dG D_X5_put_1 33 rfl) rfl ?_
      refine iald_M20 (dG D_X5_put_1 34 rfl) (inr_nI (by omega) (by decide)) ?_
      refine V_aload_n (dG D_X5_put_1 35 rfl) rfl ?_
      refine V_iload_n (dG D_X5_put_1 36 rfl) rfl ?_
      refine V_ldc (v := 1000000) (dG D_X5_put_1 37 rfl) w_938 ?_
      refine R_vb2 (om_latest hM.vb hM.v) lk_X5_150 (dG D_X5_put_1 38 rfl) rcv_5 ⟨Nat.le_of_ble_eq_true rfl, Nat.le_of_ble_eq_true rfl⟩ ⟨(Nat.le_of_ble_eq_true rfl), (Nat.le_of_ble_eq_true rfl)⟩ (by first | exact Nat.le_of_ble_eq_true rfl | simp [cat_rf, cat_int, cat_ref]) (fun h => ?_)
      refine V_iconst (v := 1) (dG D_X5_put_1 39 rfl) (by decide) ?_
      refine V_iadd (dG D_X5_put_1 40 rfl) ?_
      refine R_vs2 om_greater lk_X5_103 (dG D_X5_put_1 41 rfl) ⟨Nat.le_of_ble_eq_true rfl, Nat.le_of_ble_eq_true rfl⟩ ⟨(Nat.le_of_ble_eq_true rfl), (Nat.le_of_ble_eq_true rfl)⟩ (by first | exact Nat.le_of_ble_eq_true rfl | simp [cat_rf, cat_int, cat_ref]) (fun h => ?_)
      refine iast_M20 (dG D_X5_put_1 42 rfl) (inr_nI (by omega) (by decide)) ?_
      refine V_aload_n (dG D_X5_put_1 43 rfl) rfl ?_
      refine gf_X5_63 rfl (dG D_X5_put_1 44 rfl) ?_
      refine V_iload (dG D_X5_put_1 45 rfl) rfl ?_
      refine V_aload_n (dG D_X5_put_1 46 rfl) rfl ?_
      refine gf_X5_42 rfl (dG D_X5_put_1 47 rfl) ?_
      refine V_iload_n (dG D_X5_put_2 0 rfl) rfl ?_
      refine iald_M11 (dG D_X5_put_2 1 rfl) (inr_nI (by omega) (by decide)) ?_
      rw [up_row (v := 20) (w := 11) (by decide)]
      refine V_iload (dG D_X5_put_2 2 rfl) rfl ?_
      refine V_icmp_ne (tgt := 193) (dG D_X5_put_2 3 rfl) (by decide) (fun c_180 => ?_) (fun c_180 => ?_)
      · try rw [if_neg c_180]
        refine V_aload_n (dG D_X5_put_2 9 rfl) rfl ?_
        refine gf_X5_63 rfl (dG D_X5_put_2 10 rfl) ?_
        refine V_iload (dG D_X5_put_2 11 rfl) rfl ?_
        refine iald_M20 (dG D_X5_put_2 12 rfl) (inr_nI (by omega) (by decide)) ?_
        rw [up_eq]
        refine V_aload_n (dG D_X5_put_2 13 rfl) rfl ?_
        refine gf_X5_39 rfl (dG D_X5_put_2 14 rfl) ?_
        refine V_iload_n (dG D_X5_put_2 15 rfl) rfl ?_
        refine iald_M10 (dG D_X5_put_2 16 rfl) (inr_nI (by omega) (by decide)) ?_
        rw [up_row (v := 20) (w := 10) (by decide)]
        refine V_iconst (v := 1) (dG D_X5_put_2 17 rfl) (by decide) ?_
        refine V_iadd (dG D_X5_put_2 18 rfl) ?_
        refine R_vs2 om_greater lk_X5_103 (dG D_X5_put_2 19 rfl) ⟨Nat.le_of_ble_eq_true rfl, Nat.le_of_ble_eq_true rfl⟩ ⟨(Nat.le_of_ble_eq_true rfl), (Nat.le_of_ble_eq_true rfl)⟩ (by first | exact Nat.le_of_ble_eq_true rfl | simp [cat_rf, cat_int, cat_ref]) (fun h => ?_)
        refine iast_M20 (dG D_X5_put_2 20 rfl) (inr_nI (by omega) (by decide)) ?_
        refine V_aload_n (dG D_X5_put_2 21 rfl) rfl ?_
        refine gf_X5_30 rfl (dG D_X5_put_2 22 rfl) ?_
        refine V_iload_n (dG D_X5_put_2 23 rfl) rfl ?_
        refine V_iload (dG D_X5_put_2 24 rfl) rfl ?_
        refine iast_M7 (dG D_X5_put_2 25 rfl) (inr_nI (by omega) (by decide)) ?_
        refine V_aload_n (dG D_X5_put_2 26 rfl) rfl ?_
        refine gf_X5_33 rfl (dG D_X5_put_2 27 rfl) ?_
        refine V_iload_n (dG D_X5_put_2 28 rfl) rfl ?_
        refine V_iconst (v := 0) (dG D_X5_put_2 29 rfl) (by decide) ?_
        refine zast_M8 (dG D_X5_put_2 30 rfl) (inr_nI (by omega) (by decide)) rfl ?_
        refine V_aload_n (dG D_X5_put_2 31 rfl) rfl ?_
        refine gf_X5_36 rfl (dG D_X5_put_2 32 rfl) ?_
        refine V_iload_n (dG D_X5_put_2 33 rfl) rfl ?_
        refine V_iload_n (dG D_X5_put_2 34 rfl) rfl ?_
        refine iast_M9 (dG D_X5_put_2 35 rfl) (inr_nI (by omega) (by decide)) ?_
        refine V_aload_n (dG D_X5_put_2 36 rfl) rfl ?_
        refine gf_X5_87 rfl (dG D_X5_put_2 37 rfl) ?_
        refine V_bipush (v := 32) (dG D_X5_put_2 38 rfl) (by decide) ?_
        refine V_iload (dG D_X5_put_2 39 rfl) rfl ?_
        refine V_imul (dG D_X5_put_2 40 rfl) ?_
        refine V_iload_n (dG D_X5_put_2 41 rfl) rfl ?_
        refine V_iadd (dG D_X5_put_2 42 rfl) ?_
        refine V_iload_n (dG D_X5_put_2 43 rfl) rfl ?_
        refine iast_M29 (dG D_X5_put_2 44 rfl) (show inr (((32 : Int32) * (nI t)) + (nI k)) 1280 (32 * t + k) from by rw [(ix32 _ _)]; exact inr_nI (by omega) (by decide)) ?_
        refine V_iconst (v := 0) (dG D_X5_put_2 45 rfl) (by decide) ?_
        exact V_iret (dG D_X5_put_2 46 rfl) rfl (Nat.le_of_ble_eq_true rfl) (Nat.le_of_ble_eq_true rfl) ⟨by first | with_reducible rfl | rfl, rfl, by first | with_reducible rfl | rfl, rfl⟩
      · try rw [if_pos c_180]
        refine V_aload_n (dG D_X5_put_2 4 rfl) rfl ?_
        refine gf_X5_63 rfl (dG D_X5_put_2 5 rfl) ?_
        refine V_iload (dG D_X5_put_2 6 rfl) rfl ?_
        refine iald_M20 (dG D_X5_put_2 7 rfl) (inr_nI (by omega) (by decide)) ?_
        rw [up_eq]
        refine V_goto (tgt := 211) (dG D_X5_put_2 8 rfl) (by decide) ?_
        refine iast_M20 (dG D_X5_put_2 20 rfl) (inr_nI (by omega) (by decide)) ?_
        refine V_aload_n (dG D_X5_put_2 21 rfl) rfl ?_
        refine gf_X5_30 rfl (dG D_X5_put_2 22 rfl) ?_
        refine V_iload_n (dG D_X5_put_2 23 rfl) rfl ?_
        refine V_iload (dG D_X5_put_2 24 rfl) rfl ?_
        refine iast_M7 (dG D_X5_put_2 25 rfl) (inr_nI (by omega) (by decide)) ?_
        refine V_aload_n (dG D_X5_put_2 26 rfl) rfl ?_
        refine gf_X5_33 rfl (dG D_X5_put_2 27 rfl) ?_
        refine V_iload_n (dG D_X5_put_2 28 rfl) rfl ?_
        refine V_iconst (v := 0) (dG D_X5_put_2 29 rfl) (by decide) ?_
        refine zast_M8 (dG D_X5_put_2 30 rfl) (inr_nI (by omega) (by decide)) rfl ?_
        refine V_aload_n (dG D_X5_put_2 31 rfl) rfl ?_
        refine gf_X5_36 rfl (dG D_X5_put_2 32 rfl) ?_
        refine V_iload_n (dG D_X5_put_2 33 rfl) rfl ?_
        refine V_iload_n (dG D_X5_put_2 34 rfl) rfl ?_
        refine iast_M9 (dG D_X5_put_2 35 rfl) (inr_nI (by omega) (by decide)) ?_
        refine V_aload_n (dG D_X5_put_2 36 rfl) rfl ?_
        refine gf_X5_87 rfl (dG D_X5_put_2 37 rfl) ?_
        refine V_bipush (v := 32) (dG D_X5_put_2 38 rfl) (by decide) ?_
        refine V_iload (dG D_X5_put_2 39 rfl) rfl ?_
        refine V_imul (dG D_X5_put_2 40 rfl) ?_
        refine V_iload_n (dG D_X5_put_2 41 rfl) rfl ?_
        refine V_iadd (dG D_X5_put_2 42 rfl) ?_
        refine V_iload_n (dG D_X5_put_2 43 rfl) rfl ?_
        refine iast_M29 (dG D_X5_put_2 44 rfl) (show inr (((32 : Int32) * (nI t)) + (nI k)) 1280 (32 * t + k) from by rw [(ix32 _ _)]; exact inr_nI (by omega) (by decide)) ?_
        refine V_iconst (v := 0) (dG D_X5_put_2 45 rfl) (by decide) ?_
        exact V_iret (dG D_X5_put_2 46 rfl) rfl (Nat.le_of_ble_eq_true rfl) (Nat.le_of_ble_eq_true rfl) ⟨by first | with_reducible rfl | rfl, rfl, by first | with_reducible rfl | rfl, rfl⟩
    · try rw [if_neg c_72]
      have hzz := hz c_72
      have hz40 := vp_le hzz.1 hM.n
      refine V_aload_n (dG D_X5_put_0 41 rfl) rfl ?_
      refine gf_X5_57 rfl (dG D_X5_put_0 42 rfl) ?_
      refine V_iload (dG D_X5_put_0 43 rfl) rfl ?_
      refine iald_M18 (dG D_X5_put_0 44 rfl) (inr_nI (by omega) (by decide)) ?_
      refine V_aload_n (dG D_X5_put_0 45 rfl) rfl ?_
      refine gf_X5_57 rfl (dG D_X5_put_0 46 rfl) ?_
      refine V_iload (dG D_X5_put_0 47 rfl) rfl ?_
      refine iald_M18 (dG D_X5_put_1 0 rfl) (inr_of hz40) ?_
      refine V_icmp_le (tgt := 110) (dG D_X5_put_1 1 rfl) (by decide) (fun c_89 => ?_) (fun c_89 => ?_)
      · try rw [if_pos c_89]
        refine V_aload_n (dG D_X5_put_1 13 rfl) rfl ?_
        refine V_iload (dG D_X5_put_1 14 rfl) rfl ?_
        refine V_iload (dG D_X5_put_1 15 rfl) rfl ?_
        refine R_vb2 (om_comesAnew (by omega) hz40 hM.aw) lk_X5_170 (dG D_X5_put_1 16 rfl) rcv_5 ⟨Nat.le_of_ble_eq_true rfl, Nat.le_of_ble_eq_true rfl⟩ ⟨(Nat.le_of_ble_eq_true rfl), (Nat.le_of_ble_eq_true rfl)⟩ (by first | exact Nat.le_of_ble_eq_true rfl | simp [cat_rf, cat_int, cat_ref]) (fun h => ?_)
        refine V_if_ne (tgt := 128) (dG D_X5_put_1 17 rfl) (by decide) (fun c_118 => ?_) (fun c_118 => ?_)
        · try rw [if_neg c_118]
          have hw2 := (ca_ok hM htN h0 hzz).1
          have hb := pt_b hM hk htN h0 hzz c_118
          refine V_aload_n (dG D_X5_put_1 22 rfl) rfl ?_
          refine V_iload (dG D_X5_put_1 23 rfl) rfl ?_
          refine V_iload_n (dG D_X5_put_1 24 rfl) rfl ?_
          refine R_vb2 (om_meets (by omega) (by omega) (by first | exact hw1.o40 hk | exact hw2.o40 hk) (by first | exact hw1.vm hk | exact hw2.vm hk)) lk_X5_153 (dG D_X5_put_1 25 rfl) rcv_5 ⟨Nat.le_of_ble_eq_true rfl, Nat.le_of_ble_eq_true rfl⟩ ⟨(Nat.le_of_ble_eq_true rfl), (Nat.le_of_ble_eq_true rfl)⟩ (by first | exact Nat.le_of_ble_eq_true rfl | simp [cat_rf, cat_int, cat_ref]) (fun h => ?_)
          refine V_istore (dG D_X5_put_1 26 rfl) (Nat.le_of_ble_eq_true rfl) ?_
          refine V_goto (tgt := 69) (dG D_X5_put_1 27 rfl) (by decide) ?_
          refine V_sub [0, 2, 3, 4, 6] rfl ?_
          exact ih ((s_meets t k (s_comesAnew t z M).2).1) ((s_meets t k (s_comesAnew t z M).2).2) (by first | exact ha.1 | exact hb.1) htN (by first | exact ha.2.1 | exact hb.2.1) (by first | exact fun q => meets_vp hw1 hk q | exact fun q => meets_vp hw2 hk q) (by first | exact (Nat.le_of_succ_le_succ (Nat.le_trans ha.2.2 hU)) | exact (Nat.le_of_succ_le_succ (Nat.le_trans hb.2.2 hU))) h
        · try rw [if_pos c_118]
          refine V_aload_n (dG D_X5_put_1 18 rfl) rfl ?_
          refine V_iload (dG D_X5_put_1 19 rfl) rfl ?_
          refine R_vb1 (om_waitAnswer (by omega) ) lk_X5_173 (dG D_X5_put_1 20 rfl) rcv_5 ⟨Nat.le_of_ble_eq_true rfl, Nat.le_of_ble_eq_true rfl⟩ ⟨(Nat.le_of_ble_eq_true rfl), (Nat.le_of_ble_eq_true rfl)⟩ (by first | exact Nat.le_of_ble_eq_true rfl | simp [cat_rf, cat_int, cat_ref]) (fun h => ?_)
          exact V_iret (dG D_X5_put_1 21 rfl) rfl (Nat.le_of_ble_eq_true rfl) (Nat.le_of_ble_eq_true rfl) ⟨by first | with_reducible rfl | rfl, rfl, by first | with_reducible rfl | rfl, rfl⟩
      · try rw [if_neg c_89]
        have hne : t ≠ z.toNatClampNeg := fun q => c_89 (by rw [q]; exact Int32.le_refl _)
        have hw1 : WM N R (up (up M 23 z.toNatClampNeg (3 : Int32)) 7 k (-1 : Int32)) := WM_up7 (WM_up23 hM (by rw [hzz.2]; decide) (by decide)) neg1
        have ha := pt_a hM hk h0 hzz hne
        refine V_aload_n (dG D_X5_put_1 2 rfl) rfl ?_
        refine gf_X5_72 rfl (dG D_X5_put_1 3 rfl) ?_
        refine V_iload (dG D_X5_put_1 4 rfl) rfl ?_
        refine V_iconst (v := 3) (dG D_X5_put_1 5 rfl) (by decide) ?_
        refine iast_M23 (dG D_X5_put_1 6 rfl) (inr_of hz40) ?_
        refine V_aload_n (dG D_X5_put_1 7 rfl) rfl ?_
        refine gf_X5_30 rfl (dG D_X5_put_1 8 rfl) ?_
        refine V_iload_n (dG D_X5_put_1 9 rfl) rfl ?_
        refine V_iconst (v := -1) (dG D_X5_put_1 10 rfl) (by decide) ?_
        refine iast_M7 (dG D_X5_put_1 11 rfl) (inr_nI (by omega) (by decide)) ?_
        refine V_goto (tgt := 128) (dG D_X5_put_1 12 rfl) (by decide) ?_
        refine V_aload_n (dG D_X5_put_1 22 rfl) rfl ?_
        refine V_iload (dG D_X5_put_1 23 rfl) rfl ?_
        refine V_iload_n (dG D_X5_put_1 24 rfl) rfl ?_
        refine R_vb2 (om_meets (by omega) (by omega) (by first | exact hw1.o40 hk | exact hw2.o40 hk) (by first | exact hw1.vm hk | exact hw2.vm hk)) lk_X5_153 (dG D_X5_put_1 25 rfl) rcv_5 ⟨Nat.le_of_ble_eq_true rfl, Nat.le_of_ble_eq_true rfl⟩ ⟨(Nat.le_of_ble_eq_true rfl), (Nat.le_of_ble_eq_true rfl)⟩ (by first | exact Nat.le_of_ble_eq_true rfl | simp [cat_rf, cat_int, cat_ref]) (fun h => ?_)
        refine V_istore (dG D_X5_put_1 26 rfl) (Nat.le_of_ble_eq_true rfl) ?_
        refine V_goto (tgt := 69) (dG D_X5_put_1 27 rfl) (by decide) ?_
        refine V_sub [0, 2, 3, 4, 6] rfl ?_
        exact ih ((s_meets t k (up (up M 23 z.toNatClampNeg (3 : Int32)) 7 k (-1 : Int32))).1) ((s_meets t k (up (up M 23 z.toNatClampNeg (3 : Int32)) 7 k (-1 : Int32))).2) (by first | exact ha.1 | exact hb.1) htN (by first | exact ha.2.1 | exact hb.2.1) (by first | exact fun q => meets_vp hw1 hk q | exact fun q => meets_vp hw2 hk q) (by first | exact (Nat.le_of_succ_le_succ (Nat.le_trans ha.2.2 hU)) | exact (Nat.le_of_succ_le_succ (Nat.le_trans hb.2.2 hU))) h
def s_put (t : Nat) (k : Nat) (v : Int32) (M : St) : Int32 × St := (if ((s_areThere (nI t) (nI k) M).1) = (0 : Int32) then ((0 : Int32), (s_areThere (nI t) (nI k) M).2) else (if (s_in v (0 : Int32) (1000 : Int32)) = (0 : Int32) then ((0 : Int32), (up (s_areThere (nI t) (nI k) M).2 31 0 (2 : Int32))) else (if ((s_opens t (nI k) (up (s_areThere (nI t) (nI k) M).2 31 0 (0 : Int32))).1) = (0 : Int32) then (s_put_69 t k v 41 ((s_meets t k (s_opens t (nI k) (up (s_areThere (nI t) (nI k) M).2 31 0 (0 : Int32))).2).1) ((s_meets t k (s_opens t (nI k) (up (s_areThere (nI t) (nI k) M).2 31 0 (0 : Int32))).2).2)) else ((s_opens t (nI k) (up (s_areThere (nI t) (nI k) M).2 31 0 (0 : Int32))).1, (s_opens t (nI k) (up (s_areThere (nI t) (nI k) M).2 31 0 (0 : Int32))).2))))
theorem om_put {g : GT} {nt : Nat} {C : St} {o : Int64} {t : Nat} {k : Nat} {v : Int32} {M : St} (ht : t < 40) (hk : k < 32) {N R : Nat} (hM : WM N R M) : RET g K_X5_put 0 0 [.ref (ad g 10), .int (nI t), .int (nI k), .int v] nt C M o (some (.int (s_put t k v M).1)) C (s_put t k v M).2 o := by
  refine MT_of (by decide +kernel) rfl rfl (Nat.le_of_ble_eq_true rfl) (by simp [cat_rf, cat_int, cat_ref]) (fun h => ?_)
  unfold s_put
  refine V_aload_n (dG D_X5_put_0 0 rfl) rfl ?_
  refine V_iload_n (dG D_X5_put_0 1 rfl) rfl ?_
  refine V_iload_n (dG D_X5_put_0 2 rfl) rfl ?_
  refine R_vb2 om_areThere lk_X5_163 (dG D_X5_put_0 3 rfl) rcv_5 ⟨Nat.le_of_ble_eq_true rfl, Nat.le_of_ble_eq_true rfl⟩ ⟨(Nat.le_of_ble_eq_true rfl), (Nat.le_of_ble_eq_true rfl)⟩ (by first | exact Nat.le_of_ble_eq_true rfl | simp [cat_rf, cat_int, cat_ref]) (fun h => ?_)
  refine V_if_ne (tgt := 11) (dG D_X5_put_0 4 rfl) (by decide) (fun c_6 => ?_) (fun c_6 => ?_)
  · try rw [if_neg c_6]
    have htN := aT_lt hM ht c_6
    refine V_aload_n (dG D_X5_put_0 7 rfl) rfl ?_
    refine V_iload_n (dG D_X5_put_0 8 rfl) rfl ?_
    refine V_iconst (v := 0) (dG D_X5_put_0 9 rfl) (by decide) ?_
    refine V_sipush (v := 1000) (dG D_X5_put_0 10 rfl) (by decide) ?_
    refine R_vs3 om_in lk_X5_96 (dG D_X5_put_0 11 rfl) ⟨Nat.le_of_ble_eq_true rfl, Nat.le_of_ble_eq_true rfl⟩ ⟨(Nat.le_of_ble_eq_true rfl), (Nat.le_of_ble_eq_true rfl)⟩ (by first | exact Nat.le_of_ble_eq_true rfl | simp [cat_rf, cat_int, cat_ref]) (fun h => ?_)
    refine V_if_eq (tgt := 27) (dG D_X5_put_0 12 rfl) (by decide) (fun c_20 => ?_) (fun c_20 => ?_)
    · try rw [if_pos c_20]
      refine V_iconst (v := 2) (dG D_X5_put_0 15 rfl) (by decide) ?_
      refine pf_X5_93 rfl (dG D_X5_put_0 16 rfl) ?_
      refine V_aload_n (dG D_X5_put_0 17 rfl) rfl ?_
      refine gf_X5_93 rfl (dG D_X5_put_0 18 rfl) ?_
      rw [up_eq]
      refine V_if_le (tgt := 40) (dG D_X5_put_0 19 rfl) (by decide) (fun c_35 => absurd c_35 (by decide)) (fun c_35 => ?_)
      refine V_iconst (v := 0) (dG D_X5_put_0 20 rfl) (by decide) ?_
      exact V_iret (dG D_X5_put_0 21 rfl) rfl (Nat.le_of_ble_eq_true rfl) (Nat.le_of_ble_eq_true rfl) ⟨by first | with_reducible rfl | rfl, rfl, by first | with_reducible rfl | rfl, rfl⟩
    · try rw [if_neg c_20]
      have hM1 : WM N R (up (s_areThere (nI t) (nI k) M).2 31 0 (0 : Int32)) := WM_up (WM_aT hM) (by decide)
      refine V_iconst (v := 0) (dG D_X5_put_0 13 rfl) (by decide) ?_
      refine V_goto (tgt := 28) (dG D_X5_put_0 14 rfl) (by decide) ?_
      refine pf_X5_93 rfl (dG D_X5_put_0 16 rfl) ?_
      refine V_aload_n (dG D_X5_put_0 17 rfl) rfl ?_
      refine gf_X5_93 rfl (dG D_X5_put_0 18 rfl) ?_
      rw [up_eq]
      refine V_if_le (tgt := 40) (dG D_X5_put_0 19 rfl) (by decide) (fun c_35 => ?_) (fun c_35 => absurd c_35 (by decide))
      refine V_iload_n (dG D_X5_put_0 22 rfl) rfl ?_
      refine V_istore (dG D_X5_put_0 23 rfl) (Nat.le_of_ble_eq_true rfl) ?_
      refine V_aload_n (dG D_X5_put_0 24 rfl) rfl ?_
      refine V_iload (dG D_X5_put_0 25 rfl) rfl ?_
      refine V_iload_n (dG D_X5_put_0 26 rfl) rfl ?_
      refine R_vb2 (om_opens (by omega) hM1.r1 hM1.r2 hM1.r hM1.no (hM1.ho _ ht)) lk_X5_167 (dG D_X5_put_0 27 rfl) rcv_5 ⟨Nat.le_of_ble_eq_true rfl, Nat.le_of_ble_eq_true rfl⟩ ⟨(Nat.le_of_ble_eq_true rfl), (Nat.le_of_ble_eq_true rfl)⟩ (by first | exact Nat.le_of_ble_eq_true rfl | simp [cat_rf, cat_int, cat_ref]) (fun h => ?_)
      refine V_istore (dG D_X5_put_0 28 rfl) (Nat.le_of_ble_eq_true rfl) ?_
      refine V_iload (dG D_X5_put_0 29 rfl) rfl ?_
      refine V_if_eq (tgt := 60) (dG D_X5_put_0 30 rfl) (by decide) (fun c_54 => ?_) (fun c_54 => ?_)
      · try rw [if_pos c_54]
        have hMo := WM_opens (t := t) (key := nI k) hM1
        have h0o : (s_opens t (nI k) (up (s_areThere (nI t) (nI k) M).2 31 0 (0 : Int32))).2 23 t = 0 := by rw [opens_row (by decide) (by decide) (by decide)]; exact op_st c_54
        refine V_aload_n (dG D_X5_put_0 33 rfl) rfl ?_
        refine V_iload (dG D_X5_put_0 34 rfl) rfl ?_
        refine V_iload_n (dG D_X5_put_0 35 rfl) rfl ?_
        refine R_vb2 (om_meets (by omega) (by omega) (hMo.o40 hk) (hMo.vm hk)) lk_X5_153 (dG D_X5_put_0 36 rfl) rcv_5 ⟨Nat.le_of_ble_eq_true rfl, Nat.le_of_ble_eq_true rfl⟩ ⟨(Nat.le_of_ble_eq_true rfl), (Nat.le_of_ble_eq_true rfl)⟩ (by first | exact Nat.le_of_ble_eq_true rfl | simp [cat_rf, cat_int, cat_ref]) (fun h => ?_)
        refine V_istore (dG D_X5_put_0 37 rfl) (Nat.le_of_ble_eq_true rfl) ?_
        refine V_sub [0, 2, 3, 4, 6] rfl ?_
        exact bm_put_69 ht hk  41 ((s_meets t k (s_opens t (nI k) (up (s_areThere (nI t) (nI k) M).2 31 0 (0 : Int32))).2).1) ((s_meets t k (s_opens t (nI k) (up (s_areThere (nI t) (nI k) M).2 31 0 (0 : Int32))).2).2) (WM_meets hMo hk) htN (by rw [meets_23 hMo hk]; exact h0o) (fun q => meets_vp hMo hk q) (Nat.le_trans cP_le (by have := hM.n; omega)) h
      · try rw [if_neg c_54]
        refine V_iload (dG D_X5_put_0 31 rfl) rfl ?_
        exact V_iret (dG D_X5_put_0 32 rfl) rfl (Nat.le_of_ble_eq_true rfl) (Nat.le_of_ble_eq_true rfl) ⟨by first | with_reducible rfl | rfl, rfl, by first | with_reducible rfl | rfl, rfl⟩
  · try rw [if_pos c_6]
    refine V_iconst (v := 0) (dG D_X5_put_0 5 rfl) (by decide) ?_
    exact V_iret (dG D_X5_put_0 6 rfl) rfl (Nat.le_of_ble_eq_true rfl) (Nat.le_of_ble_eq_true rfl) ⟨by first | with_reducible rfl | rfl, rfl, by first | with_reducible rfl | rfl, rfl⟩
