/-! the model's methods (2): nodes and ranges -/
set_option maxHeartbeats 60000
theorem covers_row {M : St} {k w : Nat} {s : Int32} (h1 : w ≠ 10) (h2 : w ≠ 11) : s_covers k s M w = M w := by
  unfold s_covers
  split
  · rfl
  · rw [up_row h2, up_row h1]
theorem asks_row {M : St} {n w : Nat} (h1 : w ≠ 2) : (s_asks n M).2 w = M w := by
  unfold s_asks
  exact up_row h1
def s_rangeOf_2 (key : Int32) : Nat → Nat → St → Int32
  | 0, r, M => (nI r)
  | n + 1, r, M => (if (M 4 0) ≤ ((nI r) + (1 : Int32)) then (nI r) else (if key < (M 5 (r + 1)) then (nI r) else (s_rangeOf_2 key n (r + 1) M)))
theorem bm_rangeOf_2 {g : GT} {nt : Nat} {C : St} {o : Int64}  {key : Int32} {R : Nat} (hR2 : R ≤ 32) : ∀ (n : Nat) (r : Nat) (M : St) (hi : R ≤ r + n + 1) (hq : r < 32) (hR : M 4 0 = nI R) (h : Nat × Nat), V g K_X5_rangeOf (kR K_X5_rangeOf 0 0) (qM g 0 0 nt (fun v9 C9 M9 o9 => v9 = some (.int (s_rangeOf_2 key n r M)) ∧ C9 = C ∧ M9 = M ∧ o9 = o) (fun _ _ _ _ => False)) 0 0 nt h C M o 2 [(0, .ref (ad g 10)), (1, .int key), (2, .int (nI r))] [] := by
  intro n
  induction n with
  | zero =>
    intro r M hi hq hR h
    unfold s_rangeOf_2
    refine V_iload_n (dG D_X5_rangeOf 2 rfl) rfl ?_
    refine V_iconst (v := 1) (dG D_X5_rangeOf 3 rfl) (by decide) ?_
    refine V_iadd (dG D_X5_rangeOf 4 rfl) ?_
    refine V_aload_n (dG D_X5_rangeOf 5 rfl) rfl ?_
    refine gf_X5_20 rfl (dG D_X5_rangeOf 6 rfl) ?_
    refine V_icmp_ge (tgt := 30) (dG D_X5_rangeOf 7 rfl) (by decide) (fun c_9 => ?_) (fun c_9 => absurd (by rw [hR, nI_1]; exact nI_le (by omega) (by omega)) c_9)
    refine V_iload_n (dG D_X5_rangeOf 18 rfl) rfl ?_
    exact V_iret (dG D_X5_rangeOf 19 rfl) rfl (Nat.le_of_ble_eq_true rfl) (Nat.le_of_ble_eq_true rfl) ⟨by first | with_reducible rfl | rfl, rfl, by first | with_reducible rfl | rfl, rfl⟩
  | succ n ih =>
    intro r M hi hq hR h
    unfold s_rangeOf_2
    refine V_iload_n (dG D_X5_rangeOf 2 rfl) rfl ?_
    refine V_iconst (v := 1) (dG D_X5_rangeOf 3 rfl) (by decide) ?_
    refine V_iadd (dG D_X5_rangeOf 4 rfl) ?_
    refine V_aload_n (dG D_X5_rangeOf 5 rfl) rfl ?_
    refine gf_X5_20 rfl (dG D_X5_rangeOf 6 rfl) ?_
    refine V_icmp_ge (tgt := 30) (dG D_X5_rangeOf 7 rfl) (by decide) (fun c_9 => ?_) (fun c_9 => ?_)
    · try rw [if_pos c_9]
      refine V_iload_n (dG D_X5_rangeOf 18 rfl) rfl ?_
      exact V_iret (dG D_X5_rangeOf 19 rfl) rfl (Nat.le_of_ble_eq_true rfl) (Nat.le_of_ble_eq_true rfl) ⟨by first | with_reducible rfl | rfl, rfl, by first | with_reducible rfl | rfl, rfl⟩
    · try rw [if_neg c_9]
      have hr : r + 1 < R := by rw [hR, nI_1] at c_9; exact nltI c_9 (by omega)
      refine V_aload_n (dG D_X5_rangeOf 8 rfl) rfl ?_
      refine gf_X5_24 rfl (dG D_X5_rangeOf 9 rfl) ?_
      refine V_iload_n (dG D_X5_rangeOf 10 rfl) rfl ?_
      refine V_iconst (v := 1) (dG D_X5_rangeOf 11 rfl) (by decide) ?_
      refine V_iadd (dG D_X5_rangeOf 12 rfl) ?_
      refine iald_M5 (dG D_X5_rangeOf 13 rfl) (show inr ((nI r) + (1 : Int32)) 32 (r + 1) from by rw [(nI_1 _)]; exact inr_nI (by omega) (by decide)) ?_
      refine V_iload_n (dG D_X5_rangeOf 14 rfl) rfl ?_
      refine V_icmp_gt (tgt := 30) (dG D_X5_rangeOf 15 rfl) (by decide) (fun c_21 => ?_) (fun c_21 => ?_)
      · try rw [if_pos c_21]
        refine V_iload_n (dG D_X5_rangeOf 18 rfl) rfl ?_
        exact V_iret (dG D_X5_rangeOf 19 rfl) rfl (Nat.le_of_ble_eq_true rfl) (Nat.le_of_ble_eq_true rfl) ⟨by first | with_reducible rfl | rfl, rfl, by first | with_reducible rfl | rfl, rfl⟩
      · try rw [if_neg c_21]
        refine V_iinc (dG D_X5_rangeOf 16 rfl) rfl (inc1 _) (Nat.le_of_ble_eq_true rfl) ?_
        refine V_goto (tgt := 2) (dG D_X5_rangeOf 17 rfl) (by decide) ?_
        refine V_sub [0, 1, 2] rfl ?_
        exact ih (r + 1) M (by omega) (by omega) hR h
def s_rangeOf (key : Int32) (M : St) : Int32 := (s_rangeOf_2 key 31 0 M)
theorem om_rangeOf {g : GT} {nt : Nat} {C : St} {o : Int64} {key : Int32} {M : St} {R : Nat} (hR2 : R ≤ 32) (hR : M 4 0 = nI R) : RET g K_X5_rangeOf 0 0 [.ref (ad g 10), .int key] nt C M o (some (.int (s_rangeOf key M))) C M o := by
  refine MT_of (by decide +kernel) rfl rfl (Nat.le_of_ble_eq_true rfl) (by simp [cat_rf, cat_int, cat_ref]) (fun h => ?_)
  unfold s_rangeOf
  refine V_iconst (v := 0) (dG D_X5_rangeOf 0 rfl) (by decide) ?_
  refine V_istore_n (dG D_X5_rangeOf 1 rfl) (Nat.le_of_ble_eq_true rfl) ?_
  refine V_sub [0, 1, 2] rfl ?_
  exact bm_rangeOf_2 hR2  31 0 M (by omega) (by omega) hR h
theorem ro_val {M : St} {key : Int32} {R : Nat} (hR2 : R ≤ 32) (hR : M 4 0 = nI R) : ∀ {n r : Nat}, r < R → ∃ r', s_rangeOf_2 key n r M = nI r' ∧ r ≤ r' ∧ r' < R
  | 0, r, h => ⟨r, rfl, Nat.le_refl _, h⟩
  | n + 1, r, h => by
    unfold s_rangeOf_2
    split
    · exact ⟨r, rfl, Nat.le_refl _, h⟩
    · rename_i c
      have hr : r + 1 < R := by rw [hR, nI_1] at c; exact nltI c (by omega)
      split
      · exact ⟨r, rfl, Nat.le_refl _, h⟩
      · obtain ⟨q, q1, q2, q3⟩ := ro_val (n := n) hR2 hR hr
        exact ⟨q, q1, by omega, q3⟩
theorem ro_vp {M : St} {key : Int32} {R : Nat} (hR1 : 1 ≤ R) (hR2 : R ≤ 32) (hR : M 4 0 = nI R) : vp_in (s_rangeOf key M) 32 := by
  obtain ⟨r, q1, q2, q3⟩ := ro_val (key := key) (n := 31) hR2 hR (show 0 < R by omega)
  unfold s_rangeOf
  rw [q1]
  exact vp_in_nI (by omega) (by decide)
def s_nodeOf (key : Int32) (M : St) : Int32 := (M 6 ((s_rangeOf key M).toNatClampNeg))
theorem om_nodeOf {g : GT} {nt : Nat} {C : St} {o : Int64} {key : Int32} {M : St} {R : Nat} (hR1 : 1 ≤ R) (hR2 : R ≤ 32) (hR : M 4 0 = nI R) : RET g K_X5_nodeOf 0 0 [.ref (ad g 10), .int key] nt C M o (some (.int (s_nodeOf key M))) C M o := by
  refine MT_of (by decide +kernel) rfl rfl (Nat.le_of_ble_eq_true rfl) (by simp [cat_rf, cat_int, cat_ref]) (fun h => ?_)
  unfold s_nodeOf
  refine V_aload_n (dG D_X5_nodeOf 0 rfl) rfl ?_
  refine gf_X5_27 rfl (dG D_X5_nodeOf 1 rfl) ?_
  refine V_aload_n (dG D_X5_nodeOf 2 rfl) rfl ?_
  refine V_iload_n (dG D_X5_nodeOf 3 rfl) rfl ?_
  refine R_vb1 (om_rangeOf hR2 hR) lk_X5_115 (dG D_X5_nodeOf 4 rfl) rcv_5 ⟨Nat.le_of_ble_eq_true rfl, Nat.le_of_ble_eq_true rfl⟩ ⟨(Nat.le_of_ble_eq_true rfl), (Nat.le_of_ble_eq_true rfl)⟩ (by first | exact Nat.le_of_ble_eq_true rfl | simp [cat_rf, cat_int, cat_ref]) (fun h => ?_)
  refine iald_M6 (dG D_X5_nodeOf 5 rfl) (inr_of (ro_vp hR1 hR2 hR)) ?_
  exact V_iret (dG D_X5_nodeOf 6 rfl) rfl (Nat.le_of_ble_eq_true rfl) (Nat.le_of_ble_eq_true rfl) ⟨by first | with_reducible rfl | rfl, rfl, by first | with_reducible rfl | rfl, rfl⟩
def s_down_51 (x : Int32) : Nat → Int32 → Nat → St → Int32 × St
  | 0, c, i, M => (c, M)
  | n + 1, c, i, M => (if (s_nodeOf (nI i) M) = x then (if (M 7 i) = (-1 : Int32) then (s_down_51 x n c (i + 1) M) else (if (M 8 i) = (0 : Int32) then (s_down_51 x n (c + (1 : Int32)) (i + 1) (up M 7 i (-1 : Int32))) else (s_down_51 x n c (i + 1) M))) else (s_down_51 x n c (i + 1) M))
theorem bm_down_51 {g : GT} {nt : Nat} {C : St} {o : Int64}  {x : Int32} {R : Nat} (hR1 : 1 ≤ R) (hR2 : R ≤ 32) : ∀ (n : Nat) (c : Int32) (i : Nat) (M : St) (hi : i + n = 32) (hR : M 4 0 = nI R) (h : Nat × Nat), V g K_X5_down (kR K_X5_down 0 0) (qM g 0 0 nt (fun v9 C9 M9 o9 => v9 = some (.int (s_down_51 x n c i M).1) ∧ C9 = C ∧ M9 = (s_down_51 x n c i M).2 ∧ o9 = o) (fun _ _ _ _ => False)) 0 0 nt h C M o 51 [(0, .ref (ad g 10)), (1, .int x), (2, .int c), (3, .int (nI i))] [] := by
  intro n
  induction n with
  | zero =>
    intro c i M hi hR h
    unfold s_down_51
    refine V_iload_n (dG D_X5_down 31 rfl) rfl ?_
    refine V_bipush (v := 32) (dG D_X5_down 32 rfl) (by decide) ?_
    refine V_icmp_ge (tgt := 101) (dG D_X5_down 33 rfl) (by decide) (fun c_54 => ?_) (fun c_54 => absurd (l32 (by omega)) c_54)
    refine V_iload_n (dG D_X5_down 58 rfl) rfl ?_
    exact V_iret (dG D_X5_down 59 rfl) rfl (Nat.le_of_ble_eq_true rfl) (Nat.le_of_ble_eq_true rfl) ⟨by first | with_reducible rfl | rfl, rfl, by first | with_reducible rfl | rfl, rfl⟩
  | succ n ih =>
    intro c i M hi hR h
    unfold s_down_51
    refine V_iload_n (dG D_X5_down 31 rfl) rfl ?_
    refine V_bipush (v := 32) (dG D_X5_down 32 rfl) (by decide) ?_
    refine V_icmp_ge (tgt := 101) (dG D_X5_down 33 rfl) (by decide) (fun c_54 => absurd c_54 (g32 (by omega))) (fun c_54 => ?_)
    refine V_aload_n (dG D_X5_down 34 rfl) rfl ?_
    refine V_iload_n (dG D_X5_down 35 rfl) rfl ?_
    refine R_vb1 (om_nodeOf hR1 hR2 hR) lk_X5_118 (dG D_X5_down 36 rfl) rcv_5 ⟨Nat.le_of_ble_eq_true rfl, Nat.le_of_ble_eq_true rfl⟩ ⟨(Nat.le_of_ble_eq_true rfl), (Nat.le_of_ble_eq_true rfl)⟩ (by first | exact Nat.le_of_ble_eq_true rfl | simp [cat_rf, cat_int, cat_ref]) (fun h => ?_)
    refine V_iload_n (dG D_X5_down 37 rfl) rfl ?_
    refine V_icmp_ne (tgt := 95) (dG D_X5_down 38 rfl) (by decide) (fun c_63 => ?_) (fun c_63 => ?_)
    · try rw [if_neg c_63]
      refine V_iinc (dG D_X5_down 56 rfl) rfl (inc1 _) (Nat.le_of_ble_eq_true rfl) ?_
      refine V_goto (tgt := 51) (dG D_X5_down 57 rfl) (by decide) ?_
      refine V_sub [0, 1, 2, 3] rfl ?_
      exact ih c (i + 1) M (by omega) (by first | exact hR | (rw [up_row (by decide)]; exact hR) | (rw [up_row (by decide), up_row (by decide)]; exact hR) | (rw [up_row (by decide), up_row (by decide), up_row (by decide)]; exact hR) | (rw [covers_row (by decide) (by decide)]; exact hR) | (rw [asks_row (by decide), up_row (by decide), up_row (by decide)]; exact hR)) h
    · try rw [if_pos c_63]
      refine V_aload_n (dG D_X5_down 39 rfl) rfl ?_
      refine gf_X5_30 rfl (dG D_X5_down 40 rfl) ?_
      refine V_iload_n (dG D_X5_down 41 rfl) rfl ?_
      refine iald_M7 (dG D_X5_down 42 rfl) (inr_nI (by omega) (by decide)) ?_
      refine V_iconst (v := -1) (dG D_X5_down 43 rfl) (by decide) ?_
      refine V_icmp_eq (tgt := 95) (dG D_X5_down 44 rfl) (by decide) (fun c_73 => ?_) (fun c_73 => ?_)
      · try rw [if_pos c_73]
        refine V_iinc (dG D_X5_down 56 rfl) rfl (inc1 _) (Nat.le_of_ble_eq_true rfl) ?_
        refine V_goto (tgt := 51) (dG D_X5_down 57 rfl) (by decide) ?_
        refine V_sub [0, 1, 2, 3] rfl ?_
        exact ih c (i + 1) M (by omega) (by first | exact hR | (rw [up_row (by decide)]; exact hR) | (rw [up_row (by decide), up_row (by decide)]; exact hR) | (rw [up_row (by decide), up_row (by decide), up_row (by decide)]; exact hR) | (rw [covers_row (by decide) (by decide)]; exact hR) | (rw [asks_row (by decide), up_row (by decide), up_row (by decide)]; exact hR)) h
      · try rw [if_neg c_73]
        refine V_aload_n (dG D_X5_down 45 rfl) rfl ?_
        refine gf_X5_33 rfl (dG D_X5_down 46 rfl) ?_
        refine V_iload_n (dG D_X5_down 47 rfl) rfl ?_
        refine zald_M8 (dG D_X5_down 48 rfl) (inr_nI (by omega) (by decide)) ?_
        refine V_if_ne (tgt := 95) (dG D_X5_down 49 rfl) (by decide) (fun c_82 => ?_) (fun c_82 => ?_)
        · try rw [if_neg c_82]
          refine V_iinc (dG D_X5_down 56 rfl) rfl (inc1 _) (Nat.le_of_ble_eq_true rfl) ?_
          refine V_goto (tgt := 51) (dG D_X5_down 57 rfl) (by decide) ?_
          refine V_sub [0, 1, 2, 3] rfl ?_
          exact ih c (i + 1) M (by omega) (by first | exact hR | (rw [up_row (by decide)]; exact hR) | (rw [up_row (by decide), up_row (by decide)]; exact hR) | (rw [up_row (by decide), up_row (by decide), up_row (by decide)]; exact hR) | (rw [covers_row (by decide) (by decide)]; exact hR) | (rw [asks_row (by decide), up_row (by decide), up_row (by decide)]; exact hR)) h
        · try rw [if_pos c_82]
          refine V_aload_n (dG D_X5_down 50 rfl) rfl ?_
          refine gf_X5_30 rfl (dG D_X5_down 51 rfl) ?_
          refine V_iload_n (dG D_X5_down 52 rfl) rfl ?_
          refine V_iconst (v := -1) (dG D_X5_down 53 rfl) (by decide) ?_
          refine iast_M7 (dG D_X5_down 54 rfl) (inr_nI (by omega) (by decide)) ?_
          refine V_iinc (dG D_X5_down 55 rfl) rfl rfl (Nat.le_of_ble_eq_true rfl) ?_
          refine V_iinc (dG D_X5_down 56 rfl) rfl (inc1 _) (Nat.le_of_ble_eq_true rfl) ?_
          refine V_goto (tgt := 51) (dG D_X5_down 57 rfl) (by decide) ?_
          refine V_sub [0, 1, 2, 3] rfl ?_
          exact ih (c + (1 : Int32)) (i + 1) (up M 7 i (-1 : Int32)) (by omega) (by first | exact hR | (rw [up_row (by decide)]; exact hR) | (rw [up_row (by decide), up_row (by decide)]; exact hR) | (rw [up_row (by decide), up_row (by decide), up_row (by decide)]; exact hR) | (rw [covers_row (by decide) (by decide)]; exact hR) | (rw [asks_row (by decide), up_row (by decide), up_row (by decide)]; exact hR)) h
def s_down (x : Int32) (M : St) : Int32 × St := (if (s_in x (0 : Int32) (3 : Int32)) = (0 : Int32) then ((0 : Int32), (up M 31 0 (1 : Int32))) else (if (M 3 x.toNatClampNeg) = (0 : Int32) then (s_down_51 x 32 (0 : Int32) 0 (up (up M 31 0 (0 : Int32)) 3 x.toNatClampNeg (1 : Int32))) else ((0 : Int32), (up M 31 0 (2 : Int32)))))
theorem om_down {g : GT} {nt : Nat} {C : St} {o : Int64} {x : Int32} {M : St} {R : Nat} (hR1 : 1 ≤ R) (hR2 : R ≤ 32) (hR : M 4 0 = nI R) : RET g K_X5_down 0 0 [.ref (ad g 10), .int x] nt C M o (some (.int (s_down x M).1)) C (s_down x M).2 o := by
  refine MT_of (by decide +kernel) rfl rfl (Nat.le_of_ble_eq_true rfl) (by simp [cat_rf, cat_int, cat_ref]) (fun h => ?_)
  unfold s_down
  refine V_aload_n (dG D_X5_down 0 rfl) rfl ?_
  refine V_iload_n (dG D_X5_down 1 rfl) rfl ?_
  refine V_iconst (v := 0) (dG D_X5_down 2 rfl) (by decide) ?_
  refine V_iconst (v := 3) (dG D_X5_down 3 rfl) (by decide) ?_
  refine R_vs3 om_in lk_X5_96 (dG D_X5_down 4 rfl) ⟨Nat.le_of_ble_eq_true rfl, Nat.le_of_ble_eq_true rfl⟩ ⟨(Nat.le_of_ble_eq_true rfl), (Nat.le_of_ble_eq_true rfl)⟩ (by first | exact Nat.le_of_ble_eq_true rfl | simp [cat_rf, cat_int, cat_ref]) (fun h => ?_)
  refine V_if_ne (tgt := 14) (dG D_X5_down 5 rfl) (by decide) (fun c_7 => ?_) (fun c_7 => ?_)
  · try rw [if_neg c_7]
    refine V_aload_n (dG D_X5_down 8 rfl) rfl ?_
    refine gf_X5_16 rfl (dG D_X5_down 9 rfl) ?_
    refine V_iload_n (dG D_X5_down 10 rfl) rfl ?_
    refine zald_M3 (dG D_X5_down 11 rfl) (inr_of (in03 c_7)) ?_
    refine V_if_eq (tgt := 27) (dG D_X5_down 12 rfl) (by decide) (fun c_20 => ?_) (fun c_20 => ?_)
    · try rw [if_pos c_20]
      refine V_iconst (v := 0) (dG D_X5_down 15 rfl) (by decide) ?_
      refine pf_X5_93 rfl (dG D_X5_down 16 rfl) ?_
      refine V_aload_n (dG D_X5_down 17 rfl) rfl ?_
      refine gf_X5_93 rfl (dG D_X5_down 18 rfl) ?_
      rw [up_eq]
      refine V_if_le (tgt := 40) (dG D_X5_down 19 rfl) (by decide) (fun c_35 => ?_) (fun c_35 => absurd c_35 (by decide))
      refine V_aload_n (dG D_X5_down 22 rfl) rfl ?_
      refine gf_X5_16 rfl (dG D_X5_down 23 rfl) ?_
      refine V_iload_n (dG D_X5_down 24 rfl) rfl ?_
      refine V_iconst (v := 1) (dG D_X5_down 25 rfl) (by decide) ?_
      refine zast_M3 (dG D_X5_down 26 rfl) (inr_of (in03 c_7)) rfl ?_
      refine V_iconst (v := 0) (dG D_X5_down 27 rfl) (by decide) ?_
      refine V_istore_n (dG D_X5_down 28 rfl) (Nat.le_of_ble_eq_true rfl) ?_
      refine V_iconst (v := 0) (dG D_X5_down 29 rfl) (by decide) ?_
      refine V_istore_n (dG D_X5_down 30 rfl) (Nat.le_of_ble_eq_true rfl) ?_
      refine V_sub [0, 1, 2, 3] rfl ?_
      exact bm_down_51 hR1 hR2  32 (0 : Int32) 0 (up (up M 31 0 (0 : Int32)) 3 x.toNatClampNeg (1 : Int32)) (by omega) (by first | exact hR | (rw [up_row (by decide)]; exact hR) | (rw [up_row (by decide), up_row (by decide)]; exact hR) | (rw [up_row (by decide), up_row (by decide), up_row (by decide)]; exact hR) | (rw [covers_row (by decide) (by decide)]; exact hR) | (rw [asks_row (by decide), up_row (by decide), up_row (by decide)]; exact hR)) h
    · try rw [if_neg c_20]
      refine V_iconst (v := 2) (dG D_X5_down 13 rfl) (by decide) ?_
      refine V_goto (tgt := 28) (dG D_X5_down 14 rfl) (by decide) ?_
      refine pf_X5_93 rfl (dG D_X5_down 16 rfl) ?_
      refine V_aload_n (dG D_X5_down 17 rfl) rfl ?_
      refine gf_X5_93 rfl (dG D_X5_down 18 rfl) ?_
      rw [up_eq]
      refine V_if_le (tgt := 40) (dG D_X5_down 19 rfl) (by decide) (fun c_35 => absurd c_35 (by decide)) (fun c_35 => ?_)
      refine V_iconst (v := 0) (dG D_X5_down 20 rfl) (by decide) ?_
      exact V_iret (dG D_X5_down 21 rfl) rfl (Nat.le_of_ble_eq_true rfl) (Nat.le_of_ble_eq_true rfl) ⟨by first | with_reducible rfl | rfl, rfl, by first | with_reducible rfl | rfl, rfl⟩
  · try rw [if_pos c_7]
    refine V_iconst (v := 1) (dG D_X5_down 6 rfl) (by decide) ?_
    refine V_goto (tgt := 28) (dG D_X5_down 7 rfl) (by decide) ?_
    refine pf_X5_93 rfl (dG D_X5_down 16 rfl) ?_
    refine V_aload_n (dG D_X5_down 17 rfl) rfl ?_
    refine gf_X5_93 rfl (dG D_X5_down 18 rfl) ?_
    rw [up_eq]
    refine V_if_le (tgt := 40) (dG D_X5_down 19 rfl) (by decide) (fun c_35 => absurd c_35 (by decide)) (fun c_35 => ?_)
    refine V_iconst (v := 0) (dG D_X5_down 20 rfl) (by decide) ?_
    exact V_iret (dG D_X5_down 21 rfl) rfl (Nat.le_of_ble_eq_true rfl) (Nat.le_of_ble_eq_true rfl) ⟨by first | with_reducible rfl | rfl, rfl, by first | with_reducible rfl | rfl, rfl⟩
def s_up_55 (x : Int32) : Nat → Int32 → Nat → St → Int32 × St
  | 0, c, i, M => (c, M)
  | n + 1, c, i, M => (if (s_nodeOf (nI i) M) = x then (s_up_55 x n c (i + 1) (s_covers i c M)) else (s_up_55 x n c (i + 1) M))
theorem bm_up_55 {g : GT} {nt : Nat} {C : St} {o : Int64}  {x : Int32} {R : Nat} (hR1 : 1 ≤ R) (hR2 : R ≤ 32) : ∀ (n : Nat) (c : Int32) (i : Nat) (M : St) (hi : i + n = 32) (hR : M 4 0 = nI R) (h : Nat × Nat), V g K_X5_up (kR K_X5_up 0 0) (qM g 0 0 nt (fun v9 C9 M9 o9 => v9 = some (.int (s_up_55 x n c i M).1) ∧ C9 = C ∧ M9 = (s_up_55 x n c i M).2 ∧ o9 = o) (fun _ _ _ _ => False)) 0 0 nt h C M o 55 [(0, .ref (ad g 10)), (1, .int x), (2, .int c), (3, .int (nI i))] [] := by
  intro n
  induction n with
  | zero =>
    intro c i M hi hR h
    unfold s_up_55
    refine V_iload_n (dG D_X5_up 33 rfl) rfl ?_
    refine V_bipush (v := 32) (dG D_X5_up 34 rfl) (by decide) ?_
    refine V_icmp_ge (tgt := 82) (dG D_X5_up 35 rfl) (by decide) (fun c_58 => ?_) (fun c_58 => absurd (l32 (by omega)) c_58)
    refine V_iload_n (dG D_X5_up 47 rfl) rfl ?_
    exact V_iret (dG D_X5_up 48 rfl) rfl (Nat.le_of_ble_eq_true rfl) (Nat.le_of_ble_eq_true rfl) ⟨by first | with_reducible rfl | rfl, rfl, by first | with_reducible rfl | rfl, rfl⟩
  | succ n ih =>
    intro c i M hi hR h
    unfold s_up_55
    refine V_iload_n (dG D_X5_up 33 rfl) rfl ?_
    refine V_bipush (v := 32) (dG D_X5_up 34 rfl) (by decide) ?_
    refine V_icmp_ge (tgt := 82) (dG D_X5_up 35 rfl) (by decide) (fun c_58 => absurd c_58 (g32 (by omega))) (fun c_58 => ?_)
    refine V_aload_n (dG D_X5_up 36 rfl) rfl ?_
    refine V_iload_n (dG D_X5_up 37 rfl) rfl ?_
    refine R_vb1 (om_nodeOf hR1 hR2 hR) lk_X5_118 (dG D_X5_up 38 rfl) rcv_5 ⟨Nat.le_of_ble_eq_true rfl, Nat.le_of_ble_eq_true rfl⟩ ⟨(Nat.le_of_ble_eq_true rfl), (Nat.le_of_ble_eq_true rfl)⟩ (by first | exact Nat.le_of_ble_eq_true rfl | simp [cat_rf, cat_int, cat_ref]) (fun h => ?_)
    refine V_iload_n (dG D_X5_up 39 rfl) rfl ?_
    refine V_icmp_ne (tgt := 76) (dG D_X5_up 40 rfl) (by decide) (fun c_67 => ?_) (fun c_67 => ?_)
    · try rw [if_neg c_67]
      refine V_iinc (dG D_X5_up 45 rfl) rfl (inc1 _) (Nat.le_of_ble_eq_true rfl) ?_
      refine V_goto (tgt := 55) (dG D_X5_up 46 rfl) (by decide) ?_
      refine V_sub [0, 1, 2, 3] rfl ?_
      exact ih c (i + 1) M (by omega) (by first | exact hR | (rw [up_row (by decide)]; exact hR) | (rw [up_row (by decide), up_row (by decide)]; exact hR) | (rw [up_row (by decide), up_row (by decide), up_row (by decide)]; exact hR) | (rw [covers_row (by decide) (by decide)]; exact hR) | (rw [asks_row (by decide), up_row (by decide), up_row (by decide)]; exact hR)) h
    · try rw [if_pos c_67]
      refine V_aload_n (dG D_X5_up 41 rfl) rfl ?_
      refine V_iload_n (dG D_X5_up 42 rfl) rfl ?_
      refine V_iload_n (dG D_X5_up 43 rfl) rfl ?_
      refine R_nb2 (om_covers (by omega) ) lk_X5_121 (dG D_X5_up 44 rfl) rcv_5 ⟨Nat.le_of_ble_eq_true rfl, Nat.le_of_ble_eq_true rfl⟩ ⟨(Nat.le_of_ble_eq_true rfl), (Nat.le_of_ble_eq_true rfl)⟩ (by first | exact Nat.le_of_ble_eq_true rfl | simp [cat_rf, cat_int, cat_ref]) (fun h => ?_)
      refine V_iinc (dG D_X5_up 45 rfl) rfl (inc1 _) (Nat.le_of_ble_eq_true rfl) ?_
      refine V_goto (tgt := 55) (dG D_X5_up 46 rfl) (by decide) ?_
      refine V_sub [0, 1, 2, 3] rfl ?_
      exact ih c (i + 1) (s_covers i c M) (by omega) (by first | exact hR | (rw [up_row (by decide)]; exact hR) | (rw [up_row (by decide), up_row (by decide)]; exact hR) | (rw [up_row (by decide), up_row (by decide), up_row (by decide)]; exact hR) | (rw [covers_row (by decide) (by decide)]; exact hR) | (rw [asks_row (by decide), up_row (by decide), up_row (by decide)]; exact hR)) h
def s_up (x : Int32) (M : St) : Int32 × St := (if (s_in x (0 : Int32) (3 : Int32)) = (0 : Int32) then ((0 : Int32), (up M 31 0 (1 : Int32))) else (if (M 3 x.toNatClampNeg) = (0 : Int32) then ((0 : Int32), (up M 31 0 (2 : Int32))) else (s_up_55 x 32 ((s_asks x.toNatClampNeg (up (up M 31 0 (0 : Int32)) 3 x.toNatClampNeg (0 : Int32))).1) 0 ((s_asks x.toNatClampNeg (up (up M 31 0 (0 : Int32)) 3 x.toNatClampNeg (0 : Int32))).2))))
theorem om_up {g : GT} {nt : Nat} {C : St} {o : Int64} {x : Int32} {M : St} {R : Nat} (hR1 : 1 ≤ R) (hR2 : R ≤ 32) (hR : M 4 0 = nI R) : RET g K_X5_up 0 0 [.ref (ad g 10), .int x] nt C M o (some (.int (s_up x M).1)) C (s_up x M).2 o := by
  refine MT_of (by decide +kernel) rfl rfl (Nat.le_of_ble_eq_true rfl) (by simp [cat_rf, cat_int, cat_ref]) (fun h => ?_)
  unfold s_up
  refine V_aload_n (dG D_X5_up 0 rfl) rfl ?_
  refine V_iload_n (dG D_X5_up 1 rfl) rfl ?_
  refine V_iconst (v := 0) (dG D_X5_up 2 rfl) (by decide) ?_
  refine V_iconst (v := 3) (dG D_X5_up 3 rfl) (by decide) ?_
  refine R_vs3 om_in lk_X5_96 (dG D_X5_up 4 rfl) ⟨Nat.le_of_ble_eq_true rfl, Nat.le_of_ble_eq_true rfl⟩ ⟨(Nat.le_of_ble_eq_true rfl), (Nat.le_of_ble_eq_true rfl)⟩ (by first | exact Nat.le_of_ble_eq_true rfl | simp [cat_rf, cat_int, cat_ref]) (fun h => ?_)
  refine V_if_ne (tgt := 14) (dG D_X5_up 5 rfl) (by decide) (fun c_7 => ?_) (fun c_7 => ?_)
  · try rw [if_neg c_7]
    refine V_aload_n (dG D_X5_up 8 rfl) rfl ?_
    refine gf_X5_16 rfl (dG D_X5_up 9 rfl) ?_
    refine V_iload_n (dG D_X5_up 10 rfl) rfl ?_
    refine zald_M3 (dG D_X5_up 11 rfl) (inr_of (in03 c_7)) ?_
    refine V_if_ne (tgt := 27) (dG D_X5_up 12 rfl) (by decide) (fun c_20 => ?_) (fun c_20 => ?_)
    · try rw [if_neg c_20]
      refine V_iconst (v := 0) (dG D_X5_up 15 rfl) (by decide) ?_
      refine pf_X5_93 rfl (dG D_X5_up 16 rfl) ?_
      refine V_aload_n (dG D_X5_up 17 rfl) rfl ?_
      refine gf_X5_93 rfl (dG D_X5_up 18 rfl) ?_
      rw [up_eq]
      refine V_if_le (tgt := 40) (dG D_X5_up 19 rfl) (by decide) (fun c_35 => ?_) (fun c_35 => absurd c_35 (by decide))
      refine V_aload_n (dG D_X5_up 22 rfl) rfl ?_
      refine gf_X5_16 rfl (dG D_X5_up 23 rfl) ?_
      refine V_iload_n (dG D_X5_up 24 rfl) rfl ?_
      refine V_iconst (v := 0) (dG D_X5_up 25 rfl) (by decide) ?_
      refine zast_M3 (dG D_X5_up 26 rfl) (inr_of (in03 c_7)) rfl ?_
      refine V_aload_n (dG D_X5_up 27 rfl) rfl ?_
      refine V_iload_n (dG D_X5_up 28 rfl) rfl ?_
      refine R_vb1 (ox_asks_1 (in03 c_7) ) lk_X5_107 (dG D_X5_up 29 rfl) rcv_5 ⟨Nat.le_of_ble_eq_true rfl, Nat.le_of_ble_eq_true rfl⟩ ⟨(Nat.le_of_ble_eq_true rfl), (Nat.le_of_ble_eq_true rfl)⟩ (by first | exact Nat.le_of_ble_eq_true rfl | simp [cat_rf, cat_int, cat_ref]) (fun h => ?_)
      refine V_istore_n (dG D_X5_up 30 rfl) (Nat.le_of_ble_eq_true rfl) ?_
      refine V_iconst (v := 0) (dG D_X5_up 31 rfl) (by decide) ?_
      refine V_istore_n (dG D_X5_up 32 rfl) (Nat.le_of_ble_eq_true rfl) ?_
      refine V_sub [0, 1, 2, 3] rfl ?_
      exact bm_up_55 hR1 hR2  32 ((s_asks x.toNatClampNeg (up (up M 31 0 (0 : Int32)) 3 x.toNatClampNeg (0 : Int32))).1) 0 ((s_asks x.toNatClampNeg (up (up M 31 0 (0 : Int32)) 3 x.toNatClampNeg (0 : Int32))).2) (by omega) (by first | exact hR | (rw [up_row (by decide)]; exact hR) | (rw [up_row (by decide), up_row (by decide)]; exact hR) | (rw [up_row (by decide), up_row (by decide), up_row (by decide)]; exact hR) | (rw [covers_row (by decide) (by decide)]; exact hR) | (rw [asks_row (by decide), up_row (by decide), up_row (by decide)]; exact hR)) h
    · try rw [if_pos c_20]
      refine V_iconst (v := 2) (dG D_X5_up 13 rfl) (by decide) ?_
      refine V_goto (tgt := 28) (dG D_X5_up 14 rfl) (by decide) ?_
      refine pf_X5_93 rfl (dG D_X5_up 16 rfl) ?_
      refine V_aload_n (dG D_X5_up 17 rfl) rfl ?_
      refine gf_X5_93 rfl (dG D_X5_up 18 rfl) ?_
      rw [up_eq]
      refine V_if_le (tgt := 40) (dG D_X5_up 19 rfl) (by decide) (fun c_35 => absurd c_35 (by decide)) (fun c_35 => ?_)
      refine V_iconst (v := 0) (dG D_X5_up 20 rfl) (by decide) ?_
      exact V_iret (dG D_X5_up 21 rfl) rfl (Nat.le_of_ble_eq_true rfl) (Nat.le_of_ble_eq_true rfl) ⟨by first | with_reducible rfl | rfl, rfl, by first | with_reducible rfl | rfl, rfl⟩
  · try rw [if_pos c_7]
    refine V_iconst (v := 1) (dG D_X5_up 6 rfl) (by decide) ?_
    refine V_goto (tgt := 28) (dG D_X5_up 7 rfl) (by decide) ?_
    refine pf_X5_93 rfl (dG D_X5_up 16 rfl) ?_
    refine V_aload_n (dG D_X5_up 17 rfl) rfl ?_
    refine gf_X5_93 rfl (dG D_X5_up 18 rfl) ?_
    rw [up_eq]
    refine V_if_le (tgt := 40) (dG D_X5_up 19 rfl) (by decide) (fun c_35 => absurd c_35 (by decide)) (fun c_35 => ?_)
    refine V_iconst (v := 0) (dG D_X5_up 20 rfl) (by decide) ?_
    exact V_iret (dG D_X5_up 21 rfl) rfl (Nat.le_of_ble_eq_true rfl) (Nat.le_of_ble_eq_true rfl) ⟨by first | with_reducible rfl | rfl, rfl, by first | with_reducible rfl | rfl, rfl⟩
def s_sync_35 (x : Int32) : Nat → Int32 → Nat → St → Int32 × St
  | 0, c, i, M => (c, M)
  | n + 1, c, i, M => (if (M 31 0) = (0 : Int32) then (if (s_nodeOf (nI i) M) = x then (if (M 7 i) = (-1 : Int32) then (s_sync_35 x n c (i + 1) M) else (if (M 8 i) = (0 : Int32) then (s_sync_35 x n (c + (1 : Int32)) (i + 1) (up M 8 i (1 : Int32))) else (s_sync_35 x n c (i + 1) M))) else (s_sync_35 x n c (i + 1) M)) else (c, M))
theorem bm_sync_35 {g : GT} {nt : Nat} {C : St} {o : Int64}  {x : Int32} {R : Nat} (hR1 : 1 ≤ R) (hR2 : R ≤ 32) : ∀ (n : Nat) (c : Int32) (i : Nat) (M : St) (hi : i + n = 32) (hR : M 4 0 = nI R) (h : Nat × Nat), V g K_X5_sync (kR K_X5_sync 0 0) (qM g 0 0 nt (fun v9 C9 M9 o9 => v9 = some (.int (s_sync_35 x n c i M).1) ∧ C9 = C ∧ M9 = (s_sync_35 x n c i M).2 ∧ o9 = o) (fun _ _ _ _ => False)) 0 0 nt h C M o 35 [(0, .ref (ad g 10)), (1, .int x), (2, .int c), (3, .int (nI i))] [] := by
  intro n
  induction n with
  | zero =>
    intro c i M hi hR h
    unfold s_sync_35
    refine V_iload_n (dG D_X5_sync 21 rfl) rfl ?_
    refine V_bipush (v := 32) (dG D_X5_sync 22 rfl) (by decide) ?_
    refine V_icmp_ge (tgt := 92) (dG D_X5_sync 23 rfl) (by decide) (fun c_38 => ?_) (fun c_38 => absurd (l32 (by omega)) c_38)
    refine V_iload_n (dG D_X5_sync 51 rfl) rfl ?_
    exact V_iret (dG D_X5_sync 52 rfl) rfl (Nat.le_of_ble_eq_true rfl) (Nat.le_of_ble_eq_true rfl) ⟨by first | with_reducible rfl | rfl, rfl, by first | with_reducible rfl | rfl, rfl⟩
  | succ n ih =>
    intro c i M hi hR h
    unfold s_sync_35
    refine V_iload_n (dG D_X5_sync 21 rfl) rfl ?_
    refine V_bipush (v := 32) (dG D_X5_sync 22 rfl) (by decide) ?_
    refine V_icmp_ge (tgt := 92) (dG D_X5_sync 23 rfl) (by decide) (fun c_38 => absurd c_38 (g32 (by omega))) (fun c_38 => ?_)
    refine V_aload_n (dG D_X5_sync 24 rfl) rfl ?_
    refine gf_X5_93 rfl (dG D_X5_sync 25 rfl) ?_
    refine V_if_ne (tgt := 92) (dG D_X5_sync 26 rfl) (by decide) (fun c_45 => ?_) (fun c_45 => ?_)
    · try rw [if_neg c_45]
      refine V_iload_n (dG D_X5_sync 51 rfl) rfl ?_
      exact V_iret (dG D_X5_sync 52 rfl) rfl (Nat.le_of_ble_eq_true rfl) (Nat.le_of_ble_eq_true rfl) ⟨by first | with_reducible rfl | rfl, rfl, by first | with_reducible rfl | rfl, rfl⟩
    · try rw [if_pos c_45]
      refine V_aload_n (dG D_X5_sync 27 rfl) rfl ?_
      refine V_iload_n (dG D_X5_sync 28 rfl) rfl ?_
      refine R_vb1 (om_nodeOf hR1 hR2 hR) lk_X5_118 (dG D_X5_sync 29 rfl) rcv_5 ⟨Nat.le_of_ble_eq_true rfl, Nat.le_of_ble_eq_true rfl⟩ ⟨(Nat.le_of_ble_eq_true rfl), (Nat.le_of_ble_eq_true rfl)⟩ (by first | exact Nat.le_of_ble_eq_true rfl | simp [cat_rf, cat_int, cat_ref]) (fun h => ?_)
      refine V_iload_n (dG D_X5_sync 30 rfl) rfl ?_
      refine V_icmp_ne (tgt := 86) (dG D_X5_sync 31 rfl) (by decide) (fun c_54 => ?_) (fun c_54 => ?_)
      · try rw [if_neg c_54]
        refine V_iinc (dG D_X5_sync 49 rfl) rfl (inc1 _) (Nat.le_of_ble_eq_true rfl) ?_
        refine V_goto (tgt := 35) (dG D_X5_sync 50 rfl) (by decide) ?_
        refine V_sub [0, 1, 2, 3] rfl ?_
        exact ih c (i + 1) M (by omega) (by first | exact hR | (rw [up_row (by decide)]; exact hR) | (rw [up_row (by decide), up_row (by decide)]; exact hR) | (rw [up_row (by decide), up_row (by decide), up_row (by decide)]; exact hR) | (rw [covers_row (by decide) (by decide)]; exact hR) | (rw [asks_row (by decide), up_row (by decide), up_row (by decide)]; exact hR)) h
      · try rw [if_pos c_54]
        refine V_aload_n (dG D_X5_sync 32 rfl) rfl ?_
        refine gf_X5_30 rfl (dG D_X5_sync 33 rfl) ?_
        refine V_iload_n (dG D_X5_sync 34 rfl) rfl ?_
        refine iald_M7 (dG D_X5_sync 35 rfl) (inr_nI (by omega) (by decide)) ?_
        refine V_iconst (v := -1) (dG D_X5_sync 36 rfl) (by decide) ?_
        refine V_icmp_eq (tgt := 86) (dG D_X5_sync 37 rfl) (by decide) (fun c_64 => ?_) (fun c_64 => ?_)
        · try rw [if_pos c_64]
          refine V_iinc (dG D_X5_sync 49 rfl) rfl (inc1 _) (Nat.le_of_ble_eq_true rfl) ?_
          refine V_goto (tgt := 35) (dG D_X5_sync 50 rfl) (by decide) ?_
          refine V_sub [0, 1, 2, 3] rfl ?_
          exact ih c (i + 1) M (by omega) (by first | exact hR | (rw [up_row (by decide)]; exact hR) | (rw [up_row (by decide), up_row (by decide)]; exact hR) | (rw [up_row (by decide), up_row (by decide), up_row (by decide)]; exact hR) | (rw [covers_row (by decide) (by decide)]; exact hR) | (rw [asks_row (by decide), up_row (by decide), up_row (by decide)]; exact hR)) h
        · try rw [if_neg c_64]
          refine V_aload_n (dG D_X5_sync 38 rfl) rfl ?_
          refine gf_X5_33 rfl (dG D_X5_sync 39 rfl) ?_
          refine V_iload_n (dG D_X5_sync 40 rfl) rfl ?_
          refine zald_M8 (dG D_X5_sync 41 rfl) (inr_nI (by omega) (by decide)) ?_
          refine V_if_ne (tgt := 86) (dG D_X5_sync 42 rfl) (by decide) (fun c_73 => ?_) (fun c_73 => ?_)
          · try rw [if_neg c_73]
            refine V_iinc (dG D_X5_sync 49 rfl) rfl (inc1 _) (Nat.le_of_ble_eq_true rfl) ?_
            refine V_goto (tgt := 35) (dG D_X5_sync 50 rfl) (by decide) ?_
            refine V_sub [0, 1, 2, 3] rfl ?_
            exact ih c (i + 1) M (by omega) (by first | exact hR | (rw [up_row (by decide)]; exact hR) | (rw [up_row (by decide), up_row (by decide)]; exact hR) | (rw [up_row (by decide), up_row (by decide), up_row (by decide)]; exact hR) | (rw [covers_row (by decide) (by decide)]; exact hR) | (rw [asks_row (by decide), up_row (by decide), up_row (by decide)]; exact hR)) h
          · try rw [if_pos c_73]
            refine V_aload_n (dG D_X5_sync 43 rfl) rfl ?_
            refine gf_X5_33 rfl (dG D_X5_sync 44 rfl) ?_
            refine V_iload_n (dG D_X5_sync 45 rfl) rfl ?_
            refine V_iconst (v := 1) (dG D_X5_sync 46 rfl) (by decide) ?_
            refine zast_M8 (dG D_X5_sync 47 rfl) (inr_nI (by omega) (by decide)) rfl ?_
            refine V_iinc (dG D_X5_sync 48 rfl) rfl rfl (Nat.le_of_ble_eq_true rfl) ?_
            refine V_iinc (dG D_X5_sync 49 rfl) rfl (inc1 _) (Nat.le_of_ble_eq_true rfl) ?_
            refine V_goto (tgt := 35) (dG D_X5_sync 50 rfl) (by decide) ?_
            refine V_sub [0, 1, 2, 3] rfl ?_
            exact ih (c + (1 : Int32)) (i + 1) (up M 8 i (1 : Int32)) (by omega) (by first | exact hR | (rw [up_row (by decide)]; exact hR) | (rw [up_row (by decide), up_row (by decide)]; exact hR) | (rw [up_row (by decide), up_row (by decide), up_row (by decide)]; exact hR) | (rw [covers_row (by decide) (by decide)]; exact hR) | (rw [asks_row (by decide), up_row (by decide), up_row (by decide)]; exact hR)) h
def s_sync (x : Int32) (M : St) : Int32 × St := (if (s_in x (0 : Int32) (3 : Int32)) = (0 : Int32) then (s_sync_35 x 32 (0 : Int32) 0 (up M 31 0 (1 : Int32))) else (if (M 3 x.toNatClampNeg) = (0 : Int32) then (s_sync_35 x 32 (0 : Int32) 0 (up M 31 0 (0 : Int32))) else (s_sync_35 x 32 (0 : Int32) 0 (up M 31 0 (2 : Int32)))))
theorem om_sync {g : GT} {nt : Nat} {C : St} {o : Int64} {x : Int32} {M : St} {R : Nat} (hR1 : 1 ≤ R) (hR2 : R ≤ 32) (hR : M 4 0 = nI R) : RET g K_X5_sync 0 0 [.ref (ad g 10), .int x] nt C M o (some (.int (s_sync x M).1)) C (s_sync x M).2 o := by
  refine MT_of (by decide +kernel) rfl rfl (Nat.le_of_ble_eq_true rfl) (by simp [cat_rf, cat_int, cat_ref]) (fun h => ?_)
  unfold s_sync
  refine V_aload_n (dG D_X5_sync 0 rfl) rfl ?_
  refine V_iload_n (dG D_X5_sync 1 rfl) rfl ?_
  refine V_iconst (v := 0) (dG D_X5_sync 2 rfl) (by decide) ?_
  refine V_iconst (v := 3) (dG D_X5_sync 3 rfl) (by decide) ?_
  refine R_vs3 om_in lk_X5_96 (dG D_X5_sync 4 rfl) ⟨Nat.le_of_ble_eq_true rfl, Nat.le_of_ble_eq_true rfl⟩ ⟨(Nat.le_of_ble_eq_true rfl), (Nat.le_of_ble_eq_true rfl)⟩ (by first | exact Nat.le_of_ble_eq_true rfl | simp [cat_rf, cat_int, cat_ref]) (fun h => ?_)
  refine V_if_ne (tgt := 14) (dG D_X5_sync 5 rfl) (by decide) (fun c_7 => ?_) (fun c_7 => ?_)
  · try rw [if_neg c_7]
    refine V_aload_n (dG D_X5_sync 8 rfl) rfl ?_
    refine gf_X5_16 rfl (dG D_X5_sync 9 rfl) ?_
    refine V_iload_n (dG D_X5_sync 10 rfl) rfl ?_
    refine zald_M3 (dG D_X5_sync 11 rfl) (inr_of (in03 c_7)) ?_
    refine V_if_eq (tgt := 27) (dG D_X5_sync 12 rfl) (by decide) (fun c_20 => ?_) (fun c_20 => ?_)
    · try rw [if_pos c_20]
      refine V_iconst (v := 0) (dG D_X5_sync 15 rfl) (by decide) ?_
      refine pf_X5_93 rfl (dG D_X5_sync 16 rfl) ?_
      refine V_iconst (v := 0) (dG D_X5_sync 17 rfl) (by decide) ?_
      refine V_istore_n (dG D_X5_sync 18 rfl) (Nat.le_of_ble_eq_true rfl) ?_
      refine V_iconst (v := 0) (dG D_X5_sync 19 rfl) (by decide) ?_
      refine V_istore_n (dG D_X5_sync 20 rfl) (Nat.le_of_ble_eq_true rfl) ?_
      refine V_sub [0, 1, 2, 3] rfl ?_
      exact bm_sync_35 hR1 hR2  32 (0 : Int32) 0 (up M 31 0 (0 : Int32)) (by omega) (by first | exact hR | (rw [up_row (by decide)]; exact hR) | (rw [up_row (by decide), up_row (by decide)]; exact hR) | (rw [up_row (by decide), up_row (by decide), up_row (by decide)]; exact hR) | (rw [covers_row (by decide) (by decide)]; exact hR) | (rw [asks_row (by decide), up_row (by decide), up_row (by decide)]; exact hR)) h
    · try rw [if_neg c_20]
      refine V_iconst (v := 2) (dG D_X5_sync 13 rfl) (by decide) ?_
      refine V_goto (tgt := 28) (dG D_X5_sync 14 rfl) (by decide) ?_
      refine pf_X5_93 rfl (dG D_X5_sync 16 rfl) ?_
      refine V_iconst (v := 0) (dG D_X5_sync 17 rfl) (by decide) ?_
      refine V_istore_n (dG D_X5_sync 18 rfl) (Nat.le_of_ble_eq_true rfl) ?_
      refine V_iconst (v := 0) (dG D_X5_sync 19 rfl) (by decide) ?_
      refine V_istore_n (dG D_X5_sync 20 rfl) (Nat.le_of_ble_eq_true rfl) ?_
      refine V_sub [0, 1, 2, 3] rfl ?_
      exact bm_sync_35 hR1 hR2  32 (0 : Int32) 0 (up M 31 0 (2 : Int32)) (by omega) (by first | exact hR | (rw [up_row (by decide)]; exact hR) | (rw [up_row (by decide), up_row (by decide)]; exact hR) | (rw [up_row (by decide), up_row (by decide), up_row (by decide)]; exact hR) | (rw [covers_row (by decide) (by decide)]; exact hR) | (rw [asks_row (by decide), up_row (by decide), up_row (by decide)]; exact hR)) h
  · try rw [if_pos c_7]
    refine V_iconst (v := 1) (dG D_X5_sync 6 rfl) (by decide) ?_
    refine V_goto (tgt := 28) (dG D_X5_sync 7 rfl) (by decide) ?_
    refine pf_X5_93 rfl (dG D_X5_sync 16 rfl) ?_
    refine V_iconst (v := 0) (dG D_X5_sync 17 rfl) (by decide) ?_
    refine V_istore_n (dG D_X5_sync 18 rfl) (Nat.le_of_ble_eq_true rfl) ?_
    refine V_iconst (v := 0) (dG D_X5_sync 19 rfl) (by decide) ?_
    refine V_istore_n (dG D_X5_sync 20 rfl) (Nat.le_of_ble_eq_true rfl) ?_
    refine V_sub [0, 1, 2, 3] rfl ?_
    exact bm_sync_35 hR1 hR2  32 (0 : Int32) 0 (up M 31 0 (1 : Int32)) (by omega) (by first | exact hR | (rw [up_row (by decide)]; exact hR) | (rw [up_row (by decide), up_row (by decide)]; exact hR) | (rw [up_row (by decide), up_row (by decide), up_row (by decide)]; exact hR) | (rw [covers_row (by decide) (by decide)]; exact hR) | (rw [asks_row (by decide), up_row (by decide), up_row (by decide)]; exact hR)) h
def s_skew (x : Int32) (y : Int32) (M : St) : Int32 × St := (if (s_in x (0 : Int32) (3 : Int32)) = (0 : Int32) then ((0 : Int32), (up M 31 0 (1 : Int32))) else (if (s_in y (-5 : Int32) (5 : Int32)) = (0 : Int32) then ((0 : Int32), (up M 31 0 (2 : Int32))) else (M 1 x.toNatClampNeg, (up (up M 31 0 (0 : Int32)) 1 x.toNatClampNeg y))))
theorem om_skew {g : GT} {nt : Nat} {C : St} {o : Int64} {x : Int32} {y : Int32} {M : St} : RET g K_X5_skew 0 0 [.ref (ad g 10), .int x, .int y] nt C M o (some (.int (s_skew x y M).1)) C (s_skew x y M).2 o := by
  refine MT_of (by decide +kernel) rfl rfl (Nat.le_of_ble_eq_true rfl) (by simp [cat_rf, cat_int, cat_ref]) (fun h => ?_)
  unfold s_skew
  refine V_aload_n (dG D_X5_skew 0 rfl) rfl ?_
  refine V_iload_n (dG D_X5_skew 1 rfl) rfl ?_
  refine V_iconst (v := 0) (dG D_X5_skew 2 rfl) (by decide) ?_
  refine V_iconst (v := 3) (dG D_X5_skew 3 rfl) (by decide) ?_
  refine R_vs3 om_in lk_X5_96 (dG D_X5_skew 4 rfl) ⟨Nat.le_of_ble_eq_true rfl, Nat.le_of_ble_eq_true rfl⟩ ⟨(Nat.le_of_ble_eq_true rfl), (Nat.le_of_ble_eq_true rfl)⟩ (by first | exact Nat.le_of_ble_eq_true rfl | simp [cat_rf, cat_int, cat_ref]) (fun h => ?_)
  refine V_if_ne (tgt := 14) (dG D_X5_skew 5 rfl) (by decide) (fun c_7 => ?_) (fun c_7 => ?_)
  · try rw [if_neg c_7]
    refine V_iload_n (dG D_X5_skew 8 rfl) rfl ?_
    refine V_bipush (v := -5) (dG D_X5_skew 9 rfl) (by decide) ?_
    refine V_iconst (v := 5) (dG D_X5_skew 10 rfl) (by decide) ?_
    refine R_vs3 om_in lk_X5_96 (dG D_X5_skew 11 rfl) ⟨Nat.le_of_ble_eq_true rfl, Nat.le_of_ble_eq_true rfl⟩ ⟨(Nat.le_of_ble_eq_true rfl), (Nat.le_of_ble_eq_true rfl)⟩ (by first | exact Nat.le_of_ble_eq_true rfl | simp [cat_rf, cat_int, cat_ref]) (fun h => ?_)
    refine V_if_ne (tgt := 28) (dG D_X5_skew 12 rfl) (by decide) (fun c_21 => ?_) (fun c_21 => ?_)
    · try rw [if_neg c_21]
      refine V_iconst (v := 0) (dG D_X5_skew 15 rfl) (by decide) ?_
      refine pf_X5_93 rfl (dG D_X5_skew 16 rfl) ?_
      refine V_aload_n (dG D_X5_skew 17 rfl) rfl ?_
      refine gf_X5_93 rfl (dG D_X5_skew 18 rfl) ?_
      rw [up_eq]
      refine V_if_le (tgt := 41) (dG D_X5_skew 19 rfl) (by decide) (fun c_36 => ?_) (fun c_36 => absurd c_36 (by decide))
      refine V_aload_n (dG D_X5_skew 22 rfl) rfl ?_
      refine gf_X5_7 rfl (dG D_X5_skew 23 rfl) ?_
      refine V_iload_n (dG D_X5_skew 24 rfl) rfl ?_
      refine iald_M1 (dG D_X5_skew 25 rfl) (inr_of (in03 c_7)) ?_
      rw [up_row (v := 31) (w := 1) (by decide)]
      refine V_istore_n (dG D_X5_skew 26 rfl) (Nat.le_of_ble_eq_true rfl) ?_
      refine V_aload_n (dG D_X5_skew 27 rfl) rfl ?_
      refine gf_X5_7 rfl (dG D_X5_skew 28 rfl) ?_
      refine V_iload_n (dG D_X5_skew 29 rfl) rfl ?_
      refine V_iload_n (dG D_X5_skew 30 rfl) rfl ?_
      refine iast_M1 (dG D_X5_skew 31 rfl) (inr_of (in03 c_7)) ?_
      refine V_iload_n (dG D_X5_skew 32 rfl) rfl ?_
      exact V_iret (dG D_X5_skew 33 rfl) rfl (Nat.le_of_ble_eq_true rfl) (Nat.le_of_ble_eq_true rfl) ⟨by first | with_reducible rfl | rfl, rfl, by first | with_reducible rfl | rfl, rfl⟩
    · try rw [if_pos c_21]
      refine V_iconst (v := 2) (dG D_X5_skew 13 rfl) (by decide) ?_
      refine V_goto (tgt := 29) (dG D_X5_skew 14 rfl) (by decide) ?_
      refine pf_X5_93 rfl (dG D_X5_skew 16 rfl) ?_
      refine V_aload_n (dG D_X5_skew 17 rfl) rfl ?_
      refine gf_X5_93 rfl (dG D_X5_skew 18 rfl) ?_
      rw [up_eq]
      refine V_if_le (tgt := 41) (dG D_X5_skew 19 rfl) (by decide) (fun c_36 => absurd c_36 (by decide)) (fun c_36 => ?_)
      refine V_iconst (v := 0) (dG D_X5_skew 20 rfl) (by decide) ?_
      exact V_iret (dG D_X5_skew 21 rfl) rfl (Nat.le_of_ble_eq_true rfl) (Nat.le_of_ble_eq_true rfl) ⟨by first | with_reducible rfl | rfl, rfl, by first | with_reducible rfl | rfl, rfl⟩
  · try rw [if_pos c_7]
    refine V_iconst (v := 1) (dG D_X5_skew 6 rfl) (by decide) ?_
    refine V_goto (tgt := 29) (dG D_X5_skew 7 rfl) (by decide) ?_
    refine pf_X5_93 rfl (dG D_X5_skew 16 rfl) ?_
    refine V_aload_n (dG D_X5_skew 17 rfl) rfl ?_
    refine gf_X5_93 rfl (dG D_X5_skew 18 rfl) ?_
    rw [up_eq]
    refine V_if_le (tgt := 41) (dG D_X5_skew 19 rfl) (by decide) (fun c_36 => absurd c_36 (by decide)) (fun c_36 => ?_)
    refine V_iconst (v := 0) (dG D_X5_skew 20 rfl) (by decide) ?_
    exact V_iret (dG D_X5_skew 21 rfl) rfl (Nat.le_of_ble_eq_true rfl) (Nat.le_of_ble_eq_true rfl) ⟨by first | with_reducible rfl | rfl, rfl, by first | with_reducible rfl | rfl, rfl⟩
def s_clock (x : Int32) (M : St) : Int32 × St := (if (s_in x (0 : Int32) (3 : Int32)) = (0 : Int32) then ((0 : Int32), (up M 31 0 (1 : Int32))) else (if (M 3 x.toNatClampNeg) = (0 : Int32) then ((s_asks x.toNatClampNeg (up M 31 0 (0 : Int32))).1, (s_asks x.toNatClampNeg (up M 31 0 (0 : Int32))).2) else ((0 : Int32), (up M 31 0 (2 : Int32)))))
theorem om_clock {g : GT} {nt : Nat} {C : St} {o : Int64} {x : Int32} {M : St} : RET g K_X5_clock 0 0 [.ref (ad g 10), .int x] nt C M o (some (.int (s_clock x M).1)) C (s_clock x M).2 o := by
  refine MT_of (by decide +kernel) rfl rfl (Nat.le_of_ble_eq_true rfl) (by simp [cat_rf, cat_int, cat_ref]) (fun h => ?_)
  unfold s_clock
  refine V_aload_n (dG D_X5_clock 0 rfl) rfl ?_
  refine V_iload_n (dG D_X5_clock 1 rfl) rfl ?_
  refine V_iconst (v := 0) (dG D_X5_clock 2 rfl) (by decide) ?_
  refine V_iconst (v := 3) (dG D_X5_clock 3 rfl) (by decide) ?_
  refine R_vs3 om_in lk_X5_96 (dG D_X5_clock 4 rfl) ⟨Nat.le_of_ble_eq_true rfl, Nat.le_of_ble_eq_true rfl⟩ ⟨(Nat.le_of_ble_eq_true rfl), (Nat.le_of_ble_eq_true rfl)⟩ (by first | exact Nat.le_of_ble_eq_true rfl | simp [cat_rf, cat_int, cat_ref]) (fun h => ?_)
  refine V_if_ne (tgt := 14) (dG D_X5_clock 5 rfl) (by decide) (fun c_7 => ?_) (fun c_7 => ?_)
  · try rw [if_neg c_7]
    refine V_aload_n (dG D_X5_clock 8 rfl) rfl ?_
    refine gf_X5_16 rfl (dG D_X5_clock 9 rfl) ?_
    refine V_iload_n (dG D_X5_clock 10 rfl) rfl ?_
    refine zald_M3 (dG D_X5_clock 11 rfl) (inr_of (in03 c_7)) ?_
    refine V_if_eq (tgt := 27) (dG D_X5_clock 12 rfl) (by decide) (fun c_20 => ?_) (fun c_20 => ?_)
    · try rw [if_pos c_20]
      refine V_iconst (v := 0) (dG D_X5_clock 15 rfl) (by decide) ?_
      refine pf_X5_93 rfl (dG D_X5_clock 16 rfl) ?_
      refine V_aload_n (dG D_X5_clock 17 rfl) rfl ?_
      refine gf_X5_93 rfl (dG D_X5_clock 18 rfl) ?_
      rw [up_eq]
      refine V_if_ne (tgt := 46) (dG D_X5_clock 19 rfl) (by decide) (fun c_35 => absurd c_35 (by decide)) (fun c_35 => ?_)
      refine V_aload_n (dG D_X5_clock 20 rfl) rfl ?_
      refine V_iload_n (dG D_X5_clock 21 rfl) rfl ?_
      refine R_vb1 (ox_asks_1 (in03 c_7) ) lk_X5_107 (dG D_X5_clock 22 rfl) rcv_5 ⟨Nat.le_of_ble_eq_true rfl, Nat.le_of_ble_eq_true rfl⟩ ⟨(Nat.le_of_ble_eq_true rfl), (Nat.le_of_ble_eq_true rfl)⟩ (by first | exact Nat.le_of_ble_eq_true rfl | simp [cat_rf, cat_int, cat_ref]) (fun h => ?_)
      refine V_goto (tgt := 47) (dG D_X5_clock 23 rfl) (by decide) ?_
      exact V_iret (dG D_X5_clock 25 rfl) rfl (Nat.le_of_ble_eq_true rfl) (Nat.le_of_ble_eq_true rfl) ⟨by first | with_reducible rfl | rfl, rfl, by first | with_reducible rfl | rfl, rfl⟩
    · try rw [if_neg c_20]
      refine V_iconst (v := 2) (dG D_X5_clock 13 rfl) (by decide) ?_
      refine V_goto (tgt := 28) (dG D_X5_clock 14 rfl) (by decide) ?_
      refine pf_X5_93 rfl (dG D_X5_clock 16 rfl) ?_
      refine V_aload_n (dG D_X5_clock 17 rfl) rfl ?_
      refine gf_X5_93 rfl (dG D_X5_clock 18 rfl) ?_
      rw [up_eq]
      refine V_if_ne (tgt := 46) (dG D_X5_clock 19 rfl) (by decide) (fun c_35 => ?_) (fun c_35 => absurd c_35 (by decide))
      refine V_iconst (v := 0) (dG D_X5_clock 24 rfl) (by decide) ?_
      exact V_iret (dG D_X5_clock 25 rfl) rfl (Nat.le_of_ble_eq_true rfl) (Nat.le_of_ble_eq_true rfl) ⟨by first | with_reducible rfl | rfl, rfl, by first | with_reducible rfl | rfl, rfl⟩
  · try rw [if_pos c_7]
    refine V_iconst (v := 1) (dG D_X5_clock 6 rfl) (by decide) ?_
    refine V_goto (tgt := 28) (dG D_X5_clock 7 rfl) (by decide) ?_
    refine pf_X5_93 rfl (dG D_X5_clock 16 rfl) ?_
    refine V_aload_n (dG D_X5_clock 17 rfl) rfl ?_
    refine gf_X5_93 rfl (dG D_X5_clock 18 rfl) ?_
    rw [up_eq]
    refine V_if_ne (tgt := 46) (dG D_X5_clock 19 rfl) (by decide) (fun c_35 => ?_) (fun c_35 => absurd c_35 (by decide))
    refine V_iconst (v := 0) (dG D_X5_clock 24 rfl) (by decide) ?_
    exact V_iret (dG D_X5_clock 25 rfl) rfl (Nat.le_of_ble_eq_true rfl) (Nat.le_of_ble_eq_true rfl) ⟨by first | with_reducible rfl | rfl, rfl, by first | with_reducible rfl | rfl, rfl⟩
