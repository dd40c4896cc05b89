/-! the model's methods (1) -/
set_option maxHeartbeats 60000
theorem ixm {x : Int32} {a b : Nat} (h : x = nI a) : x + nI b = nI (a + b) := by rw [h]; exact nI_add a b
theorem ix32 (t i : Nat) : (32 : Int32) * nI t + nI i = nI (32 * t + i) := by rw [show (32 : Int32) * nI t = nI (32 * t) from pk_mul 32 t]; exact nI_add _ _
theorem ix4 (t i : Nat) : (4 : Int32) * nI t + nI i = nI (4 * t + i) := by rw [show (4 : Int32) * nI t = nI (4 * t) from pk_mul 4 t]; exact nI_add _ _
def s_in (v : Int32) (lo : Int32) (hi : Int32) : Int32 := (if v < lo then (0 : Int32) else (if hi < v then (0 : Int32) else (1 : Int32)))
theorem om_in {g : GT} {nt : Nat} {C : St} {o : Int64} {v : Int32} {lo : Int32} {hi : Int32} {M : St} : RET g K_X5_in 0 0 [.int v, .int lo, .int hi] nt C M o (some (.int (s_in v lo hi))) C M o := by
  refine MT_of (by decide +kernel) rfl rfl (Nat.le_of_ble_eq_true rfl) (by simp [cat_rf, cat_int, cat_ref]) (fun h => ?_)
  unfold s_in
  refine V_iload_n (dG D_X5_in 0 rfl) rfl ?_
  refine V_iload_n (dG D_X5_in 1 rfl) rfl ?_
  refine V_icmp_lt (tgt := 14) (dG D_X5_in 2 rfl) (by decide) (fun c_2 => ?_) (fun c_2 => ?_)
  · try rw [if_pos c_2]
    refine V_iconst (v := 0) (dG D_X5_in 8 rfl) (by decide) ?_
    exact V_zret (dG D_X5_in 9 rfl) rfl (by first | rfl | assumption) (Nat.le_of_ble_eq_true rfl) (Nat.le_of_ble_eq_true rfl) ⟨by first | with_reducible rfl | rfl, rfl, by first | with_reducible rfl | rfl, rfl⟩
  · try rw [if_neg c_2]
    refine V_iload_n (dG D_X5_in 3 rfl) rfl ?_
    refine V_iload_n (dG D_X5_in 4 rfl) rfl ?_
    refine V_icmp_gt (tgt := 14) (dG D_X5_in 5 rfl) (by decide) (fun c_7 => ?_) (fun c_7 => ?_)
    · try rw [if_pos c_7]
      refine V_iconst (v := 0) (dG D_X5_in 8 rfl) (by decide) ?_
      exact V_zret (dG D_X5_in 9 rfl) rfl (by first | rfl | assumption) (Nat.le_of_ble_eq_true rfl) (Nat.le_of_ble_eq_true rfl) ⟨by first | with_reducible rfl | rfl, rfl, by first | with_reducible rfl | rfl, rfl⟩
    · try rw [if_neg c_7]
      refine V_iconst (v := 1) (dG D_X5_in 6 rfl) (by decide) ?_
      refine V_goto (tgt := 15) (dG D_X5_in 7 rfl) (by decide) ?_
      exact V_zret (dG D_X5_in 9 rfl) rfl (by first | rfl | assumption) (Nat.le_of_ble_eq_true rfl) (Nat.le_of_ble_eq_true rfl) ⟨by first | with_reducible rfl | rfl, rfl, by first | with_reducible rfl | rfl, rfl⟩
def s_greater (a : Int32) (b : Int32) : Int32 := (if a ≤ b then b else a)
theorem om_greater {g : GT} {nt : Nat} {C : St} {o : Int64} {a : Int32} {b : Int32} {M : St} : RET g K_X5_greater 0 0 [.int a, .int b] nt C M o (some (.int (s_greater a b))) C M o := by
  refine MT_of (by decide +kernel) rfl rfl (Nat.le_of_ble_eq_true rfl) (by simp [cat_rf, cat_int, cat_ref]) (fun h => ?_)
  unfold s_greater
  refine V_iload_n (dG D_X5_greater 0 rfl) rfl ?_
  refine V_iload_n (dG D_X5_greater 1 rfl) rfl ?_
  refine V_icmp_le (tgt := 9) (dG D_X5_greater 2 rfl) (by decide) (fun c_2 => ?_) (fun c_2 => ?_)
  · try rw [if_pos c_2]
    refine V_iload_n (dG D_X5_greater 5 rfl) rfl ?_
    exact V_iret (dG D_X5_greater 6 rfl) rfl (Nat.le_of_ble_eq_true rfl) (Nat.le_of_ble_eq_true rfl) ⟨by first | with_reducible rfl | rfl, rfl, by first | with_reducible rfl | rfl, rfl⟩
  · try rw [if_neg c_2]
    refine V_iload_n (dG D_X5_greater 3 rfl) rfl ?_
    refine V_goto (tgt := 10) (dG D_X5_greater 4 rfl) (by decide) ?_
    exact V_iret (dG D_X5_greater 6 rfl) rfl (Nat.le_of_ble_eq_true rfl) (Nat.le_of_ble_eq_true rfl) ⟨by first | with_reducible rfl | rfl, rfl, by first | with_reducible rfl | rfl, rfl⟩
def s_thrown (M : St) : Int32 := (M 31 0)
theorem om_thrown {g : GT} {nt : Nat} {C : St} {o : Int64} {M : St} : RET g K_X5_thrown 0 0 [.ref (ad g 10)] nt C M o (some (.int (s_thrown M))) C M o := by
  refine MT_of (by decide +kernel) rfl rfl (Nat.le_of_ble_eq_true rfl) (by simp [cat_rf, cat_int, cat_ref]) (fun h => ?_)
  unfold s_thrown
  refine V_aload_n (dG D_X5_thrown 0 rfl) rfl ?_
  refine gf_X5_93 rfl (dG D_X5_thrown 1 rfl) ?_
  exact V_iret (dG D_X5_thrown 2 rfl) rfl (Nat.le_of_ble_eq_true rfl) (Nat.le_of_ble_eq_true rfl) ⟨by first | with_reducible rfl | rfl, rfl, by first | with_reducible rfl | rfl, rfl⟩
def s_pass (x : Int32) (M : St) : Int32 × St := (if (s_in x (1 : Int32) (50 : Int32)) = (0 : Int32) then ((0 : Int32), (up (up M 31 0 (1 : Int32)) 0 0 ((M 0 0) + (0 : Int32)))) else (if ((M 0 0) + x) ≤ (2000 : Int32) then ((M 0 0) + x, (up (up M 31 0 (0 : Int32)) 0 0 ((M 0 0) + x))) else ((0 : Int32), (up (up M 31 0 (2 : Int32)) 0 0 ((M 0 0) + (0 : Int32))))))
theorem om_pass {g : GT} {nt : Nat} {C : St} {o : Int64} {x : Int32} {M : St} : RET g K_X5_pass 0 0 [.ref (ad g 10), .int x] nt C M o (some (.int (s_pass x M).1)) C (s_pass x M).2 o := by
  refine MT_of (by decide +kernel) rfl rfl (Nat.le_of_ble_eq_true rfl) (by simp [cat_rf, cat_int, cat_ref]) (fun h => ?_)
  unfold s_pass
  refine V_aload_n (dG D_X5_pass 0 rfl) rfl ?_
  refine V_iload_n (dG D_X5_pass 1 rfl) rfl ?_
  refine V_iconst (v := 1) (dG D_X5_pass 2 rfl) (by decide) ?_
  refine V_bipush (v := 50) (dG D_X5_pass 3 rfl) (by decide) ?_
  refine R_vs3 om_in lk_X5_96 (dG D_X5_pass 4 rfl) ⟨Nat.le_of_ble_eq_true rfl, Nat.le_of_ble_eq_true rfl⟩ ⟨(Nat.le_of_ble_eq_true rfl), (Nat.le_of_ble_eq_true rfl)⟩ (by first | exact Nat.le_of_ble_eq_true rfl | simp [cat_rf, cat_int, cat_ref]) (fun h => ?_)
  refine V_if_ne (tgt := 15) (dG D_X5_pass 5 rfl) (by decide) (fun c_8 => ?_) (fun c_8 => ?_)
  · try rw [if_neg c_8]
    refine V_aload_n (dG D_X5_pass 8 rfl) rfl ?_
    refine gf_X5_100 rfl (dG D_X5_pass 9 rfl) ?_
    refine V_iload_n (dG D_X5_pass 10 rfl) rfl ?_
    refine V_iadd (dG D_X5_pass 11 rfl) ?_
    refine V_sipush (v := 2000) (dG D_X5_pass 12 rfl) (by decide) ?_
    refine V_icmp_le (tgt := 31) (dG D_X5_pass 13 rfl) (by decide) (fun c_24 => ?_) (fun c_24 => ?_)
    · try rw [if_pos c_24]
      refine V_iconst (v := 0) (dG D_X5_pass 16 rfl) (by decide) ?_
      refine pf_X5_93 rfl (dG D_X5_pass 17 rfl) ?_
      refine V_aload_n (dG D_X5_pass 18 rfl) rfl ?_
      refine V_dup (dG D_X5_pass 19 rfl) rfl ?_
      refine gf_X5_100 rfl (dG D_X5_pass 20 rfl) ?_
      rw [up_row (v := 31) (w := 0) (by decide)]
      refine V_aload_n (dG D_X5_pass 21 rfl) rfl ?_
      refine gf_X5_93 rfl (dG D_X5_pass 22 rfl) ?_
      rw [up_eq]
      refine V_if_ne (tgt := 51) (dG D_X5_pass 23 rfl) (by decide) (fun c_44 => absurd c_44 (by decide)) (fun c_44 => ?_)
      refine V_iload_n (dG D_X5_pass 24 rfl) rfl ?_
      refine V_goto (tgt := 52) (dG D_X5_pass 25 rfl) (by decide) ?_
      refine V_iadd (dG D_X5_pass 27 rfl) ?_
      refine pf_X5_100 rfl (dG D_X5_pass 28 rfl) ?_
      refine V_aload_n (dG D_X5_pass 29 rfl) rfl ?_
      refine gf_X5_93 rfl (dG D_X5_pass 30 rfl) ?_
      rw [up_row (v := 0) (w := 31) (by decide)]
      rw [up_eq]
      refine V_if_ne (tgt := 70) (dG D_X5_pass 31 rfl) (by decide) (fun c_60 => absurd c_60 (by decide)) (fun c_60 => ?_)
      refine V_aload_n (dG D_X5_pass 32 rfl) rfl ?_
      refine gf_X5_100 rfl (dG D_X5_pass 33 rfl) ?_
      rw [up_eq]
      refine V_goto (tgt := 71) (dG D_X5_pass 34 rfl) (by decide) ?_
      exact V_iret (dG D_X5_pass 36 rfl) rfl (Nat.le_of_ble_eq_true rfl) (Nat.le_of_ble_eq_true rfl) ⟨by first | with_reducible rfl | rfl, rfl, by first | with_reducible rfl | rfl, rfl⟩
    · try rw [if_neg c_24]
      refine V_iconst (v := 2) (dG D_X5_pass 14 rfl) (by decide) ?_
      refine V_goto (tgt := 32) (dG D_X5_pass 15 rfl) (by decide) ?_
      refine pf_X5_93 rfl (dG D_X5_pass 17 rfl) ?_
      refine V_aload_n (dG D_X5_pass 18 rfl) rfl ?_
      refine V_dup (dG D_X5_pass 19 rfl) rfl ?_
      refine gf_X5_100 rfl (dG D_X5_pass 20 rfl) ?_
      rw [up_row (v := 31) (w := 0) (by decide)]
      refine V_aload_n (dG D_X5_pass 21 rfl) rfl ?_
      refine gf_X5_93 rfl (dG D_X5_pass 22 rfl) ?_
      rw [up_eq]
      refine V_if_ne (tgt := 51) (dG D_X5_pass 23 rfl) (by decide) (fun c_44 => ?_) (fun c_44 => absurd c_44 (by decide))
      refine V_iconst (v := 0) (dG D_X5_pass 26 rfl) (by decide) ?_
      refine V_iadd (dG D_X5_pass 27 rfl) ?_
      refine pf_X5_100 rfl (dG D_X5_pass 28 rfl) ?_
      refine V_aload_n (dG D_X5_pass 29 rfl) rfl ?_
      refine gf_X5_93 rfl (dG D_X5_pass 30 rfl) ?_
      rw [up_row (v := 0) (w := 31) (by decide)]
      rw [up_eq]
      refine V_if_ne (tgt := 70) (dG D_X5_pass 31 rfl) (by decide) (fun c_60 => ?_) (fun c_60 => absurd c_60 (by decide))
      refine V_iconst (v := 0) (dG D_X5_pass 35 rfl) (by decide) ?_
      exact V_iret (dG D_X5_pass 36 rfl) rfl (Nat.le_of_ble_eq_true rfl) (Nat.le_of_ble_eq_true rfl) ⟨by first | with_reducible rfl | rfl, rfl, by first | with_reducible rfl | rfl, rfl⟩
  · try rw [if_pos c_8]
    refine V_iconst (v := 1) (dG D_X5_pass 6 rfl) (by decide) ?_
    refine V_goto (tgt := 32) (dG D_X5_pass 7 rfl) (by decide) ?_
    refine pf_X5_93 rfl (dG D_X5_pass 17 rfl) ?_
    refine V_aload_n (dG D_X5_pass 18 rfl) rfl ?_
    refine V_dup (dG D_X5_pass 19 rfl) rfl ?_
    refine gf_X5_100 rfl (dG D_X5_pass 20 rfl) ?_
    rw [up_row (v := 31) (w := 0) (by decide)]
    refine V_aload_n (dG D_X5_pass 21 rfl) rfl ?_
    refine gf_X5_93 rfl (dG D_X5_pass 22 rfl) ?_
    rw [up_eq]
    refine V_if_ne (tgt := 51) (dG D_X5_pass 23 rfl) (by decide) (fun c_44 => ?_) (fun c_44 => absurd c_44 (by decide))
    refine V_iconst (v := 0) (dG D_X5_pass 26 rfl) (by decide) ?_
    refine V_iadd (dG D_X5_pass 27 rfl) ?_
    refine pf_X5_100 rfl (dG D_X5_pass 28 rfl) ?_
    refine V_aload_n (dG D_X5_pass 29 rfl) rfl ?_
    refine gf_X5_93 rfl (dG D_X5_pass 30 rfl) ?_
    rw [up_row (v := 0) (w := 31) (by decide)]
    rw [up_eq]
    refine V_if_ne (tgt := 70) (dG D_X5_pass 31 rfl) (by decide) (fun c_60 => ?_) (fun c_60 => absurd c_60 (by decide))
    refine V_iconst (v := 0) (dG D_X5_pass 35 rfl) (by decide) ?_
    exact V_iret (dG D_X5_pass 36 rfl) rfl (Nat.le_of_ble_eq_true rfl) (Nat.le_of_ble_eq_true rfl) ⟨by first | with_reducible rfl | rfl, rfl, by first | with_reducible rfl | rfl, rfl⟩
def s_closedNow (M : St) : Int32 := (s_greater (0 : Int32) ((10 : Int32) * ((M 0 0) - (15 : Int32))))
theorem om_closedNow {g : GT} {nt : Nat} {C : St} {o : Int64} {M : St} : RET g K_X5_closedNow 0 0 [.ref (ad g 10)] nt C M o (some (.int (s_closedNow M))) C M o := by
  refine MT_of (by decide +kernel) rfl rfl (Nat.le_of_ble_eq_true rfl) (by simp [cat_rf, cat_int, cat_ref]) (fun h => ?_)
  unfold s_closedNow
  refine V_iconst (v := 0) (dG D_X5_closedNow 0 rfl) (by decide) ?_
  refine V_bipush (v := 10) (dG D_X5_closedNow 1 rfl) (by decide) ?_
  refine V_aload_n (dG D_X5_closedNow 2 rfl) rfl ?_
  refine gf_X5_100 rfl (dG D_X5_closedNow 3 rfl) ?_
  refine V_bipush (v := 15) (dG D_X5_closedNow 4 rfl) (by decide) ?_
  refine V_isub (dG D_X5_closedNow 5 rfl) ?_
  refine V_imul (dG D_X5_closedNow 6 rfl) ?_
  refine R_vs2 om_greater lk_X5_103 (dG D_X5_closedNow 7 rfl) ⟨Nat.le_of_ble_eq_true rfl, Nat.le_of_ble_eq_true rfl⟩ ⟨(Nat.le_of_ble_eq_true rfl), (Nat.le_of_ble_eq_true rfl)⟩ (by first | exact Nat.le_of_ble_eq_true rfl | simp [cat_rf, cat_int, cat_ref]) (fun h => ?_)
  exact V_iret (dG D_X5_closedNow 8 rfl) rfl (Nat.le_of_ble_eq_true rfl) (Nat.le_of_ble_eq_true rfl) ⟨by first | with_reducible rfl | rfl, rfl, by first | with_reducible rfl | rfl, rfl⟩
def s_closed (M : St) : Int32 × St := ((s_closedNow (up M 31 0 (0 : Int32))), (up M 31 0 (0 : Int32)))
theorem om_closed {g : GT} {nt : Nat} {C : St} {o : Int64} {M : St} : RET g K_X5_closed 0 0 [.ref (ad g 10)] nt C M o (some (.int (s_closed M).1)) C (s_closed M).2 o := by
  refine MT_of (by decide +kernel) rfl rfl (Nat.le_of_ble_eq_true rfl) (by simp [cat_rf, cat_int, cat_ref]) (fun h => ?_)
  unfold s_closed
  refine V_aload_n (dG D_X5_closed 0 rfl) rfl ?_
  refine V_iconst (v := 0) (dG D_X5_closed 1 rfl) (by decide) ?_
  refine pf_X5_93 rfl (dG D_X5_closed 2 rfl) ?_
  refine V_aload_n (dG D_X5_closed 3 rfl) rfl ?_
  refine R_vb0 om_closedNow lk_X5_111 (dG D_X5_closed 4 rfl) rcv_5 ⟨Nat.le_of_ble_eq_true rfl, Nat.le_of_ble_eq_true rfl⟩ ⟨(Nat.le_of_ble_eq_true rfl), (Nat.le_of_ble_eq_true rfl)⟩ (by first | exact Nat.le_of_ble_eq_true rfl | simp [cat_rf, cat_int, cat_ref]) (fun h => ?_)
  exact V_iret (dG D_X5_closed 5 rfl) rfl (Nat.le_of_ble_eq_true rfl) (Nat.le_of_ble_eq_true rfl) ⟨by first | with_reducible rfl | rfl, rfl, by first | with_reducible rfl | rfl, rfl⟩
def s_covers (k : Nat) (s : Int32) (M : St) : St := (if s ≤ (M 10 k) then M else (up (up M 10 k s) 11 k (-2 : Int32)))
theorem om_covers {g : GT} {nt : Nat} {C : St} {o : Int64} {k : Nat} {s : Int32} {M : St} (hk : k < 32)  : RET g K_X5_covers 0 0 [.ref (ad g 10), .int (nI k), .int s] nt C M o none C (s_covers k s M) o := by
  refine MT_of (by decide +kernel) rfl rfl (Nat.le_of_ble_eq_true rfl) (by simp [cat_rf, cat_int, cat_ref]) (fun h => ?_)
  unfold s_covers
  refine V_iload_n (dG D_X5_covers 0 rfl) rfl ?_
  refine V_aload_n (dG D_X5_covers 1 rfl) rfl ?_
  refine gf_X5_39 rfl (dG D_X5_covers 2 rfl) ?_
  refine V_iload_n (dG D_X5_covers 3 rfl) rfl ?_
  refine iald_M10 (dG D_X5_covers 4 rfl) (inr_nI (by omega) (by decide)) ?_
  refine V_icmp_le (tgt := 25) (dG D_X5_covers 5 rfl) (by decide) (fun c_7 => ?_) (fun c_7 => ?_)
  · try rw [if_pos c_7]
    exact V_vret (dG D_X5_covers 16 rfl) rfl (Nat.le_of_ble_eq_true rfl) (Nat.le_of_ble_eq_true rfl) ⟨by first | with_reducible rfl | rfl, rfl, by first | with_reducible rfl | rfl, rfl⟩
  · try rw [if_neg c_7]
    refine V_aload_n (dG D_X5_covers 6 rfl) rfl ?_
    refine gf_X5_39 rfl (dG D_X5_covers 7 rfl) ?_
    refine V_iload_n (dG D_X5_covers 8 rfl) rfl ?_
    refine V_iload_n (dG D_X5_covers 9 rfl) rfl ?_
    refine iast_M10 (dG D_X5_covers 10 rfl) (inr_nI (by omega) (by decide)) ?_
    refine V_aload_n (dG D_X5_covers 11 rfl) rfl ?_
    refine gf_X5_42 rfl (dG D_X5_covers 12 rfl) ?_
    refine V_iload_n (dG D_X5_covers 13 rfl) rfl ?_
    refine V_bipush (v := -2) (dG D_X5_covers 14 rfl) (by decide) ?_
    refine iast_M11 (dG D_X5_covers 15 rfl) (inr_nI (by omega) (by decide)) ?_
    exact V_vret (dG D_X5_covers 16 rfl) rfl (Nat.le_of_ble_eq_true rfl) (Nat.le_of_ble_eq_true rfl) ⟨by first | with_reducible rfl | rfl, rfl, by first | with_reducible rfl | rfl, rfl⟩
def s_asks (n : Nat) (M : St) : Int32 × St := ((s_greater ((10 : Int32) * ((M 0 0) + (M 1 n))) ((M 2 n) + (1 : Int32))), (up M 2 n (s_greater ((10 : Int32) * ((M 0 0) + (M 1 n))) ((M 2 n) + (1 : Int32)))))
theorem om_asks {g : GT} {nt : Nat} {C : St} {o : Int64} {n : Nat} {M : St} (hn : n < 4)  : RET g K_X5_asks 0 0 [.ref (ad g 10), .int (nI n)] nt C M o (some (.int (s_asks n M).1)) C (s_asks n M).2 o := by
  refine MT_of (by decide +kernel) rfl rfl (Nat.le_of_ble_eq_true rfl) (by simp [cat_rf, cat_int, cat_ref]) (fun h => ?_)
  unfold s_asks
  refine V_aload_n (dG D_X5_asks 0 rfl) rfl ?_
  refine gf_X5_13 rfl (dG D_X5_asks 1 rfl) ?_
  refine V_iload_n (dG D_X5_asks 2 rfl) rfl ?_
  refine V_bipush (v := 10) (dG D_X5_asks 3 rfl) (by decide) ?_
  refine V_aload_n (dG D_X5_asks 4 rfl) rfl ?_
  refine gf_X5_100 rfl (dG D_X5_asks 5 rfl) ?_
  refine V_aload_n (dG D_X5_asks 6 rfl) rfl ?_
  refine gf_X5_7 rfl (dG D_X5_asks 7 rfl) ?_
  refine V_iload_n (dG D_X5_asks 8 rfl) rfl ?_
  refine iald_M1 (dG D_X5_asks 9 rfl) (inr_nI (by omega) (by decide)) ?_
  refine V_iadd (dG D_X5_asks 10 rfl) ?_
  refine V_imul (dG D_X5_asks 11 rfl) ?_
  refine V_aload_n (dG D_X5_asks 12 rfl) rfl ?_
  refine gf_X5_13 rfl (dG D_X5_asks 13 rfl) ?_
  refine V_iload_n (dG D_X5_asks 14 rfl) rfl ?_
  refine iald_M2 (dG D_X5_asks 15 rfl) (inr_nI (by omega) (by decide)) ?_
  refine V_iconst (v := 1) (dG D_X5_asks 16 rfl) (by decide) ?_
  refine V_iadd (dG D_X5_asks 17 rfl) ?_
  refine R_vs2 om_greater lk_X5_103 (dG D_X5_asks 18 rfl) ⟨Nat.le_of_ble_eq_true rfl, Nat.le_of_ble_eq_true rfl⟩ ⟨(Nat.le_of_ble_eq_true rfl), (Nat.le_of_ble_eq_true rfl)⟩ (by first | exact Nat.le_of_ble_eq_true rfl | simp [cat_rf, cat_int, cat_ref]) (fun h => ?_)
  refine iast_M2 (dG D_X5_asks 19 rfl) (inr_nI (by omega) (by decide)) ?_
  refine V_aload_n (dG D_X5_asks 20 rfl) rfl ?_
  refine gf_X5_13 rfl (dG D_X5_asks 21 rfl) ?_
  refine V_iload_n (dG D_X5_asks 22 rfl) rfl ?_
  refine iald_M2 (dG D_X5_asks 23 rfl) (inr_nI (by omega) (by decide)) ?_
  rw [up_eq]
  exact V_iret (dG D_X5_asks 24 rfl) rfl (Nat.le_of_ble_eq_true rfl) (Nat.le_of_ble_eq_true rfl) ⟨by first | with_reducible rfl | rfl, rfl, by first | with_reducible rfl | rfl, rfl⟩
theorem ox_asks_1 {g : GT} {nt : Nat} {C : St} {o : Int64} {n : Int32} {M : St} (hn : vp_in n 4) : RET g K_X5_asks 0 0 [.ref (ad g 10), .int n] nt C M o (some (.int (s_asks n.toNatClampNeg M).1)) C (s_asks n.toNatClampNeg M).2 o := by
  have e := om_asks (g := g) (nt := nt) (C := C) (o := o) (M := M) (n := n.toNatClampNeg) (vin_lt hn)  
  rw [nI_self (fun z => hn (Or.inl z))] at e
  exact e
def s_marks (t : Int32) (k : Nat) (s : Int32) (M : St) : St := (if s ≤ (M 10 k) then (if s = (M 10 k) then (if (M 11 k) = t then M else (up M 11 k (-2 : Int32))) else M) else (up (up M 10 k s) 11 k t))
theorem om_marks {g : GT} {nt : Nat} {C : St} {o : Int64} {t : Int32} {k : Nat} {s : Int32} {M : St} (hk : k < 32)  : RET g K_X5_marks 0 0 [.ref (ad g 10), .int t, .int (nI k), .int s] nt C M o none C (s_marks t k s M) o := by
  refine MT_of (by decide +kernel) rfl rfl (Nat.le_of_ble_eq_true rfl) (by simp [cat_rf, cat_int, cat_ref]) (fun h => ?_)
  unfold s_marks
  refine V_iload_n (dG D_X5_marks 0 rfl) rfl ?_
  refine V_aload_n (dG D_X5_marks 1 rfl) rfl ?_
  refine gf_X5_39 rfl (dG D_X5_marks 2 rfl) ?_
  refine V_iload_n (dG D_X5_marks 3 rfl) rfl ?_
  refine iald_M10 (dG D_X5_marks 4 rfl) (inr_nI (by omega) (by decide)) ?_
  refine V_icmp_le (tgt := 27) (dG D_X5_marks 5 rfl) (by decide) (fun c_7 => ?_) (fun c_7 => ?_)
  · try rw [if_pos c_7]
    refine V_iload_n (dG D_X5_marks 17 rfl) rfl ?_
    refine V_aload_n (dG D_X5_marks 18 rfl) rfl ?_
    refine gf_X5_39 rfl (dG D_X5_marks 19 rfl) ?_
    refine V_iload_n (dG D_X5_marks 20 rfl) rfl ?_
    refine iald_M10 (dG D_X5_marks 21 rfl) (inr_nI (by omega) (by decide)) ?_
    refine V_icmp_ne (tgt := 55) (dG D_X5_marks 22 rfl) (by decide) (fun c_34 => ?_) (fun c_34 => ?_)
    · try rw [if_neg c_34]
      exact V_vret (dG D_X5_marks 34 rfl) rfl (Nat.le_of_ble_eq_true rfl) (Nat.le_of_ble_eq_true rfl) ⟨by first | with_reducible rfl | rfl, rfl, by first | with_reducible rfl | rfl, rfl⟩
    · try rw [if_pos c_34]
      refine V_aload_n (dG D_X5_marks 23 rfl) rfl ?_
      refine gf_X5_42 rfl (dG D_X5_marks 24 rfl) ?_
      refine V_iload_n (dG D_X5_marks 25 rfl) rfl ?_
      refine iald_M11 (dG D_X5_marks 26 rfl) (inr_nI (by omega) (by decide)) ?_
      refine V_iload_n (dG D_X5_marks 27 rfl) rfl ?_
      refine V_icmp_eq (tgt := 55) (dG D_X5_marks 28 rfl) (by decide) (fun c_44 => ?_) (fun c_44 => ?_)
      · try rw [if_pos c_44]
        exact V_vret (dG D_X5_marks 34 rfl) rfl (Nat.le_of_ble_eq_true rfl) (Nat.le_of_ble_eq_true rfl) ⟨by first | with_reducible rfl | rfl, rfl, by first | with_reducible rfl | rfl, rfl⟩
      · try rw [if_neg c_44]
        refine V_aload_n (dG D_X5_marks 29 rfl) rfl ?_
        refine gf_X5_42 rfl (dG D_X5_marks 30 rfl) ?_
        refine V_iload_n (dG D_X5_marks 31 rfl) rfl ?_
        refine V_bipush (v := -2) (dG D_X5_marks 32 rfl) (by decide) ?_
        refine iast_M11 (dG D_X5_marks 33 rfl) (inr_nI (by omega) (by decide)) ?_
        exact V_vret (dG D_X5_marks 34 rfl) rfl (Nat.le_of_ble_eq_true rfl) (Nat.le_of_ble_eq_true rfl) ⟨by first | with_reducible rfl | rfl, rfl, by first | with_reducible rfl | rfl, rfl⟩
  · try rw [if_neg c_7]
    refine V_aload_n (dG D_X5_marks 6 rfl) rfl ?_
    refine gf_X5_39 rfl (dG D_X5_marks 7 rfl) ?_
    refine V_iload_n (dG D_X5_marks 8 rfl) rfl ?_
    refine V_iload_n (dG D_X5_marks 9 rfl) rfl ?_
    refine iast_M10 (dG D_X5_marks 10 rfl) (inr_nI (by omega) (by decide)) ?_
    refine V_aload_n (dG D_X5_marks 11 rfl) rfl ?_
    refine gf_X5_42 rfl (dG D_X5_marks 12 rfl) ?_
    refine V_iload_n (dG D_X5_marks 13 rfl) rfl ?_
    refine V_iload_n (dG D_X5_marks 14 rfl) rfl ?_
    refine iast_M11 (dG D_X5_marks 15 rfl) (inr_nI (by omega) (by decide)) ?_
    refine V_goto (tgt := 55) (dG D_X5_marks 16 rfl) (by decide) ?_
    exact V_vret (dG D_X5_marks 34 rfl) rfl (Nat.le_of_ble_eq_true rfl) (Nat.le_of_ble_eq_true rfl) ⟨by first | with_reducible rfl | rfl, rfl, by first | with_reducible rfl | rfl, rfl⟩
def s_isTransaction (x : Int32) (M : St) : Int32 × St := (if (s_in x (0 : Int32) ((M 16 0) - (1 : Int32))) = (0 : Int32) then ((0 : Int32), (up M 31 0 (1 : Int32))) else ((1 : Int32), (up M 31 0 (0 : Int32))))
theorem om_isTransaction {g : GT} {nt : Nat} {C : St} {o : Int64} {x : Int32} {M : St} : RET g K_X5_isTransaction 0 0 [.ref (ad g 10), .int x] nt C M o (some (.int (s_isTransaction x M).1)) C (s_isTransaction x M).2 o := by
  refine MT_of (by decide +kernel) rfl rfl (Nat.le_of_ble_eq_true rfl) (by simp [cat_rf, cat_int, cat_ref]) (fun h => ?_)
  unfold s_isTransaction
  refine V_aload_n (dG D_X5_isTransaction 0 rfl) rfl ?_
  refine V_iload_n (dG D_X5_isTransaction 1 rfl) rfl ?_
  refine V_iconst (v := 0) (dG D_X5_isTransaction 2 rfl) (by decide) ?_
  refine V_aload_n (dG D_X5_isTransaction 3 rfl) rfl ?_
  refine gf_X5_125 rfl (dG D_X5_isTransaction 4 rfl) ?_
  refine V_iconst (v := 1) (dG D_X5_isTransaction 5 rfl) (by decide) ?_
  refine V_isub (dG D_X5_isTransaction 6 rfl) ?_
  refine R_vs3 om_in lk_X5_96 (dG D_X5_isTransaction 7 rfl) ⟨Nat.le_of_ble_eq_true rfl, Nat.le_of_ble_eq_true rfl⟩ ⟨(Nat.le_of_ble_eq_true rfl), (Nat.le_of_ble_eq_true rfl)⟩ (by first | exact Nat.le_of_ble_eq_true rfl | simp [cat_rf, cat_int, cat_ref]) (fun h => ?_)
  refine V_if_eq (tgt := 19) (dG D_X5_isTransaction 8 rfl) (by decide) (fun c_12 => ?_) (fun c_12 => ?_)
  · try rw [if_pos c_12]
    refine V_iconst (v := 1) (dG D_X5_isTransaction 11 rfl) (by decide) ?_
    refine pf_X5_93 rfl (dG D_X5_isTransaction 12 rfl) ?_
    refine V_aload_n (dG D_X5_isTransaction 13 rfl) rfl ?_
    refine gf_X5_93 rfl (dG D_X5_isTransaction 14 rfl) ?_
    rw [up_eq]
    refine V_if_ne (tgt := 34) (dG D_X5_isTransaction 15 rfl) (by decide) (fun c_27 => ?_) (fun c_27 => absurd c_27 (by decide))
    refine V_iconst (v := 0) (dG D_X5_isTransaction 18 rfl) (by decide) ?_
    exact V_zret (dG D_X5_isTransaction 19 rfl) rfl (by first | rfl | assumption) (Nat.le_of_ble_eq_true rfl) (Nat.le_of_ble_eq_true rfl) ⟨by first | with_reducible rfl | rfl, rfl, by first | with_reducible rfl | rfl, rfl⟩
  · try rw [if_neg c_12]
    refine V_iconst (v := 0) (dG D_X5_isTransaction 9 rfl) (by decide) ?_
    refine V_goto (tgt := 20) (dG D_X5_isTransaction 10 rfl) (by decide) ?_
    refine pf_X5_93 rfl (dG D_X5_isTransaction 12 rfl) ?_
    refine V_aload_n (dG D_X5_isTransaction 13 rfl) rfl ?_
    refine gf_X5_93 rfl (dG D_X5_isTransaction 14 rfl) ?_
    rw [up_eq]
    refine V_if_ne (tgt := 34) (dG D_X5_isTransaction 15 rfl) (by decide) (fun c_27 => absurd c_27 (by decide)) (fun c_27 => ?_)
    refine V_iconst (v := 1) (dG D_X5_isTransaction 16 rfl) (by decide) ?_
    refine V_goto (tgt := 35) (dG D_X5_isTransaction 17 rfl) (by decide) ?_
    exact V_zret (dG D_X5_isTransaction 19 rfl) rfl (by first | rfl | assumption) (Nat.le_of_ble_eq_true rfl) (Nat.le_of_ble_eq_true rfl) ⟨by first | with_reducible rfl | rfl, rfl, by first | with_reducible rfl | rfl, rfl⟩
def s_areThere (x : Int32) (y : Int32) (M : St) : Int32 × St := (if (s_in x (0 : Int32) ((M 16 0) - (1 : Int32))) = (0 : Int32) then ((0 : Int32), (up M 31 0 (1 : Int32))) else (if (s_in y (0 : Int32) (31 : Int32)) = (0 : Int32) then ((0 : Int32), (up M 31 0 (1 : Int32))) else ((1 : Int32), (up M 31 0 (0 : Int32)))))
theorem om_areThere {g : GT} {nt : Nat} {C : St} {o : Int64} {x : Int32} {y : Int32} {M : St} : RET g K_X5_areThere 0 0 [.ref (ad g 10), .int x, .int y] nt C M o (some (.int (s_areThere x y M).1)) C (s_areThere x y M).2 o := by
  refine MT_of (by decide +kernel) rfl rfl (Nat.le_of_ble_eq_true rfl) (by simp [cat_rf, cat_int, cat_ref]) (fun h => ?_)
  unfold s_areThere
  refine V_aload_n (dG D_X5_areThere 0 rfl) rfl ?_
  refine V_iload_n (dG D_X5_areThere 1 rfl) rfl ?_
  refine V_iconst (v := 0) (dG D_X5_areThere 2 rfl) (by decide) ?_
  refine V_aload_n (dG D_X5_areThere 3 rfl) rfl ?_
  refine gf_X5_125 rfl (dG D_X5_areThere 4 rfl) ?_
  refine V_iconst (v := 1) (dG D_X5_areThere 5 rfl) (by decide) ?_
  refine V_isub (dG D_X5_areThere 6 rfl) ?_
  refine R_vs3 om_in lk_X5_96 (dG D_X5_areThere 7 rfl) ⟨Nat.le_of_ble_eq_true rfl, Nat.le_of_ble_eq_true rfl⟩ ⟨(Nat.le_of_ble_eq_true rfl), (Nat.le_of_ble_eq_true rfl)⟩ (by first | exact Nat.le_of_ble_eq_true rfl | simp [cat_rf, cat_int, cat_ref]) (fun h => ?_)
  refine V_if_eq (tgt := 29) (dG D_X5_areThere 8 rfl) (by decide) (fun c_12 => ?_) (fun c_12 => ?_)
  · try rw [if_pos c_12]
    refine V_iconst (v := 1) (dG D_X5_areThere 16 rfl) (by decide) ?_
    refine pf_X5_93 rfl (dG D_X5_areThere 17 rfl) ?_
    refine V_aload_n (dG D_X5_areThere 18 rfl) rfl ?_
    refine gf_X5_93 rfl (dG D_X5_areThere 19 rfl) ?_
    rw [up_eq]
    refine V_if_ne (tgt := 44) (dG D_X5_areThere 20 rfl) (by decide) (fun c_37 => ?_) (fun c_37 => absurd c_37 (by decide))
    refine V_iconst (v := 0) (dG D_X5_areThere 23 rfl) (by decide) ?_
    exact V_zret (dG D_X5_areThere 24 rfl) rfl (by first | rfl | assumption) (Nat.le_of_ble_eq_true rfl) (Nat.le_of_ble_eq_true rfl) ⟨by first | with_reducible rfl | rfl, rfl, by first | with_reducible rfl | rfl, rfl⟩
  · try rw [if_neg c_12]
    refine V_iload_n (dG D_X5_areThere 9 rfl) rfl ?_
    refine V_iconst (v := 0) (dG D_X5_areThere 10 rfl) (by decide) ?_
    refine V_bipush (v := 31) (dG D_X5_areThere 11 rfl) (by decide) ?_
    refine R_vs3 om_in lk_X5_96 (dG D_X5_areThere 12 rfl) ⟨Nat.le_of_ble_eq_true rfl, Nat.le_of_ble_eq_true rfl⟩ ⟨(Nat.le_of_ble_eq_true rfl), (Nat.le_of_ble_eq_true rfl)⟩ (by first | exact Nat.le_of_ble_eq_true rfl | simp [cat_rf, cat_int, cat_ref]) (fun h => ?_)
    refine V_if_eq (tgt := 29) (dG D_X5_areThere 13 rfl) (by decide) (fun c_22 => ?_) (fun c_22 => ?_)
    · try rw [if_pos c_22]
      refine V_iconst (v := 1) (dG D_X5_areThere 16 rfl) (by decide) ?_
      refine pf_X5_93 rfl (dG D_X5_areThere 17 rfl) ?_
      refine V_aload_n (dG D_X5_areThere 18 rfl) rfl ?_
      refine gf_X5_93 rfl (dG D_X5_areThere 19 rfl) ?_
      rw [up_eq]
      refine V_if_ne (tgt := 44) (dG D_X5_areThere 20 rfl) (by decide) (fun c_37 => ?_) (fun c_37 => absurd c_37 (by decide))
      refine V_iconst (v := 0) (dG D_X5_areThere 23 rfl) (by decide) ?_
      exact V_zret (dG D_X5_areThere 24 rfl) rfl (by first | rfl | assumption) (Nat.le_of_ble_eq_true rfl) (Nat.le_of_ble_eq_true rfl) ⟨by first | with_reducible rfl | rfl, rfl, by first | with_reducible rfl | rfl, rfl⟩
    · try rw [if_neg c_22]
      refine V_iconst (v := 0) (dG D_X5_areThere 14 rfl) (by decide) ?_
      refine V_goto (tgt := 30) (dG D_X5_areThere 15 rfl) (by decide) ?_
      refine pf_X5_93 rfl (dG D_X5_areThere 17 rfl) ?_
      refine V_aload_n (dG D_X5_areThere 18 rfl) rfl ?_
      refine gf_X5_93 rfl (dG D_X5_areThere 19 rfl) ?_
      rw [up_eq]
      refine V_if_ne (tgt := 44) (dG D_X5_areThere 20 rfl) (by decide) (fun c_37 => absurd c_37 (by decide)) (fun c_37 => ?_)
      refine V_iconst (v := 1) (dG D_X5_areThere 21 rfl) (by decide) ?_
      refine V_goto (tgt := 45) (dG D_X5_areThere 22 rfl) (by decide) ?_
      exact V_zret (dG D_X5_areThere 24 rfl) rfl (by first | rfl | assumption) (Nat.le_of_ble_eq_true rfl) (Nat.le_of_ble_eq_true rfl) ⟨by first | with_reducible rfl | rfl, rfl, by first | with_reducible rfl | rfl, rfl⟩
def s_isVanished (i : Nat) (M : St) : Int32 := (if (M 23 i) = (0 : Int32) then (if (M 0 0) ≤ ((M 22 i) + (20 : Int32)) then (0 : Int32) else (1 : Int32)) else (if (M 23 i) = (1 : Int32) then (if (M 0 0) ≤ ((M 22 i) + (20 : Int32)) then (0 : Int32) else (1 : Int32)) else (0 : Int32)))
theorem om_isVanished {g : GT} {nt : Nat} {C : St} {o : Int64} {i : Nat} {M : St} (hi : i < 40)  : RET g K_X5_isVanished 0 0 [.ref (ad g 10), .int (nI i)] nt C M o (some (.int (s_isVanished i M))) C M o := by
  refine MT_of (by decide +kernel) rfl rfl (Nat.le_of_ble_eq_true rfl) (by simp [cat_rf, cat_int, cat_ref]) (fun h => ?_)
  unfold s_isVanished
  refine V_aload_n (dG D_X5_isVanished 0 rfl) rfl ?_
  refine gf_X5_72 rfl (dG D_X5_isVanished 1 rfl) ?_
  refine V_iload_n (dG D_X5_isVanished 2 rfl) rfl ?_
  refine iald_M23 (dG D_X5_isVanished 3 rfl) (inr_nI (by omega) (by decide)) ?_
  refine V_if_eq (tgt := 19) (dG D_X5_isVanished 4 rfl) (by decide) (fun c_6 => ?_) (fun c_6 => ?_)
  · try rw [if_pos c_6]
    refine V_aload_n (dG D_X5_isVanished 11 rfl) rfl ?_
    refine gf_X5_100 rfl (dG D_X5_isVanished 12 rfl) ?_
    refine V_aload_n (dG D_X5_isVanished 13 rfl) rfl ?_
    refine gf_X5_69 rfl (dG D_X5_isVanished 14 rfl) ?_
    refine V_iload_n (dG D_X5_isVanished 15 rfl) rfl ?_
    refine iald_M22 (dG D_X5_isVanished 16 rfl) (inr_nI (by omega) (by decide)) ?_
    refine V_bipush (v := 20) (dG D_X5_isVanished 17 rfl) (by decide) ?_
    refine V_iadd (dG D_X5_isVanished 18 rfl) ?_
    refine V_icmp_le (tgt := 39) (dG D_X5_isVanished 19 rfl) (by decide) (fun c_32 => ?_) (fun c_32 => ?_)
    · try rw [if_pos c_32]
      refine V_iconst (v := 0) (dG D_X5_isVanished 22 rfl) (by decide) ?_
      exact V_zret (dG D_X5_isVanished 23 rfl) rfl (by first | rfl | assumption) (Nat.le_of_ble_eq_true rfl) (Nat.le_of_ble_eq_true rfl) ⟨by first | with_reducible rfl | rfl, rfl, by first | with_reducible rfl | rfl, rfl⟩
    · try rw [if_neg c_32]
      refine V_iconst (v := 1) (dG D_X5_isVanished 20 rfl) (by decide) ?_
      refine V_goto (tgt := 40) (dG D_X5_isVanished 21 rfl) (by decide) ?_
      exact V_zret (dG D_X5_isVanished 23 rfl) rfl (by first | rfl | assumption) (Nat.le_of_ble_eq_true rfl) (Nat.le_of_ble_eq_true rfl) ⟨by first | with_reducible rfl | rfl, rfl, by first | with_reducible rfl | rfl, rfl⟩
  · try rw [if_neg c_6]
    refine V_aload_n (dG D_X5_isVanished 5 rfl) rfl ?_
    refine gf_X5_72 rfl (dG D_X5_isVanished 6 rfl) ?_
    refine V_iload_n (dG D_X5_isVanished 7 rfl) rfl ?_
    refine iald_M23 (dG D_X5_isVanished 8 rfl) (inr_nI (by omega) (by decide)) ?_
    refine V_iconst (v := 1) (dG D_X5_isVanished 9 rfl) (by decide) ?_
    refine V_icmp_ne (tgt := 39) (dG D_X5_isVanished 10 rfl) (by decide) (fun c_16 => ?_) (fun c_16 => ?_)
    · try rw [if_neg c_16]
      refine V_iconst (v := 0) (dG D_X5_isVanished 22 rfl) (by decide) ?_
      exact V_zret (dG D_X5_isVanished 23 rfl) rfl (by first | rfl | assumption) (Nat.le_of_ble_eq_true rfl) (Nat.le_of_ble_eq_true rfl) ⟨by first | with_reducible rfl | rfl, rfl, by first | with_reducible rfl | rfl, rfl⟩
    · try rw [if_pos c_16]
      refine V_aload_n (dG D_X5_isVanished 11 rfl) rfl ?_
      refine gf_X5_100 rfl (dG D_X5_isVanished 12 rfl) ?_
      refine V_aload_n (dG D_X5_isVanished 13 rfl) rfl ?_
      refine gf_X5_69 rfl (dG D_X5_isVanished 14 rfl) ?_
      refine V_iload_n (dG D_X5_isVanished 15 rfl) rfl ?_
      refine iald_M22 (dG D_X5_isVanished 16 rfl) (inr_nI (by omega) (by decide)) ?_
      refine V_bipush (v := 20) (dG D_X5_isVanished 17 rfl) (by decide) ?_
      refine V_iadd (dG D_X5_isVanished 18 rfl) ?_
      refine V_icmp_le (tgt := 39) (dG D_X5_isVanished 19 rfl) (by decide) (fun c_32 => ?_) (fun c_32 => ?_)
      · try rw [if_pos c_32]
        refine V_iconst (v := 0) (dG D_X5_isVanished 22 rfl) (by decide) ?_
        exact V_zret (dG D_X5_isVanished 23 rfl) rfl (by first | rfl | assumption) (Nat.le_of_ble_eq_true rfl) (Nat.le_of_ble_eq_true rfl) ⟨by first | with_reducible rfl | rfl, rfl, by first | with_reducible rfl | rfl, rfl⟩
      · try rw [if_neg c_32]
        refine V_iconst (v := 1) (dG D_X5_isVanished 20 rfl) (by decide) ?_
        refine V_goto (tgt := 40) (dG D_X5_isVanished 21 rfl) (by decide) ?_
        exact V_zret (dG D_X5_isVanished 23 rfl) rfl (by first | rfl | assumption) (Nat.le_of_ble_eq_true rfl) (Nat.le_of_ble_eq_true rfl) ⟨by first | with_reducible rfl | rfl, rfl, by first | with_reducible rfl | rfl, rfl⟩
theorem ox_isVanished_1 {g : GT} {nt : Nat} {C : St} {o : Int64} {i : Int32} {M : St} (hi : vp_in i 40) : RET g K_X5_isVanished 0 0 [.ref (ad g 10), .int i] nt C M o (some (.int (s_isVanished i.toNatClampNeg M))) C M o := by
  have e := om_isVanished (g := g) (nt := nt) (C := C) (o := o) (M := M) (i := i.toNatClampNeg) (vin_lt hi)  
  rw [nI_self (fun z => hi (Or.inl z))] at e
  exact e
def s_waitAnswer (i : Nat) (M : St) : Int32 := (if (M 23 i) = (0 : Int32) then (-11 : Int32) else (-13 : Int32))
theorem om_waitAnswer {g : GT} {nt : Nat} {C : St} {o : Int64} {i : Nat} {M : St} (hi : i < 40)  : RET g K_X5_waitAnswer 0 0 [.ref (ad g 10), .int (nI i)] nt C M o (some (.int (s_waitAnswer i M))) C M o := by
  refine MT_of (by decide +kernel) rfl rfl (Nat.le_of_ble_eq_true rfl) (by simp [cat_rf, cat_int, cat_ref]) (fun h => ?_)
  unfold s_waitAnswer
  refine V_aload_n (dG D_X5_waitAnswer 0 rfl) rfl ?_
  refine gf_X5_72 rfl (dG D_X5_waitAnswer 1 rfl) ?_
  refine V_iload_n (dG D_X5_waitAnswer 2 rfl) rfl ?_
  refine iald_M23 (dG D_X5_waitAnswer 3 rfl) (inr_nI (by omega) (by decide)) ?_
  refine V_if_ne (tgt := 14) (dG D_X5_waitAnswer 4 rfl) (by decide) (fun c_6 => ?_) (fun c_6 => ?_)
  · try rw [if_neg c_6]
    refine V_bipush (v := -13) (dG D_X5_waitAnswer 7 rfl) (by decide) ?_
    exact V_iret (dG D_X5_waitAnswer 8 rfl) rfl (Nat.le_of_ble_eq_true rfl) (Nat.le_of_ble_eq_true rfl) ⟨by first | with_reducible rfl | rfl, rfl, by first | with_reducible rfl | rfl, rfl⟩
  · try rw [if_pos c_6]
    refine V_bipush (v := -11) (dG D_X5_waitAnswer 5 rfl) (by decide) ?_
    refine V_goto (tgt := 16) (dG D_X5_waitAnswer 6 rfl) (by decide) ?_
    exact V_iret (dG D_X5_waitAnswer 8 rfl) rfl (Nat.le_of_ble_eq_true rfl) (Nat.le_of_ble_eq_true rfl) ⟨by first | with_reducible rfl | rfl, rfl, by first | with_reducible rfl | rfl, rfl⟩
theorem nltI {a b : Nat} (c : ¬ nI b ≤ nI a) (ha : a < 2 ^ 31) : a < b := Nat.lt_of_not_le fun q => c (nI_le q ha)
theorem in_ok {x lo hi : Int32} (c : ¬ s_in x lo hi = 0) : ¬ x < lo ∧ ¬ hi < x := by
  unfold s_in at c
  split at c
  · exact absurd rfl c
  · split at c
    · exact absurd rfl c
    · exact ⟨by assumption, by assumption⟩
theorem vp_of {x : Int32} {n : Nat} (h1 : ¬ x < 0) (h2 : ¬ nI n < x) (hn : n < 2 ^ 31 - 1) : vp_in x (n + 1) := by
  rintro (q | q)
  · exact h1 q
  · apply h2
    rw [← nI_self h1]
    refine nI_lt (by omega) ?_
    have := Int32.toInt_le x
    have e : Int32.maxValue.toInt = 2147483647 := by decide
    unfold Int32.toNatClampNeg
    omega
theorem in03 {x : Int32} (c : ¬ s_in x 0 3 = 0) : vp_in x 4 := vp_of (n := 3) (in_ok c).1 (in_ok c).2 (by decide)
theorem in31 {x : Int32} (c : ¬ s_in x 0 31 = 0) : vp_in x 32 := vp_of (n := 31) (in_ok c).1 (in_ok c).2 (by decide)
