/-! the model's methods (4): telling, ending -/
set_option maxHeartbeats 60000
theorem inT {x : Int32} {M : St} {N : Nat} (hm : M 16 0 = nI N) (hN : N ≤ 40) (c : ¬ s_in x 0 (M 16 0 - 1) = 0) : vp_in x 40 := by
  obtain ⟨c1, c2⟩ := in_ok c
  rw [hm] at c2
  by_cases h : N = 0
  · subst h
    exfalso
    apply c2
    exact Int32.lt_of_lt_of_le (show (nI 0 - 1 : Int32) < 0 by decide) (Int32.not_lt.mp c1)
  · obtain ⟨q, rfl⟩ : ∃ q, N = q + 1 := ⟨N - 1, by omega⟩
    rw [nI_pred] at c2
    have h := vin_lt (vp_of (n := q) c1 c2 (by omega))
    rintro (z | z)
    · exact c1 z
    · omega
theorem isT {x : Int32} {M : St} {N : Nat} (hm : M 16 0 = nI N) (hN : N ≤ 40) (c : ¬ (s_isTransaction x M).1 = 0) : vp_in x 40 := by
  unfold s_isTransaction at c
  split at c
  · exact absurd rfl c
  · rename_i c2
    exact inT hm hN c2
theorem isT_row {x : Int32} {M : St} {w : Nat} (h : w ≠ 31) : (s_isTransaction x M).2 w = M w := by
  unfold s_isTransaction
  split
  · exact up_row h
  · exact up_row h
def s_abort (x : Int32) (M : St) : Int32 × St := (if ((s_isTransaction x M).1) = (0 : Int32) then ((0 : Int32), (s_isTransaction x M).2) else (if ((s_isTransaction x M).2 23 x.toNatClampNeg) = (0 : Int32) then ((0 : Int32), (up (s_isTransaction x M).2 23 x.toNatClampNeg (3 : Int32))) else ((-13 : Int32), (s_isTransaction x M).2)))
theorem om_abort {g : GT} {nt : Nat} {C : St} {o : Int64} {x : Int32} {M : St} {N : Nat} (hN : N ≤ 40) (hm : M 16 0 = nI N) : RET g K_X5_abort 0 0 [.ref (ad g 10), .int x] nt C M o (some (.int (s_abort x M).1)) C (s_abort x M).2 o := by
  refine MT_of (by decide +kernel) rfl rfl (Nat.le_of_ble_eq_true rfl) (by simp [cat_rf, cat_int, cat_ref]) (fun h => ?_)
  unfold s_abort
  refine V_aload_n (dG D_X5_abort 0 rfl) rfl ?_
  refine V_iload_n (dG D_X5_abort 1 rfl) rfl ?_
  refine R_vb1 om_isTransaction lk_X5_186 (dG D_X5_abort 2 rfl) rcv_5 ⟨Nat.le_of_ble_eq_true rfl, Nat.le_of_ble_eq_true rfl⟩ ⟨(Nat.le_of_ble_eq_true rfl), (Nat.le_of_ble_eq_true rfl)⟩ (by first | exact Nat.le_of_ble_eq_true rfl | simp [cat_rf, cat_int, cat_ref]) (fun h => ?_)
  refine V_if_ne (tgt := 10) (dG D_X5_abort 3 rfl) (by decide) (fun c_5 => ?_) (fun c_5 => ?_)
  · try rw [if_neg c_5]
    have hvx := isT hm hN c_5
    refine V_aload_n (dG D_X5_abort 6 rfl) rfl ?_
    refine gf_X5_72 rfl (dG D_X5_abort 7 rfl) ?_
    refine V_iload_n (dG D_X5_abort 8 rfl) rfl ?_
    refine iald_M23 (dG D_X5_abort 9 rfl) (inr_of hvx) ?_
    refine V_if_eq (tgt := 22) (dG D_X5_abort 10 rfl) (by decide) (fun c_16 => ?_) (fun c_16 => ?_)
    · try rw [if_pos c_16]
      refine V_aload_n (dG D_X5_abort 13 rfl) rfl ?_
      refine gf_X5_72 rfl (dG D_X5_abort 14 rfl) ?_
      refine V_iload_n (dG D_X5_abort 15 rfl) rfl ?_
      refine V_iconst (v := 3) (dG D_X5_abort 16 rfl) (by decide) ?_
      refine iast_M23 (dG D_X5_abort 17 rfl) (inr_of hvx) ?_
      refine V_iconst (v := 0) (dG D_X5_abort 18 rfl) (by decide) ?_
      exact V_iret (dG D_X5_abort 19 rfl) rfl (Nat.le_of_ble_eq_true rfl) (Nat.le_of_ble_eq_true rfl) ⟨by first | with_reducible rfl | rfl, rfl, by first | with_reducible rfl | rfl, rfl⟩
    · try rw [if_neg c_16]
      refine V_bipush (v := -13) (dG D_X5_abort 11 rfl) (by decide) ?_
      exact V_iret (dG D_X5_abort 12 rfl) rfl (Nat.le_of_ble_eq_true rfl) (Nat.le_of_ble_eq_true rfl) ⟨by first | with_reducible rfl | rfl, rfl, by first | with_reducible rfl | rfl, rfl⟩
  · try rw [if_pos c_5]
    refine V_iconst (v := 0) (dG D_X5_abort 4 rfl) (by decide) ?_
    exact V_iret (dG D_X5_abort 5 rfl) rfl (Nat.le_of_ble_eq_true rfl) (Nat.le_of_ble_eq_true rfl) ⟨by first | with_reducible rfl | rfl, rfl, by first | with_reducible rfl | rfl, rfl⟩
def s_beat (x : Int32) (M : St) : Int32 × St := (if ((s_isTransaction x M).1) = (0 : Int32) then ((0 : Int32), (s_isTransaction x M).2) else (if ((s_isTransaction x M).2 23 x.toNatClampNeg) = (0 : Int32) then ((0 : Int32), (up (s_isTransaction x M).2 22 x.toNatClampNeg ((s_isTransaction x M).2 0 0))) else ((-13 : Int32), (s_isTransaction x M).2)))
theorem om_beat {g : GT} {nt : Nat} {C : St} {o : Int64} {x : Int32} {M : St} {N : Nat} (hN : N ≤ 40) (hm : M 16 0 = nI N) : RET g K_X5_beat 0 0 [.ref (ad g 10), .int x] nt C M o (some (.int (s_beat x M).1)) C (s_beat x M).2 o := by
  refine MT_of (by decide +kernel) rfl rfl (Nat.le_of_ble_eq_true rfl) (by simp [cat_rf, cat_int, cat_ref]) (fun h => ?_)
  unfold s_beat
  refine V_aload_n (dG D_X5_beat 0 rfl) rfl ?_
  refine V_iload_n (dG D_X5_beat 1 rfl) rfl ?_
  refine R_vb1 om_isTransaction lk_X5_186 (dG D_X5_beat 2 rfl) rcv_5 ⟨Nat.le_of_ble_eq_true rfl, Nat.le_of_ble_eq_true rfl⟩ ⟨(Nat.le_of_ble_eq_true rfl), (Nat.le_of_ble_eq_true rfl)⟩ (by first | exact Nat.le_of_ble_eq_true rfl | simp [cat_rf, cat_int, cat_ref]) (fun h => ?_)
  refine V_if_ne (tgt := 10) (dG D_X5_beat 3 rfl) (by decide) (fun c_5 => ?_) (fun c_5 => ?_)
  · try rw [if_neg c_5]
    have hvx := isT hm hN c_5
    refine V_aload_n (dG D_X5_beat 6 rfl) rfl ?_
    refine gf_X5_72 rfl (dG D_X5_beat 7 rfl) ?_
    refine V_iload_n (dG D_X5_beat 8 rfl) rfl ?_
    refine iald_M23 (dG D_X5_beat 9 rfl) (inr_of hvx) ?_
    refine V_if_eq (tgt := 22) (dG D_X5_beat 10 rfl) (by decide) (fun c_16 => ?_) (fun c_16 => ?_)
    · try rw [if_pos c_16]
      refine V_aload_n (dG D_X5_beat 13 rfl) rfl ?_
      refine gf_X5_69 rfl (dG D_X5_beat 14 rfl) ?_
      refine V_iload_n (dG D_X5_beat 15 rfl) rfl ?_
      refine V_aload_n (dG D_X5_beat 16 rfl) rfl ?_
      refine gf_X5_100 rfl (dG D_X5_beat 17 rfl) ?_
      refine iast_M22 (dG D_X5_beat 18 rfl) (inr_of hvx) ?_
      refine V_iconst (v := 0) (dG D_X5_beat 19 rfl) (by decide) ?_
      exact V_iret (dG D_X5_beat 20 rfl) rfl (Nat.le_of_ble_eq_true rfl) (Nat.le_of_ble_eq_true rfl) ⟨by first | with_reducible rfl | rfl, rfl, by first | with_reducible rfl | rfl, rfl⟩
    · try rw [if_neg c_16]
      refine V_bipush (v := -13) (dG D_X5_beat 11 rfl) (by decide) ?_
      exact V_iret (dG D_X5_beat 12 rfl) rfl (Nat.le_of_ble_eq_true rfl) (Nat.le_of_ble_eq_true rfl) ⟨by first | with_reducible rfl | rfl, rfl, by first | with_reducible rfl | rfl, rfl⟩
  · try rw [if_pos c_5]
    refine V_iconst (v := 0) (dG D_X5_beat 4 rfl) (by decide) ?_
    exact V_iret (dG D_X5_beat 5 rfl) rfl (Nat.le_of_ble_eq_true rfl) (Nat.le_of_ble_eq_true rfl) ⟨by first | with_reducible rfl | rfl, rfl, by first | with_reducible rfl | rfl, rfl⟩
def s_recover (x : Int32) (M : St) : Int32 × St := (if ((s_isTransaction x M).1) = (0 : Int32) then ((0 : Int32), (s_isTransaction x M).2) else (if ((s_isTransaction x M).2 23 x.toNatClampNeg) = (1 : Int32) then ((s_recovers x.toNatClampNeg (s_isTransaction x M).2) 23 x.toNatClampNeg, (s_recovers x.toNatClampNeg (s_isTransaction x M).2)) else ((s_isTransaction x M).2 23 x.toNatClampNeg, (s_isTransaction x M).2)))
theorem om_recover {g : GT} {nt : Nat} {C : St} {o : Int64} {x : Int32} {M : St} {N : Nat} (hN : N ≤ 40) (hm : M 16 0 = nI N) (hV : M 23 x.toNatClampNeg = (1 : Int32) → ∃ V, M 12 0 = nI V ∧ V + 32 ≤ 1300) : RET g K_X5_recover 0 0 [.ref (ad g 10), .int x] nt C M o (some (.int (s_recover x M).1)) C (s_recover x M).2 o := by
  refine MT_of (by decide +kernel) rfl rfl (Nat.le_of_ble_eq_true rfl) (by simp [cat_rf, cat_int, cat_ref]) (fun h => ?_)
  unfold s_recover
  refine V_aload_n (dG D_X5_recover 0 rfl) rfl ?_
  refine V_iload_n (dG D_X5_recover 1 rfl) rfl ?_
  refine R_vb1 om_isTransaction lk_X5_186 (dG D_X5_recover 2 rfl) rcv_5 ⟨Nat.le_of_ble_eq_true rfl, Nat.le_of_ble_eq_true rfl⟩ ⟨(Nat.le_of_ble_eq_true rfl), (Nat.le_of_ble_eq_true rfl)⟩ (by first | exact Nat.le_of_ble_eq_true rfl | simp [cat_rf, cat_int, cat_ref]) (fun h => ?_)
  refine V_if_ne (tgt := 10) (dG D_X5_recover 3 rfl) (by decide) (fun c_5 => ?_) (fun c_5 => ?_)
  · try rw [if_neg c_5]
    have hvx := isT hm hN c_5
    refine V_aload_n (dG D_X5_recover 6 rfl) rfl ?_
    refine gf_X5_72 rfl (dG D_X5_recover 7 rfl) ?_
    refine V_iload_n (dG D_X5_recover 8 rfl) rfl ?_
    refine iald_M23 (dG D_X5_recover 9 rfl) (inr_of hvx) ?_
    refine V_iconst (v := 1) (dG D_X5_recover 10 rfl) (by decide) ?_
    refine V_icmp_ne (tgt := 25) (dG D_X5_recover 11 rfl) (by decide) (fun c_17 => ?_) (fun c_17 => ?_)
    · try rw [if_neg c_17]
      refine V_aload_n (dG D_X5_recover 15 rfl) rfl ?_
      refine gf_X5_72 rfl (dG D_X5_recover 16 rfl) ?_
      refine V_iload_n (dG D_X5_recover 17 rfl) rfl ?_
      refine iald_M23 (dG D_X5_recover 18 rfl) (inr_of hvx) ?_
      exact V_iret (dG D_X5_recover 19 rfl) rfl (Nat.le_of_ble_eq_true rfl) (Nat.le_of_ble_eq_true rfl) ⟨by first | with_reducible rfl | rfl, rfl, by first | with_reducible rfl | rfl, rfl⟩
    · try rw [if_pos c_17]
      refine V_aload_n (dG D_X5_recover 12 rfl) rfl ?_
      refine V_iload_n (dG D_X5_recover 13 rfl) rfl ?_
      refine R_nb1 (ox_recovers_1 hvx (by rw [isT_row (by decide)]; exact hV (by rw [isT_row (by decide)] at c_17; exact c_17))) lk_X5_144 (dG D_X5_recover 14 rfl) rcv_5 ⟨Nat.le_of_ble_eq_true rfl, Nat.le_of_ble_eq_true rfl⟩ ⟨(Nat.le_of_ble_eq_true rfl), (Nat.le_of_ble_eq_true rfl)⟩ (by first | exact Nat.le_of_ble_eq_true rfl | simp [cat_rf, cat_int, cat_ref]) (fun h => ?_)
      refine V_aload_n (dG D_X5_recover 15 rfl) rfl ?_
      refine gf_X5_72 rfl (dG D_X5_recover 16 rfl) ?_
      refine V_iload_n (dG D_X5_recover 17 rfl) rfl ?_
      refine iald_M23 (dG D_X5_recover 18 rfl) (inr_of hvx) ?_
      exact V_iret (dG D_X5_recover 19 rfl) rfl (Nat.le_of_ble_eq_true rfl) (Nat.le_of_ble_eq_true rfl) ⟨by first | with_reducible rfl | rfl, rfl, by first | with_reducible rfl | rfl, rfl⟩
  · try rw [if_pos c_5]
    refine V_iconst (v := 0) (dG D_X5_recover 4 rfl) (by decide) ?_
    exact V_iret (dG D_X5_recover 5 rfl) rfl (Nat.le_of_ble_eq_true rfl) (Nat.le_of_ble_eq_true rfl) ⟨by first | with_reducible rfl | rfl, rfl, by first | with_reducible rfl | rfl, rfl⟩
def s_countsRead_5 (t : Nat) : Nat → Int32 → Nat → St → Int32
  | 0, c, i, M => c
  | n + 1, c, i, M => (if (M 28 (32 * t + i)) = (-1 : Int32) then (s_countsRead_5 t n (c + (0 : Int32)) (i + 1) M) else (s_countsRead_5 t n (c + (1 : Int32)) (i + 1) M))
theorem bm_countsRead_5 {g : GT} {nt : Nat} {C : St} {o : Int64}  {t : Nat} (ht : t < 40) : ∀ (n : Nat) (c : Int32) (i : Nat) (M : St) (hi : i + n = 32) (h : Nat × Nat), V g K_X5_counts (kR K_X5_counts 0 0) (qM g 0 0 nt (fun v9 C9 M9 o9 => v9 = some (.int (s_countsRead_5 t n c i M)) ∧ C9 = C ∧ M9 = M ∧ o9 = o) (fun _ _ _ _ => False)) 0 0 nt h C M o 5 [(0, .ref (ad g 10)), (1, .int (nI t)), (2, .ref (ad g 34)), (3, .int c), (4, .int (nI i))] [] := by
  intro n
  induction n with
  | zero =>
    intro c i M hi h
    unfold s_countsRead_5
    refine V_iload (dG D_X5_counts 4 rfl) rfl ?_
    refine V_bipush (v := 32) (dG D_X5_counts 5 rfl) (by decide) ?_
    refine V_icmp_ge (tgt := 39) (dG D_X5_counts 6 rfl) (by decide) (fun c_9 => ?_) (fun c_9 => absurd (l32 (by omega)) c_9)
    refine V_iload_n (dG D_X5_counts 24 rfl) rfl ?_
    exact V_iret (dG D_X5_counts 25 rfl) rfl (Nat.le_of_ble_eq_true rfl) (Nat.le_of_ble_eq_true rfl) ⟨by first | with_reducible rfl | rfl, rfl, by first | with_reducible rfl | rfl, rfl⟩
  | succ n ih =>
    intro c i M hi h
    unfold s_countsRead_5
    refine V_iload (dG D_X5_counts 4 rfl) rfl ?_
    refine V_bipush (v := 32) (dG D_X5_counts 5 rfl) (by decide) ?_
    refine V_icmp_ge (tgt := 39) (dG D_X5_counts 6 rfl) (by decide) (fun c_9 => absurd c_9 (g32 (by omega))) (fun c_9 => ?_)
    refine V_iload_n (dG D_X5_counts 7 rfl) rfl ?_
    refine V_aload_n (dG D_X5_counts 8 rfl) rfl ?_
    refine V_bipush (v := 32) (dG D_X5_counts 9 rfl) (by decide) ?_
    refine V_iload_n (dG D_X5_counts 10 rfl) rfl ?_
    refine V_imul (dG D_X5_counts 11 rfl) ?_
    refine V_iload (dG D_X5_counts 12 rfl) rfl ?_
    refine V_iadd (dG D_X5_counts 13 rfl) ?_
    refine iald_M28 (dG D_X5_counts 14 rfl) (show inr (((32 : Int32) * (nI t)) + (nI i)) 1280 (32 * t + i) from by rw [(ix32 _ _)]; exact inr_nI (by omega) (by decide)) ?_
    refine V_iconst (v := -1) (dG D_X5_counts 15 rfl) (by decide) ?_
    refine V_icmp_eq (tgt := 30) (dG D_X5_counts 16 rfl) (by decide) (fun c_23 => ?_) (fun c_23 => ?_)
    · try rw [if_pos c_23]
      refine V_iconst (v := 0) (dG D_X5_counts 19 rfl) (by decide) ?_
      refine V_iadd (dG D_X5_counts 20 rfl) ?_
      refine V_istore_n (dG D_X5_counts 21 rfl) (Nat.le_of_ble_eq_true rfl) ?_
      refine V_iinc (dG D_X5_counts 22 rfl) rfl (inc1 _) (Nat.le_of_ble_eq_true rfl) ?_
      refine V_goto (tgt := 5) (dG D_X5_counts 23 rfl) (by decide) ?_
      refine V_sub [0, 1, 2, 3, 4] rfl ?_
      exact ih (c + (0 : Int32)) (i + 1) M (by omega) h
    · try rw [if_neg c_23]
      refine V_iconst (v := 1) (dG D_X5_counts 17 rfl) (by decide) ?_
      refine V_goto (tgt := 31) (dG D_X5_counts 18 rfl) (by decide) ?_
      refine V_iadd (dG D_X5_counts 20 rfl) ?_
      refine V_istore_n (dG D_X5_counts 21 rfl) (Nat.le_of_ble_eq_true rfl) ?_
      refine V_iinc (dG D_X5_counts 22 rfl) rfl (inc1 _) (Nat.le_of_ble_eq_true rfl) ?_
      refine V_goto (tgt := 5) (dG D_X5_counts 23 rfl) (by decide) ?_
      refine V_sub [0, 1, 2, 3, 4] rfl ?_
      exact ih (c + (1 : Int32)) (i + 1) M (by omega) h
def s_countsRead (t : Nat) (M : St) : Int32 := (s_countsRead_5 t 32 (0 : Int32) 0 M)
theorem om_countsRead {g : GT} {nt : Nat} {C : St} {o : Int64} {t : Nat} {M : St} (ht : t < 40)  : RET g K_X5_counts 0 0 [.ref (ad g 10), .int (nI t), .ref (ad g 34)] nt C M o (some (.int (s_countsRead t M))) C M o := by
  refine MT_of (by decide +kernel) rfl rfl (Nat.le_of_ble_eq_true rfl) (by simp [cat_rf, cat_int, cat_ref]) (fun h => ?_)
  unfold s_countsRead
  refine V_iconst (v := 0) (dG D_X5_counts 0 rfl) (by decide) ?_
  refine V_istore_n (dG D_X5_counts 1 rfl) (Nat.le_of_ble_eq_true rfl) ?_
  refine V_iconst (v := 0) (dG D_X5_counts 2 rfl) (by decide) ?_
  refine V_istore (dG D_X5_counts 3 rfl) (Nat.le_of_ble_eq_true rfl) ?_
  refine V_sub [0, 1, 2, 3, 4] rfl ?_
  exact bm_countsRead_5 ht  32 (0 : Int32) 0 M (by omega) h
theorem ox_countsRead_1 {g : GT} {nt : Nat} {C : St} {o : Int64} {t : Int32} {M : St} (ht : vp_in t 40) : RET g K_X5_counts 0 0 [.ref (ad g 10), .int t, .ref (ad g 34)] nt C M o (some (.int (s_countsRead t.toNatClampNeg M))) C M o := by
  have e := om_countsRead (g := g) (nt := nt) (C := C) (o := o) (M := M) (t := t.toNatClampNeg) (vin_lt ht)  
  rw [nI_self (fun z => ht (Or.inl z))] at e
  exact e
def s_countsWritten_5 (t : Nat) : Nat → Int32 → Nat → St → Int32
  | 0, c, i, M => c
  | n + 1, c, i, M => (if (M 29 (32 * t + i)) = (-1 : Int32) then (s_countsWritten_5 t n (c + (0 : Int32)) (i + 1) M) else (s_countsWritten_5 t n (c + (1 : Int32)) (i + 1) M))
theorem bm_countsWritten_5 {g : GT} {nt : Nat} {C : St} {o : Int64}  {t : Nat} (ht : t < 40) : ∀ (n : Nat) (c : Int32) (i : Nat) (M : St) (hi : i + n = 32) (h : Nat × Nat), V g K_X5_counts (kR K_X5_counts 0 0) (qM g 0 0 nt (fun v9 C9 M9 o9 => v9 = some (.int (s_countsWritten_5 t n c i M)) ∧ C9 = C ∧ M9 = M ∧ o9 = o) (fun _ _ _ _ => False)) 0 0 nt h C M o 5 [(0, .ref (ad g 10)), (1, .int (nI t)), (2, .ref (ad g 35)), (3, .int c), (4, .int (nI i))] [] := by
  intro n
  induction n with
  | zero =>
    intro c i M hi h
    unfold s_countsWritten_5
    refine V_iload (dG D_X5_counts 4 rfl) rfl ?_
    refine V_bipush (v := 32) (dG D_X5_counts 5 rfl) (by decide) ?_
    refine V_icmp_ge (tgt := 39) (dG D_X5_counts 6 rfl) (by decide) (fun c_9 => ?_) (fun c_9 => absurd (l32 (by omega)) c_9)
    refine V_iload_n (dG D_X5_counts 24 rfl) rfl ?_
    exact V_iret (dG D_X5_counts 25 rfl) rfl (Nat.le_of_ble_eq_true rfl) (Nat.le_of_ble_eq_true rfl) ⟨by first | with_reducible rfl | rfl, rfl, by first | with_reducible rfl | rfl, rfl⟩
  | succ n ih =>
    intro c i M hi h
    unfold s_countsWritten_5
    refine V_iload (dG D_X5_counts 4 rfl) rfl ?_
    refine V_bipush (v := 32) (dG D_X5_counts 5 rfl) (by decide) ?_
    refine V_icmp_ge (tgt := 39) (dG D_X5_counts 6 rfl) (by decide) (fun c_9 => absurd c_9 (g32 (by omega))) (fun c_9 => ?_)
    refine V_iload_n (dG D_X5_counts 7 rfl) rfl ?_
    refine V_aload_n (dG D_X5_counts 8 rfl) rfl ?_
    refine V_bipush (v := 32) (dG D_X5_counts 9 rfl) (by decide) ?_
    refine V_iload_n (dG D_X5_counts 10 rfl) rfl ?_
    refine V_imul (dG D_X5_counts 11 rfl) ?_
    refine V_iload (dG D_X5_counts 12 rfl) rfl ?_
    refine V_iadd (dG D_X5_counts 13 rfl) ?_
    refine iald_M29 (dG D_X5_counts 14 rfl) (show inr (((32 : Int32) * (nI t)) + (nI i)) 1280 (32 * t + i) from by rw [(ix32 _ _)]; exact inr_nI (by omega) (by decide)) ?_
    refine V_iconst (v := -1) (dG D_X5_counts 15 rfl) (by decide) ?_
    refine V_icmp_eq (tgt := 30) (dG D_X5_counts 16 rfl) (by decide) (fun c_23 => ?_) (fun c_23 => ?_)
    · try rw [if_pos c_23]
      refine V_iconst (v := 0) (dG D_X5_counts 19 rfl) (by decide) ?_
      refine V_iadd (dG D_X5_counts 20 rfl) ?_
      refine V_istore_n (dG D_X5_counts 21 rfl) (Nat.le_of_ble_eq_true rfl) ?_
      refine V_iinc (dG D_X5_counts 22 rfl) rfl (inc1 _) (Nat.le_of_ble_eq_true rfl) ?_
      refine V_goto (tgt := 5) (dG D_X5_counts 23 rfl) (by decide) ?_
      refine V_sub [0, 1, 2, 3, 4] rfl ?_
      exact ih (c + (0 : Int32)) (i + 1) M (by omega) h
    · try rw [if_neg c_23]
      refine V_iconst (v := 1) (dG D_X5_counts 17 rfl) (by decide) ?_
      refine V_goto (tgt := 31) (dG D_X5_counts 18 rfl) (by decide) ?_
      refine V_iadd (dG D_X5_counts 20 rfl) ?_
      refine V_istore_n (dG D_X5_counts 21 rfl) (Nat.le_of_ble_eq_true rfl) ?_
      refine V_iinc (dG D_X5_counts 22 rfl) rfl (inc1 _) (Nat.le_of_ble_eq_true rfl) ?_
      refine V_goto (tgt := 5) (dG D_X5_counts 23 rfl) (by decide) ?_
      refine V_sub [0, 1, 2, 3, 4] rfl ?_
      exact ih (c + (1 : Int32)) (i + 1) M (by omega) h
def s_countsWritten (t : Nat) (M : St) : Int32 := (s_countsWritten_5 t 32 (0 : Int32) 0 M)
theorem om_countsWritten {g : GT} {nt : Nat} {C : St} {o : Int64} {t : Nat} {M : St} (ht : t < 40)  : RET g K_X5_counts 0 0 [.ref (ad g 10), .int (nI t), .ref (ad g 35)] nt C M o (some (.int (s_countsWritten t M))) C M o := by
  refine MT_of (by decide +kernel) rfl rfl (Nat.le_of_ble_eq_true rfl) (by simp [cat_rf, cat_int, cat_ref]) (fun h => ?_)
  unfold s_countsWritten
  refine V_iconst (v := 0) (dG D_X5_counts 0 rfl) (by decide) ?_
  refine V_istore_n (dG D_X5_counts 1 rfl) (Nat.le_of_ble_eq_true rfl) ?_
  refine V_iconst (v := 0) (dG D_X5_counts 2 rfl) (by decide) ?_
  refine V_istore (dG D_X5_counts 3 rfl) (Nat.le_of_ble_eq_true rfl) ?_
  refine V_sub [0, 1, 2, 3, 4] rfl ?_
  exact bm_countsWritten_5 ht  32 (0 : Int32) 0 M (by omega) h
theorem ox_countsWritten_1 {g : GT} {nt : Nat} {C : St} {o : Int64} {t : Int32} {M : St} (ht : vp_in t 40) : RET g K_X5_counts 0 0 [.ref (ad g 10), .int t, .ref (ad g 35)] nt C M o (some (.int (s_countsWritten t.toNatClampNeg M))) C M o := by
  have e := om_countsWritten (g := g) (nt := nt) (C := C) (o := o) (M := M) (t := t.toNatClampNeg) (vin_lt ht)  
  rw [nI_self (fun z => ht (Or.inl z))] at e
  exact e
def s_told (x : Int32) (w : Int32) (M : St) : Int32 × St := (if (s_in x (0 : Int32) ((M 16 0) - (1 : Int32))) = (0 : Int32) then ((0 : Int32), (up M 31 0 (1 : Int32))) else (if (s_in w (0 : Int32) (6 : Int32)) = (0 : Int32) then ((0 : Int32), (up M 31 0 (2 : Int32))) else (if w = (0 : Int32) then (M 23 x.toNatClampNeg, (up M 31 0 (0 : Int32))) else (if w = (1 : Int32) then (M 19 x.toNatClampNeg, (up M 31 0 (0 : Int32))) else (if w = (2 : Int32) then (M 20 x.toNatClampNeg, (up M 31 0 (0 : Int32))) else (if w = (3 : Int32) then ((s_waitsFor x.toNatClampNeg (up M 31 0 (0 : Int32))), (up M 31 0 (0 : Int32))) else (if w = (4 : Int32) then ((s_countsRead x.toNatClampNeg (up M 31 0 (0 : Int32))), (up M 31 0 (0 : Int32))) else (if w = (5 : Int32) then ((s_countsWritten x.toNatClampNeg (up M 31 0 (0 : Int32))), (up M 31 0 (0 : Int32))) else (if (s_isVanished x.toNatClampNeg (up M 31 0 (0 : Int32))) = (0 : Int32) then ((0 : Int32), (up M 31 0 (0 : Int32))) else ((1 : Int32), (up M 31 0 (0 : Int32))))))))))))
theorem om_told {g : GT} {nt : Nat} {C : St} {o : Int64} {x : Int32} {w : Int32} {M : St} {N : Nat} (hN : N ≤ 40) (hm : M 16 0 = nI N) (hw : ∀ i, i < 40 → ¬ M 24 i = (-1 : Int32) → vp_in (M 24 i) 40) : RET g K_X5_told 0 0 [.ref (ad g 10), .int x, .int w] nt C M o (some (.int (s_told x w M).1)) C (s_told x w M).2 o := by
  refine MT_of (by decide +kernel) rfl rfl (Nat.le_of_ble_eq_true rfl) (by simp [cat_rf, cat_int, cat_ref]) (fun h => ?_)
  unfold s_told
  refine V_aload_n (dG D_X5_told 0 rfl) rfl ?_
  refine V_iload_n (dG D_X5_told 1 rfl) rfl ?_
  refine V_iconst (v := 0) (dG D_X5_told 2 rfl) (by decide) ?_
  refine V_aload_n (dG D_X5_told 3 rfl) rfl ?_
  refine gf_X5_125 rfl (dG D_X5_told 4 rfl) ?_
  refine V_iconst (v := 1) (dG D_X5_told 5 rfl) (by decide) ?_
  refine V_isub (dG D_X5_told 6 rfl) ?_
  refine R_vs3 om_in lk_X5_96 (dG D_X5_told 7 rfl) ⟨Nat.le_of_ble_eq_true rfl, Nat.le_of_ble_eq_true rfl⟩ ⟨(Nat.le_of_ble_eq_true rfl), (Nat.le_of_ble_eq_true rfl)⟩ (by first | exact Nat.le_of_ble_eq_true rfl | simp [cat_rf, cat_int, cat_ref]) (fun h => ?_)
  refine V_if_ne (tgt := 19) (dG D_X5_told 8 rfl) (by decide) (fun c_12 => ?_) (fun c_12 => ?_)
  · try rw [if_neg c_12]
    have hvx := inT hm hN c_12
    refine V_iload_n (dG D_X5_told 11 rfl) rfl ?_
    refine V_iconst (v := 0) (dG D_X5_told 12 rfl) (by decide) ?_
    refine V_bipush (v := 6) (dG D_X5_told 13 rfl) (by decide) ?_
    refine R_vs3 om_in lk_X5_96 (dG D_X5_told 14 rfl) ⟨Nat.le_of_ble_eq_true rfl, Nat.le_of_ble_eq_true rfl⟩ ⟨(Nat.le_of_ble_eq_true rfl), (Nat.le_of_ble_eq_true rfl)⟩ (by first | exact Nat.le_of_ble_eq_true rfl | simp [cat_rf, cat_int, cat_ref]) (fun h => ?_)
    refine V_if_ne (tgt := 33) (dG D_X5_told 15 rfl) (by decide) (fun c_26 => ?_) (fun c_26 => ?_)
    · try rw [if_neg c_26]
      refine V_iconst (v := 0) (dG D_X5_told 18 rfl) (by decide) ?_
      refine pf_X5_93 rfl (dG D_X5_told 19 rfl) ?_
      refine V_aload_n (dG D_X5_told 20 rfl) rfl ?_
      refine gf_X5_93 rfl (dG D_X5_told 21 rfl) ?_
      rw [up_eq]
      refine V_if_le (tgt := 46) (dG D_X5_told 22 rfl) (by decide) (fun c_41 => ?_) (fun c_41 => absurd c_41 (by decide))
      refine V_iload_n (dG D_X5_told 25 rfl) rfl ?_
      refine V_istore_n (dG D_X5_told 26 rfl) (Nat.le_of_ble_eq_true rfl) ?_
      refine V_iload_n (dG D_X5_told 27 rfl) rfl ?_
      refine V_if_ne (tgt := 61) (dG D_X5_told 28 rfl) (by decide) (fun c_49 => ?_) (fun c_49 => ?_)
      · try rw [if_neg c_49]
        refine V_iload_n (dG D_X5_told 34 rfl) rfl ?_
        refine V_iconst (v := 1) (dG D_X5_told 35 rfl) (by decide) ?_
        refine V_icmp_ne (tgt := 75) (dG D_X5_told 36 rfl) (by decide) (fun c_63 => ?_) (fun c_63 => ?_)
        · try rw [if_neg c_63]
          refine V_iload_n (dG D_X5_told 42 rfl) rfl ?_
          refine V_iconst (v := 2) (dG D_X5_told 43 rfl) (by decide) ?_
          refine V_icmp_ne (tgt := 89) (dG D_X5_told 44 rfl) (by decide) (fun c_77 => ?_) (fun c_77 => ?_)
          · try rw [if_neg c_77]
            refine V_iload_n (dG D_X5_told 50 rfl) rfl ?_
            refine V_iconst (v := 3) (dG D_X5_told 51 rfl) (by decide) ?_
            refine V_icmp_ne (tgt := 102) (dG D_X5_told 52 rfl) (by decide) (fun c_91 => ?_) (fun c_91 => ?_)
            · try rw [if_neg c_91]
              refine V_iload_n (dG D_X5_told 57 rfl) rfl ?_
              refine V_iconst (v := 4) (dG D_X5_told 58 rfl) (by decide) ?_
              refine V_icmp_ne (tgt := 119) (dG D_X5_told 59 rfl) (by decide) (fun c_104 => ?_) (fun c_104 => ?_)
              · try rw [if_neg c_104]
                refine V_iload_n (dG D_X5_told 66 rfl) rfl ?_
                refine V_iconst (v := 5) (dG D_X5_told 67 rfl) (by decide) ?_
                refine V_icmp_ne (tgt := 136) (dG D_X5_told 68 rfl) (by decide) (fun c_121 => ?_) (fun c_121 => ?_)
                · try rw [if_neg c_121]
                  refine V_aload_n (dG D_X5_told 75 rfl) rfl ?_
                  refine V_iload_n (dG D_X5_told 76 rfl) rfl ?_
                  refine R_vb1 (ox_isVanished_1 hvx ) lk_X5_147 (dG D_X5_told 77 rfl) rcv_5 ⟨Nat.le_of_ble_eq_true rfl, Nat.le_of_ble_eq_true rfl⟩ ⟨(Nat.le_of_ble_eq_true rfl), (Nat.le_of_ble_eq_true rfl)⟩ (by first | exact Nat.le_of_ble_eq_true rfl | simp [cat_rf, cat_int, cat_ref]) (fun h => ?_)
                  refine V_if_eq (tgt := 148) (dG D_X5_told 78 rfl) (by decide) (fun c_141 => ?_) (fun c_141 => ?_)
                  · try rw [if_pos c_141]
                    refine V_iconst (v := 0) (dG D_X5_told 81 rfl) (by decide) ?_
                    exact V_iret (dG D_X5_told 82 rfl) rfl (Nat.le_of_ble_eq_true rfl) (Nat.le_of_ble_eq_true rfl) ⟨by first | with_reducible rfl | rfl, rfl, by first | with_reducible rfl | rfl, rfl⟩
                  · try rw [if_neg c_141]
                    refine V_iconst (v := 1) (dG D_X5_told 79 rfl) (by decide) ?_
                    refine V_goto (tgt := 149) (dG D_X5_told 80 rfl) (by decide) ?_
                    exact V_iret (dG D_X5_told 82 rfl) rfl (Nat.le_of_ble_eq_true rfl) (Nat.le_of_ble_eq_true rfl) ⟨by first | with_reducible rfl | rfl, rfl, by first | with_reducible rfl | rfl, rfl⟩
                · try rw [if_pos c_121]
                  refine V_aload_n (dG D_X5_told 69 rfl) rfl ?_
                  refine V_iload_n (dG D_X5_told 70 rfl) rfl ?_
                  refine V_aload_n (dG D_X5_told 71 rfl) rfl ?_
                  refine gf_X5_87 rfl (dG D_X5_told 72 rfl) ?_
                  refine R_vb2 (ox_countsWritten_1 hvx ) lk_X5_189 (dG D_X5_told 73 rfl) rcv_5 ⟨Nat.le_of_ble_eq_true rfl, Nat.le_of_ble_eq_true rfl⟩ ⟨(Nat.le_of_ble_eq_true rfl), (Nat.le_of_ble_eq_true rfl)⟩ (by first | exact Nat.le_of_ble_eq_true rfl | simp [cat_rf, cat_int, cat_ref]) (fun h => ?_)
                  refine V_goto (tgt := 149) (dG D_X5_told 74 rfl) (by decide) ?_
                  exact V_iret (dG D_X5_told 82 rfl) rfl (Nat.le_of_ble_eq_true rfl) (Nat.le_of_ble_eq_true rfl) ⟨by first | with_reducible rfl | rfl, rfl, by first | with_reducible rfl | rfl, rfl⟩
              · try rw [if_pos c_104]
                refine V_aload_n (dG D_X5_told 60 rfl) rfl ?_
                refine V_iload_n (dG D_X5_told 61 rfl) rfl ?_
                refine V_aload_n (dG D_X5_told 62 rfl) rfl ?_
                refine gf_X5_84 rfl (dG D_X5_told 63 rfl) ?_
                refine R_vb2 (ox_countsRead_1 hvx ) lk_X5_189 (dG D_X5_told 64 rfl) rcv_5 ⟨Nat.le_of_ble_eq_true rfl, Nat.le_of_ble_eq_true rfl⟩ ⟨(Nat.le_of_ble_eq_true rfl), (Nat.le_of_ble_eq_true rfl)⟩ (by first | exact Nat.le_of_ble_eq_true rfl | simp [cat_rf, cat_int, cat_ref]) (fun h => ?_)
                refine V_goto (tgt := 149) (dG D_X5_told 65 rfl) (by decide) ?_
                exact V_iret (dG D_X5_told 82 rfl) rfl (Nat.le_of_ble_eq_true rfl) (Nat.le_of_ble_eq_true rfl) ⟨by first | with_reducible rfl | rfl, rfl, by first | with_reducible rfl | rfl, rfl⟩
            · try rw [if_pos c_91]
              refine V_aload_n (dG D_X5_told 53 rfl) rfl ?_
              refine V_iload_n (dG D_X5_told 54 rfl) rfl ?_
              refine R_vb1 (ox_waitsFor_1 hvx (by rw [up_row (by decide)]; exact hw _ (vin_lt hvx))) lk_X5_160 (dG D_X5_told 55 rfl) rcv_5 ⟨Nat.le_of_ble_eq_true rfl, Nat.le_of_ble_eq_true rfl⟩ ⟨(Nat.le_of_ble_eq_true rfl), (Nat.le_of_ble_eq_true rfl)⟩ (by first | exact Nat.le_of_ble_eq_true rfl | simp [cat_rf, cat_int, cat_ref]) (fun h => ?_)
              refine V_goto (tgt := 149) (dG D_X5_told 56 rfl) (by decide) ?_
              exact V_iret (dG D_X5_told 82 rfl) rfl (Nat.le_of_ble_eq_true rfl) (Nat.le_of_ble_eq_true rfl) ⟨by first | with_reducible rfl | rfl, rfl, by first | with_reducible rfl | rfl, rfl⟩
          · try rw [if_pos c_77]
            refine V_aload_n (dG D_X5_told 45 rfl) rfl ?_
            refine gf_X5_63 rfl (dG D_X5_told 46 rfl) ?_
            refine V_iload_n (dG D_X5_told 47 rfl) rfl ?_
            refine iald_M20 (dG D_X5_told 48 rfl) (inr_of hvx) ?_
            rw [up_row (v := 31) (w := 20) (by decide)]
            refine V_goto (tgt := 149) (dG D_X5_told 49 rfl) (by decide) ?_
            exact V_iret (dG D_X5_told 82 rfl) rfl (Nat.le_of_ble_eq_true rfl) (Nat.le_of_ble_eq_true rfl) ⟨by first | with_reducible rfl | rfl, rfl, by first | with_reducible rfl | rfl, rfl⟩
        · try rw [if_pos c_63]
          refine V_aload_n (dG D_X5_told 37 rfl) rfl ?_
          refine gf_X5_60 rfl (dG D_X5_told 38 rfl) ?_
          refine V_iload_n (dG D_X5_told 39 rfl) rfl ?_
          refine iald_M19 (dG D_X5_told 40 rfl) (inr_of hvx) ?_
          rw [up_row (v := 31) (w := 19) (by decide)]
          refine V_goto (tgt := 149) (dG D_X5_told 41 rfl) (by decide) ?_
          exact V_iret (dG D_X5_told 82 rfl) rfl (Nat.le_of_ble_eq_true rfl) (Nat.le_of_ble_eq_true rfl) ⟨by first | with_reducible rfl | rfl, rfl, by first | with_reducible rfl | rfl, rfl⟩
      · try rw [if_pos c_49]
        refine V_aload_n (dG D_X5_told 29 rfl) rfl ?_
        refine gf_X5_72 rfl (dG D_X5_told 30 rfl) ?_
        refine V_iload_n (dG D_X5_told 31 rfl) rfl ?_
        refine iald_M23 (dG D_X5_told 32 rfl) (inr_of hvx) ?_
        rw [up_row (v := 31) (w := 23) (by decide)]
        refine V_goto (tgt := 149) (dG D_X5_told 33 rfl) (by decide) ?_
        exact V_iret (dG D_X5_told 82 rfl) rfl (Nat.le_of_ble_eq_true rfl) (Nat.le_of_ble_eq_true rfl) ⟨by first | with_reducible rfl | rfl, rfl, by first | with_reducible rfl | rfl, rfl⟩
    · try rw [if_pos c_26]
      refine V_iconst (v := 2) (dG D_X5_told 16 rfl) (by decide) ?_
      refine V_goto (tgt := 34) (dG D_X5_told 17 rfl) (by decide) ?_
      refine pf_X5_93 rfl (dG D_X5_told 19 rfl) ?_
      refine V_aload_n (dG D_X5_told 20 rfl) rfl ?_
      refine gf_X5_93 rfl (dG D_X5_told 21 rfl) ?_
      rw [up_eq]
      refine V_if_le (tgt := 46) (dG D_X5_told 22 rfl) (by decide) (fun c_41 => absurd c_41 (by decide)) (fun c_41 => ?_)
      refine V_iconst (v := 0) (dG D_X5_told 23 rfl) (by decide) ?_
      exact V_iret (dG D_X5_told 24 rfl) rfl (Nat.le_of_ble_eq_true rfl) (Nat.le_of_ble_eq_true rfl) ⟨by first | with_reducible rfl | rfl, rfl, by first | with_reducible rfl | rfl, rfl⟩
  · try rw [if_pos c_12]
    refine V_iconst (v := 1) (dG D_X5_told 9 rfl) (by decide) ?_
    refine V_goto (tgt := 34) (dG D_X5_told 10 rfl) (by decide) ?_
    refine pf_X5_93 rfl (dG D_X5_told 19 rfl) ?_
    refine V_aload_n (dG D_X5_told 20 rfl) rfl ?_
    refine gf_X5_93 rfl (dG D_X5_told 21 rfl) ?_
    rw [up_eq]
    refine V_if_le (tgt := 46) (dG D_X5_told 22 rfl) (by decide) (fun c_41 => absurd c_41 (by decide)) (fun c_41 => ?_)
    refine V_iconst (v := 0) (dG D_X5_told 23 rfl) (by decide) ?_
    exact V_iret (dG D_X5_told 24 rfl) rfl (Nat.le_of_ble_eq_true rfl) (Nat.le_of_ble_eq_true rfl) ⟨by first | with_reducible rfl | rfl, rfl, by first | with_reducible rfl | rfl, rfl⟩
def s_resolvedNow_7 : Nat → Int32 → Nat → St → Int32
  | 0, s, i, M => s
  | n + 1, s, i, M => (if (M 23 i) = (1 : Int32) then (if s ≤ ((M 20 i) - (1 : Int32)) then (s_resolvedNow_7 n s (i + 1) M) else (s_resolvedNow_7 n ((M 20 i) - (1 : Int32)) (i + 1) M)) else (s_resolvedNow_7 n s (i + 1) M))
theorem bm_resolvedNow_7 {g : GT} {nt : Nat} {C : St} {o : Int64}  {N : Nat} (hN : N ≤ 40) : ∀ (n : Nat) (s : Int32) (i : Nat) (M : St) (hi : i + n = N) (hm : M 16 0 = nI N) (h : Nat × Nat), V g K_X5_resolvedNow (kR K_X5_resolvedNow 0 0) (qM g 0 0 nt (fun v9 C9 M9 o9 => v9 = some (.int (s_resolvedNow_7 n s i M)) ∧ C9 = C ∧ M9 = M ∧ o9 = o) (fun _ _ _ _ => False)) 0 0 nt h C M o 7 [(0, .ref (ad g 10)), (1, .int s), (2, .int (nI i))] [] := by
  intro n
  induction n with
  | zero =>
    intro s i M hi hm h
    unfold s_resolvedNow_7
    refine V_iload_n (dG D_X5_resolvedNow 5 rfl) rfl ?_
    refine V_aload_n (dG D_X5_resolvedNow 6 rfl) rfl ?_
    refine gf_X5_125 rfl (dG D_X5_resolvedNow 7 rfl) ?_
    refine V_icmp_ge (tgt := 56) (dG D_X5_resolvedNow 8 rfl) (by decide) (fun c_12 => ?_) (fun c_12 => absurd (by rw [hm]; exact nI_le (by omega) (by omega)) c_12)
    refine V_iload_n (dG D_X5_resolvedNow 34 rfl) rfl ?_
    exact V_iret (dG D_X5_resolvedNow 35 rfl) rfl (Nat.le_of_ble_eq_true rfl) (Nat.le_of_ble_eq_true rfl) ⟨by first | with_reducible rfl | rfl, rfl, by first | with_reducible rfl | rfl, rfl⟩
  | succ n ih =>
    intro s i M hi hm h
    unfold s_resolvedNow_7
    refine V_iload_n (dG D_X5_resolvedNow 5 rfl) rfl ?_
    refine V_aload_n (dG D_X5_resolvedNow 6 rfl) rfl ?_
    refine gf_X5_125 rfl (dG D_X5_resolvedNow 7 rfl) ?_
    refine V_icmp_ge (tgt := 56) (dG D_X5_resolvedNow 8 rfl) (by decide) (fun c_12 => absurd c_12 (by rw [hm]; exact nI_ge (by omega) (by omega))) (fun c_12 => ?_)
    refine V_aload_n (dG D_X5_resolvedNow 9 rfl) rfl ?_
    refine gf_X5_72 rfl (dG D_X5_resolvedNow 10 rfl) ?_
    refine V_iload_n (dG D_X5_resolvedNow 11 rfl) rfl ?_
    refine iald_M23 (dG D_X5_resolvedNow 12 rfl) (inr_nI (by omega) (by decide)) ?_
    refine V_iconst (v := 1) (dG D_X5_resolvedNow 13 rfl) (by decide) ?_
    refine V_icmp_ne (tgt := 48) (dG D_X5_resolvedNow 14 rfl) (by decide) (fun c_22 => ?_) (fun c_22 => ?_)
    · try rw [if_neg c_22]
      refine V_iload_n (dG D_X5_resolvedNow 30 rfl) rfl ?_
      refine V_istore_n (dG D_X5_resolvedNow 31 rfl) (Nat.le_of_ble_eq_true rfl) ?_
      refine V_iinc (dG D_X5_resolvedNow 32 rfl) rfl (inc1 _) (Nat.le_of_ble_eq_true rfl) ?_
      refine V_goto (tgt := 7) (dG D_X5_resolvedNow 33 rfl) (by decide) ?_
      refine V_sub [0, 1, 2] rfl ?_
      exact ih s (i + 1) M (by omega) hm h
    · try rw [if_pos c_22]
      refine V_aload_n (dG D_X5_resolvedNow 15 rfl) rfl ?_
      refine gf_X5_63 rfl (dG D_X5_resolvedNow 16 rfl) ?_
      refine V_iload_n (dG D_X5_resolvedNow 17 rfl) rfl ?_
      refine iald_M20 (dG D_X5_resolvedNow 18 rfl) (inr_nI (by omega) (by decide)) ?_
      refine V_iconst (v := 1) (dG D_X5_resolvedNow 19 rfl) (by decide) ?_
      refine V_isub (dG D_X5_resolvedNow 20 rfl) ?_
      refine V_iload_n (dG D_X5_resolvedNow 21 rfl) rfl ?_
      refine V_icmp_ge (tgt := 48) (dG D_X5_resolvedNow 22 rfl) (by decide) (fun c_34 => ?_) (fun c_34 => ?_)
      · try rw [if_pos c_34]
        refine V_iload_n (dG D_X5_resolvedNow 30 rfl) rfl ?_
        refine V_istore_n (dG D_X5_resolvedNow 31 rfl) (Nat.le_of_ble_eq_true rfl) ?_
        refine V_iinc (dG D_X5_resolvedNow 32 rfl) rfl (inc1 _) (Nat.le_of_ble_eq_true rfl) ?_
        refine V_goto (tgt := 7) (dG D_X5_resolvedNow 33 rfl) (by decide) ?_
        refine V_sub [0, 1, 2] rfl ?_
        exact ih s (i + 1) M (by omega) hm h
      · try rw [if_neg c_34]
        refine V_aload_n (dG D_X5_resolvedNow 23 rfl) rfl ?_
        refine gf_X5_63 rfl (dG D_X5_resolvedNow 24 rfl) ?_
        refine V_iload_n (dG D_X5_resolvedNow 25 rfl) rfl ?_
        refine iald_M20 (dG D_X5_resolvedNow 26 rfl) (inr_nI (by omega) (by decide)) ?_
        refine V_iconst (v := 1) (dG D_X5_resolvedNow 27 rfl) (by decide) ?_
        refine V_isub (dG D_X5_resolvedNow 28 rfl) ?_
        refine V_goto (tgt := 49) (dG D_X5_resolvedNow 29 rfl) (by decide) ?_
        refine V_istore_n (dG D_X5_resolvedNow 31 rfl) (Nat.le_of_ble_eq_true rfl) ?_
        refine V_iinc (dG D_X5_resolvedNow 32 rfl) rfl (inc1 _) (Nat.le_of_ble_eq_true rfl) ?_
        refine V_goto (tgt := 7) (dG D_X5_resolvedNow 33 rfl) (by decide) ?_
        refine V_sub [0, 1, 2] rfl ?_
        exact ih ((M 20 i) - (1 : Int32)) (i + 1) M (by omega) hm h
def s_resolvedNow (M : St) : Int32 := (s_resolvedNow_7 ((M 16 0).toNatClampNeg) (s_closedNow M) 0 M)
theorem om_resolvedNow {g : GT} {nt : Nat} {C : St} {o : Int64} {M : St} {N : Nat} (hN : N ≤ 40) (hm : M 16 0 = nI N) : RET g K_X5_resolvedNow 0 0 [.ref (ad g 10)] nt C M o (some (.int (s_resolvedNow M))) C M o := by
  refine MT_of (by decide +kernel) rfl rfl (Nat.le_of_ble_eq_true rfl) (by simp [cat_rf, cat_int, cat_ref]) (fun h => ?_)
  unfold s_resolvedNow
  refine V_aload_n (dG D_X5_resolvedNow 0 rfl) rfl ?_
  refine R_vb0 om_closedNow lk_X5_111 (dG D_X5_resolvedNow 1 rfl) rcv_5 ⟨Nat.le_of_ble_eq_true rfl, Nat.le_of_ble_eq_true rfl⟩ ⟨(Nat.le_of_ble_eq_true rfl), (Nat.le_of_ble_eq_true rfl)⟩ (by first | exact Nat.le_of_ble_eq_true rfl | simp [cat_rf, cat_int, cat_ref]) (fun h => ?_)
  refine V_istore_n (dG D_X5_resolvedNow 2 rfl) (Nat.le_of_ble_eq_true rfl) ?_
  refine V_iconst (v := 0) (dG D_X5_resolvedNow 3 rfl) (by decide) ?_
  refine V_istore_n (dG D_X5_resolvedNow 4 rfl) (Nat.le_of_ble_eq_true rfl) ?_
  refine V_sub [0, 1, 2] rfl ?_
  exact bm_resolvedNow_7 hN  ((M 16 0).toNatClampNeg) (s_closedNow M) 0 M (by rw [hm, nI_clamp (by omega)]; omega) hm h
def s_resolved (M : St) : Int32 × St := ((s_resolvedNow (up M 31 0 (0 : Int32))), (up M 31 0 (0 : Int32)))
theorem om_resolved {g : GT} {nt : Nat} {C : St} {o : Int64} {M : St} {N : Nat} (hN : N ≤ 40) (hm : M 16 0 = nI N) : RET g K_X5_resolved 0 0 [.ref (ad g 10)] nt C M o (some (.int (s_resolved M).1)) C (s_resolved M).2 o := by
  refine MT_of (by decide +kernel) rfl rfl (Nat.le_of_ble_eq_true rfl) (by simp [cat_rf, cat_int, cat_ref]) (fun h => ?_)
  unfold s_resolved
  refine V_aload_n (dG D_X5_resolved 0 rfl) rfl ?_
  refine V_iconst (v := 0) (dG D_X5_resolved 1 rfl) (by decide) ?_
  refine pf_X5_93 rfl (dG D_X5_resolved 2 rfl) ?_
  refine V_aload_n (dG D_X5_resolved 3 rfl) rfl ?_
  refine R_vb0 (om_resolvedNow hN (by rw [up_row (by decide)]; exact hm)) lk_X5_193 (dG D_X5_resolved 4 rfl) rcv_5 ⟨Nat.le_of_ble_eq_true rfl, Nat.le_of_ble_eq_true rfl⟩ ⟨(Nat.le_of_ble_eq_true rfl), (Nat.le_of_ble_eq_true rfl)⟩ (by first | exact Nat.le_of_ble_eq_true rfl | simp [cat_rf, cat_int, cat_ref]) (fun h => ?_)
  exact V_iret (dG D_X5_resolved 5 rfl) rfl (Nat.le_of_ble_eq_true rfl) (Nat.le_of_ble_eq_true rfl) ⟨by first | with_reducible rfl | rfl, rfl, by first | with_reducible rfl | rfl, rfl⟩
def s_isAhead (a : Nat) (b : Nat) (M : St) : Int32 := (if (M 20 a) < (M 20 b) then (1 : Int32) else (if (M 20 a) = (M 20 b) then (if (M 25 b) ≤ (M 25 a) then (0 : Int32) else (1 : Int32)) else (0 : Int32)))
theorem om_isAhead {g : GT} {nt : Nat} {C : St} {o : Int64} {a : Nat} {b : Nat} {M : St} (ha : a < 40) (hb : b < 40)  : RET g K_X5_isAhead 0 0 [.ref (ad g 10), .int (nI a), .int (nI b)] nt C M o (some (.int (s_isAhead a b M))) C M o := by
  refine MT_of (by decide +kernel) rfl rfl (Nat.le_of_ble_eq_true rfl) (by simp [cat_rf, cat_int, cat_ref]) (fun h => ?_)
  unfold s_isAhead
  refine V_aload_n (dG D_X5_isAhead 0 rfl) rfl ?_
  refine gf_X5_63 rfl (dG D_X5_isAhead 1 rfl) ?_
  refine V_iload_n (dG D_X5_isAhead 2 rfl) rfl ?_
  refine iald_M20 (dG D_X5_isAhead 3 rfl) (inr_nI (by omega) (by decide)) ?_
  refine V_aload_n (dG D_X5_isAhead 4 rfl) rfl ?_
  refine gf_X5_63 rfl (dG D_X5_isAhead 5 rfl) ?_
  refine V_iload_n (dG D_X5_isAhead 6 rfl) rfl ?_
  refine iald_M20 (dG D_X5_isAhead 7 rfl) (inr_nI (by omega) (by decide)) ?_
  refine V_icmp_lt (tgt := 45) (dG D_X5_isAhead 8 rfl) (by decide) (fun c_12 => ?_) (fun c_12 => ?_)
  · try rw [if_pos c_12]
    refine V_iconst (v := 1) (dG D_X5_isAhead 27 rfl) (by decide) ?_
    refine V_goto (tgt := 50) (dG D_X5_isAhead 28 rfl) (by decide) ?_
    exact V_zret (dG D_X5_isAhead 30 rfl) rfl (by first | rfl | assumption) (Nat.le_of_ble_eq_true rfl) (Nat.le_of_ble_eq_true rfl) ⟨by first | with_reducible rfl | rfl, rfl, by first | with_reducible rfl | rfl, rfl⟩
  · try rw [if_neg c_12]
    refine V_aload_n (dG D_X5_isAhead 9 rfl) rfl ?_
    refine gf_X5_63 rfl (dG D_X5_isAhead 10 rfl) ?_
    refine V_iload_n (dG D_X5_isAhead 11 rfl) rfl ?_
    refine iald_M20 (dG D_X5_isAhead 12 rfl) (inr_nI (by omega) (by decide)) ?_
    refine V_aload_n (dG D_X5_isAhead 13 rfl) rfl ?_
    refine gf_X5_63 rfl (dG D_X5_isAhead 14 rfl) ?_
    refine V_iload_n (dG D_X5_isAhead 15 rfl) rfl ?_
    refine iald_M20 (dG D_X5_isAhead 16 rfl) (inr_nI (by omega) (by decide)) ?_
    refine V_icmp_ne (tgt := 49) (dG D_X5_isAhead 17 rfl) (by decide) (fun c_27 => ?_) (fun c_27 => ?_)
    · try rw [if_neg c_27]
      refine V_iconst (v := 0) (dG D_X5_isAhead 29 rfl) (by decide) ?_
      exact V_zret (dG D_X5_isAhead 30 rfl) rfl (by first | rfl | assumption) (Nat.le_of_ble_eq_true rfl) (Nat.le_of_ble_eq_true rfl) ⟨by first | with_reducible rfl | rfl, rfl, by first | with_reducible rfl | rfl, rfl⟩
    · try rw [if_pos c_27]
      refine V_aload_n (dG D_X5_isAhead 18 rfl) rfl ?_
      refine gf_X5_78 rfl (dG D_X5_isAhead 19 rfl) ?_
      refine V_iload_n (dG D_X5_isAhead 20 rfl) rfl ?_
      refine iald_M25 (dG D_X5_isAhead 21 rfl) (inr_nI (by omega) (by decide)) ?_
      refine V_aload_n (dG D_X5_isAhead 22 rfl) rfl ?_
      refine gf_X5_78 rfl (dG D_X5_isAhead 23 rfl) ?_
      refine V_iload_n (dG D_X5_isAhead 24 rfl) rfl ?_
      refine iald_M25 (dG D_X5_isAhead 25 rfl) (inr_nI (by omega) (by decide)) ?_
      refine V_icmp_ge (tgt := 49) (dG D_X5_isAhead 26 rfl) (by decide) (fun c_42 => ?_) (fun c_42 => ?_)
      · try rw [if_pos c_42]
        refine V_iconst (v := 0) (dG D_X5_isAhead 29 rfl) (by decide) ?_
        exact V_zret (dG D_X5_isAhead 30 rfl) rfl (by first | rfl | assumption) (Nat.le_of_ble_eq_true rfl) (Nat.le_of_ble_eq_true rfl) ⟨by first | with_reducible rfl | rfl, rfl, by first | with_reducible rfl | rfl, rfl⟩
      · try rw [if_neg c_42]
        refine V_iconst (v := 1) (dG D_X5_isAhead 27 rfl) (by decide) ?_
        refine V_goto (tgt := 50) (dG D_X5_isAhead 28 rfl) (by decide) ?_
        exact V_zret (dG D_X5_isAhead 30 rfl) rfl (by first | rfl | assumption) (Nat.le_of_ble_eq_true rfl) (Nat.le_of_ble_eq_true rfl) ⟨by first | with_reducible rfl | rfl, rfl, by first | with_reducible rfl | rfl, rfl⟩
theorem ox_isAhead_10 {g : GT} {nt : Nat} {C : St} {o : Int64} {a : Int32} {b : Nat} {M : St} (ha : vp_in a 40) (hb : b < 40) : RET g K_X5_isAhead 0 0 [.ref (ad g 10), .int a, .int (nI b)] nt C M o (some (.int (s_isAhead a.toNatClampNeg b M))) C M o := by
  have e := om_isAhead (g := g) (nt := nt) (C := C) (o := o) (M := M) (a := a.toNatClampNeg) (b := b) (vin_lt ha) hb  
  rw [nI_self (fun z => ha (Or.inl z))] at e
  exact e
theorem ox_isAhead_01 {g : GT} {nt : Nat} {C : St} {o : Int64} {a : Nat} {b : Int32} {M : St} (ha : a < 40) (hb : vp_in b 40) : RET g K_X5_isAhead 0 0 [.ref (ad g 10), .int (nI a), .int b] nt C M o (some (.int (s_isAhead a b.toNatClampNeg M))) C M o := by
  have e := om_isAhead (g := g) (nt := nt) (C := C) (o := o) (M := M) (a := a) (b := b.toNatClampNeg) ha (vin_lt hb)  
  rw [nI_self (fun z => hb (Or.inl z))] at e
  exact e
def s_next_4 (last : Int32) : Nat → Int32 → Nat → St → Int32
  | 0, b, i, M => b
  | n + 1, b, i, M => (if last = (-1 : Int32) then (if (M 23 i) = (2 : Int32) then (if b = (-1 : Int32) then (s_next_4 last n (nI i) (i + 1) M) else (if (s_isAhead i b.toNatClampNeg M) = (0 : Int32) then (s_next_4 last n b (i + 1) M) else (s_next_4 last n (nI i) (i + 1) M))) else (s_next_4 last n b (i + 1) M)) else (if (s_isAhead last.toNatClampNeg i M) = (0 : Int32) then (if (M 23 i) = (2 : Int32) then (s_next_4 last n b (i + 1) M) else (s_next_4 last n b (i + 1) M)) else (if (M 23 i) = (2 : Int32) then (if b = (-1 : Int32) then (s_next_4 last n (nI i) (i + 1) M) else (if (s_isAhead i b.toNatClampNeg M) = (0 : Int32) then (s_next_4 last n b (i + 1) M) else (s_next_4 last n (nI i) (i + 1) M))) else (s_next_4 last n b (i + 1) M))))
theorem bm_next_4 {g : GT} {nt : Nat} {C : St} {o : Int64}  {last : Int32} {N : Nat} (hN : N ≤ 40) : ∀ (n : Nat) (b : Int32) (i : Nat) (M : St) (hi : i + n = N) (hm : M 16 0 = nI N) (hl : ¬ last = (-1 : Int32) → vp_in last 40) (hb : ¬ b = (-1 : Int32) → vp_in b 40) (h : Nat × Nat), V g K_X5_next (kR K_X5_next 0 0) (qM g 0 0 nt (fun v9 C9 M9 o9 => v9 = some (.int (s_next_4 last n b i M)) ∧ C9 = C ∧ M9 = M ∧ o9 = o) (fun _ _ _ _ => False)) 0 0 nt h C M o 4 [(0, .ref (ad g 10)), (1, .int last), (2, .int b), (3, .int (nI i))] [] := by
  intro n
  induction n with
  | zero =>
    intro b i M hi hm hl hb h
    unfold s_next_4
    refine V_iload_n (dG D_X5_next 4 rfl) rfl ?_
    refine V_aload_n (dG D_X5_next 5 rfl) rfl ?_
    refine gf_X5_125 rfl (dG D_X5_next 6 rfl) ?_
    refine V_icmp_ge (tgt := 74) (dG D_X5_next 7 rfl) (by decide) (fun c_9 => ?_) (fun c_9 => absurd (by rw [hm]; exact nI_le (by omega) (by omega)) c_9)
    refine V_iload_n (dG D_X5_next 42 rfl) rfl ?_
    exact V_iret (dG D_X5_next 43 rfl) rfl (Nat.le_of_ble_eq_true rfl) (Nat.le_of_ble_eq_true rfl) ⟨by first | with_reducible rfl | rfl, rfl, by first | with_reducible rfl | rfl, rfl⟩
  | succ n ih =>
    intro b i M hi hm hl hb h
    unfold s_next_4
    refine V_iload_n (dG D_X5_next 4 rfl) rfl ?_
    refine V_aload_n (dG D_X5_next 5 rfl) rfl ?_
    refine gf_X5_125 rfl (dG D_X5_next 6 rfl) ?_
    refine V_icmp_ge (tgt := 74) (dG D_X5_next 7 rfl) (by decide) (fun c_9 => absurd c_9 (by rw [hm]; exact nI_ge (by omega) (by omega))) (fun c_9 => ?_)
    refine V_iload_n (dG D_X5_next 8 rfl) rfl ?_
    refine V_iconst (v := -1) (dG D_X5_next 9 rfl) (by decide) ?_
    refine V_icmp_eq (tgt := 26) (dG D_X5_next 10 rfl) (by decide) (fun c_14 => ?_) (fun c_14 => ?_)
    · try rw [if_pos c_14]
      refine V_iconst (v := 1) (dG D_X5_next 16 rfl) (by decide) ?_
      refine V_goto (tgt := 31) (dG D_X5_next 17 rfl) (by decide) ?_
      refine V_istore (dG D_X5_next 19 rfl) (Nat.le_of_ble_eq_true rfl) ?_
      refine V_aload_n (dG D_X5_next 20 rfl) rfl ?_
      refine gf_X5_72 rfl (dG D_X5_next 21 rfl) ?_
      refine V_iload_n (dG D_X5_next 22 rfl) rfl ?_
      refine iald_M23 (dG D_X5_next 23 rfl) (inr_nI (by omega) (by decide)) ?_
      refine V_iconst (v := 2) (dG D_X5_next 24 rfl) (by decide) ?_
      refine V_icmp_ne (tgt := 66) (dG D_X5_next 25 rfl) (by decide) (fun c_40 => ?_) (fun c_40 => ?_)
      · try rw [if_neg c_40]
        refine V_iload_n (dG D_X5_next 38 rfl) rfl ?_
        refine V_istore_n (dG D_X5_next 39 rfl) (Nat.le_of_ble_eq_true rfl) ?_
        refine V_iinc (dG D_X5_next 40 rfl) rfl (inc1 _) (Nat.le_of_ble_eq_true rfl) ?_
        refine V_goto (tgt := 4) (dG D_X5_next 41 rfl) (by decide) ?_
        refine V_sub [0, 1, 2, 3] rfl ?_
        exact ih b (i + 1) M (by omega) hm hl (by first | exact hb | exact fun _ => vp_in_nI (by omega) (by decide)) h
      · try rw [if_pos c_40]
        refine V_iload (dG D_X5_next 26 rfl) rfl ?_
        refine V_if_eq (tgt := 66) (dG D_X5_next 27 rfl) (by decide) (fun c_45 => absurd c_45 (by decide)) (fun c_45 => ?_)
        refine V_iload_n (dG D_X5_next 28 rfl) rfl ?_
        refine V_iconst (v := -1) (dG D_X5_next 29 rfl) (by decide) ?_
        refine V_icmp_eq (tgt := 62) (dG D_X5_next 30 rfl) (by decide) (fun c_50 => ?_) (fun c_50 => ?_)
        · try rw [if_pos c_50]
          refine V_iload_n (dG D_X5_next 36 rfl) rfl ?_
          refine V_goto (tgt := 67) (dG D_X5_next 37 rfl) (by decide) ?_
          refine V_istore_n (dG D_X5_next 39 rfl) (Nat.le_of_ble_eq_true rfl) ?_
          refine V_iinc (dG D_X5_next 40 rfl) rfl (inc1 _) (Nat.le_of_ble_eq_true rfl) ?_
          refine V_goto (tgt := 4) (dG D_X5_next 41 rfl) (by decide) ?_
          refine V_sub [0, 1, 2, 3] rfl ?_
          exact ih (nI i) (i + 1) M (by omega) hm hl (by first | exact hb | exact fun _ => vp_in_nI (by omega) (by decide)) h
        · try rw [if_neg c_50]
          refine V_aload_n (dG D_X5_next 31 rfl) rfl ?_
          refine V_iload_n (dG D_X5_next 32 rfl) rfl ?_
          refine V_iload_n (dG D_X5_next 33 rfl) rfl ?_
          refine R_vb2 (ox_isAhead_01 (by omega) (hb c_50) ) lk_X5_196 (dG D_X5_next 34 rfl) rcv_5 ⟨Nat.le_of_ble_eq_true rfl, Nat.le_of_ble_eq_true rfl⟩ ⟨(Nat.le_of_ble_eq_true rfl), (Nat.le_of_ble_eq_true rfl)⟩ (by first | exact Nat.le_of_ble_eq_true rfl | simp [cat_rf, cat_int, cat_ref]) (fun h => ?_)
          refine V_if_eq (tgt := 66) (dG D_X5_next 35 rfl) (by decide) (fun c_59 => ?_) (fun c_59 => ?_)
          · try rw [if_pos c_59]
            refine V_iload_n (dG D_X5_next 38 rfl) rfl ?_
            refine V_istore_n (dG D_X5_next 39 rfl) (Nat.le_of_ble_eq_true rfl) ?_
            refine V_iinc (dG D_X5_next 40 rfl) rfl (inc1 _) (Nat.le_of_ble_eq_true rfl) ?_
            refine V_goto (tgt := 4) (dG D_X5_next 41 rfl) (by decide) ?_
            refine V_sub [0, 1, 2, 3] rfl ?_
            exact ih b (i + 1) M (by omega) hm hl (by first | exact hb | exact fun _ => vp_in_nI (by omega) (by decide)) h
          · try rw [if_neg c_59]
            refine V_iload_n (dG D_X5_next 36 rfl) rfl ?_
            refine V_goto (tgt := 67) (dG D_X5_next 37 rfl) (by decide) ?_
            refine V_istore_n (dG D_X5_next 39 rfl) (Nat.le_of_ble_eq_true rfl) ?_
            refine V_iinc (dG D_X5_next 40 rfl) rfl (inc1 _) (Nat.le_of_ble_eq_true rfl) ?_
            refine V_goto (tgt := 4) (dG D_X5_next 41 rfl) (by decide) ?_
            refine V_sub [0, 1, 2, 3] rfl ?_
            exact ih (nI i) (i + 1) M (by omega) hm hl (by first | exact hb | exact fun _ => vp_in_nI (by omega) (by decide)) h
    · try rw [if_neg c_14]
      refine V_aload_n (dG D_X5_next 11 rfl) rfl ?_
      refine V_iload_n (dG D_X5_next 12 rfl) rfl ?_
      refine V_iload_n (dG D_X5_next 13 rfl) rfl ?_
      refine R_vb2 (ox_isAhead_10 (hl c_14) (by omega) ) lk_X5_196 (dG D_X5_next 14 rfl) rcv_5 ⟨Nat.le_of_ble_eq_true rfl, Nat.le_of_ble_eq_true rfl⟩ ⟨(Nat.le_of_ble_eq_true rfl), (Nat.le_of_ble_eq_true rfl)⟩ (by first | exact Nat.le_of_ble_eq_true rfl | simp [cat_rf, cat_int, cat_ref]) (fun h => ?_)
      refine V_if_eq (tgt := 30) (dG D_X5_next 15 rfl) (by decide) (fun c_23 => ?_) (fun c_23 => ?_)
      · try rw [if_pos c_23]
        refine V_iconst (v := 0) (dG D_X5_next 18 rfl) (by decide) ?_
        refine V_istore (dG D_X5_next 19 rfl) (Nat.le_of_ble_eq_true rfl) ?_
        refine V_aload_n (dG D_X5_next 20 rfl) rfl ?_
        refine gf_X5_72 rfl (dG D_X5_next 21 rfl) ?_
        refine V_iload_n (dG D_X5_next 22 rfl) rfl ?_
        refine iald_M23 (dG D_X5_next 23 rfl) (inr_nI (by omega) (by decide)) ?_
        refine V_iconst (v := 2) (dG D_X5_next 24 rfl) (by decide) ?_
        refine V_icmp_ne (tgt := 66) (dG D_X5_next 25 rfl) (by decide) (fun c_40 => ?_) (fun c_40 => ?_)
        · try rw [if_neg c_40]
          refine V_iload_n (dG D_X5_next 38 rfl) rfl ?_
          refine V_istore_n (dG D_X5_next 39 rfl) (Nat.le_of_ble_eq_true rfl) ?_
          refine V_iinc (dG D_X5_next 40 rfl) rfl (inc1 _) (Nat.le_of_ble_eq_true rfl) ?_
          refine V_goto (tgt := 4) (dG D_X5_next 41 rfl) (by decide) ?_
          refine V_sub [0, 1, 2, 3] rfl ?_
          exact ih b (i + 1) M (by omega) hm hl (by first | exact hb | exact fun _ => vp_in_nI (by omega) (by decide)) h
        · try rw [if_pos c_40]
          refine V_iload (dG D_X5_next 26 rfl) rfl ?_
          refine V_if_eq (tgt := 66) (dG D_X5_next 27 rfl) (by decide) (fun c_45 => ?_) (fun c_45 => absurd c_45 (by decide))
          refine V_iload_n (dG D_X5_next 38 rfl) rfl ?_
          refine V_istore_n (dG D_X5_next 39 rfl) (Nat.le_of_ble_eq_true rfl) ?_
          refine V_iinc (dG D_X5_next 40 rfl) rfl (inc1 _) (Nat.le_of_ble_eq_true rfl) ?_
          refine V_goto (tgt := 4) (dG D_X5_next 41 rfl) (by decide) ?_
          refine V_sub [0, 1, 2, 3] rfl ?_
          exact ih b (i + 1) M (by omega) hm hl (by first | exact hb | exact fun _ => vp_in_nI (by omega) (by decide)) h
      · try rw [if_neg c_23]
        refine V_iconst (v := 1) (dG D_X5_next 16 rfl) (by decide) ?_
        refine V_goto (tgt := 31) (dG D_X5_next 17 rfl) (by decide) ?_
        refine V_istore (dG D_X5_next 19 rfl) (Nat.le_of_ble_eq_true rfl) ?_
        refine V_aload_n (dG D_X5_next 20 rfl) rfl ?_
        refine gf_X5_72 rfl (dG D_X5_next 21 rfl) ?_
        refine V_iload_n (dG D_X5_next 22 rfl) rfl ?_
        refine iald_M23 (dG D_X5_next 23 rfl) (inr_nI (by omega) (by decide)) ?_
        refine V_iconst (v := 2) (dG D_X5_next 24 rfl) (by decide) ?_
        refine V_icmp_ne (tgt := 66) (dG D_X5_next 25 rfl) (by decide) (fun c_40 => ?_) (fun c_40 => ?_)
        · try rw [if_neg c_40]
          refine V_iload_n (dG D_X5_next 38 rfl) rfl ?_
          refine V_istore_n (dG D_X5_next 39 rfl) (Nat.le_of_ble_eq_true rfl) ?_
          refine V_iinc (dG D_X5_next 40 rfl) rfl (inc1 _) (Nat.le_of_ble_eq_true rfl) ?_
          refine V_goto (tgt := 4) (dG D_X5_next 41 rfl) (by decide) ?_
          refine V_sub [0, 1, 2, 3] rfl ?_
          exact ih b (i + 1) M (by omega) hm hl (by first | exact hb | exact fun _ => vp_in_nI (by omega) (by decide)) h
        · try rw [if_pos c_40]
          refine V_iload (dG D_X5_next 26 rfl) rfl ?_
          refine V_if_eq (tgt := 66) (dG D_X5_next 27 rfl) (by decide) (fun c_45 => absurd c_45 (by decide)) (fun c_45 => ?_)
          refine V_iload_n (dG D_X5_next 28 rfl) rfl ?_
          refine V_iconst (v := -1) (dG D_X5_next 29 rfl) (by decide) ?_
          refine V_icmp_eq (tgt := 62) (dG D_X5_next 30 rfl) (by decide) (fun c_50 => ?_) (fun c_50 => ?_)
          · try rw [if_pos c_50]
            refine V_iload_n (dG D_X5_next 36 rfl) rfl ?_
            refine V_goto (tgt := 67) (dG D_X5_next 37 rfl) (by decide) ?_
            refine V_istore_n (dG D_X5_next 39 rfl) (Nat.le_of_ble_eq_true rfl) ?_
            refine V_iinc (dG D_X5_next 40 rfl) rfl (inc1 _) (Nat.le_of_ble_eq_true rfl) ?_
            refine V_goto (tgt := 4) (dG D_X5_next 41 rfl) (by decide) ?_
            refine V_sub [0, 1, 2, 3] rfl ?_
            exact ih (nI i) (i + 1) M (by omega) hm hl (by first | exact hb | exact fun _ => vp_in_nI (by omega) (by decide)) h
          · try rw [if_neg c_50]
            refine V_aload_n (dG D_X5_next 31 rfl) rfl ?_
            refine V_iload_n (dG D_X5_next 32 rfl) rfl ?_
            refine V_iload_n (dG D_X5_next 33 rfl) rfl ?_
            refine R_vb2 (ox_isAhead_01 (by omega) (hb c_50) ) lk_X5_196 (dG D_X5_next 34 rfl) rcv_5 ⟨Nat.le_of_ble_eq_true rfl, Nat.le_of_ble_eq_true rfl⟩ ⟨(Nat.le_of_ble_eq_true rfl), (Nat.le_of_ble_eq_true rfl)⟩ (by first | exact Nat.le_of_ble_eq_true rfl | simp [cat_rf, cat_int, cat_ref]) (fun h => ?_)
            refine V_if_eq (tgt := 66) (dG D_X5_next 35 rfl) (by decide) (fun c_59 => ?_) (fun c_59 => ?_)
            · try rw [if_pos c_59]
              refine V_iload_n (dG D_X5_next 38 rfl) rfl ?_
              refine V_istore_n (dG D_X5_next 39 rfl) (Nat.le_of_ble_eq_true rfl) ?_
              refine V_iinc (dG D_X5_next 40 rfl) rfl (inc1 _) (Nat.le_of_ble_eq_true rfl) ?_
              refine V_goto (tgt := 4) (dG D_X5_next 41 rfl) (by decide) ?_
              refine V_sub [0, 1, 2, 3] rfl ?_
              exact ih b (i + 1) M (by omega) hm hl (by first | exact hb | exact fun _ => vp_in_nI (by omega) (by decide)) h
            · try rw [if_neg c_59]
              refine V_iload_n (dG D_X5_next 36 rfl) rfl ?_
              refine V_goto (tgt := 67) (dG D_X5_next 37 rfl) (by decide) ?_
              refine V_istore_n (dG D_X5_next 39 rfl) (Nat.le_of_ble_eq_true rfl) ?_
              refine V_iinc (dG D_X5_next 40 rfl) rfl (inc1 _) (Nat.le_of_ble_eq_true rfl) ?_
              refine V_goto (tgt := 4) (dG D_X5_next 41 rfl) (by decide) ?_
              refine V_sub [0, 1, 2, 3] rfl ?_
              exact ih (nI i) (i + 1) M (by omega) hm hl (by first | exact hb | exact fun _ => vp_in_nI (by omega) (by decide)) h
def s_next (last : Int32) (M : St) : Int32 := (s_next_4 last ((M 16 0).toNatClampNeg) (-1 : Int32) 0 M)
theorem om_next {g : GT} {nt : Nat} {C : St} {o : Int64} {last : Int32} {M : St} {N : Nat} (hN : N ≤ 40) (hm : M 16 0 = nI N) (hl : ¬ last = (-1 : Int32) → vp_in last 40) : RET g K_X5_next 0 0 [.ref (ad g 10), .int last] nt C M o (some (.int (s_next last M))) C M o := by
  refine MT_of (by decide +kernel) rfl rfl (Nat.le_of_ble_eq_true rfl) (by simp [cat_rf, cat_int, cat_ref]) (fun h => ?_)
  unfold s_next
  refine V_iconst (v := -1) (dG D_X5_next 0 rfl) (by decide) ?_
  refine V_istore_n (dG D_X5_next 1 rfl) (Nat.le_of_ble_eq_true rfl) ?_
  refine V_iconst (v := 0) (dG D_X5_next 2 rfl) (by decide) ?_
  refine V_istore_n (dG D_X5_next 3 rfl) (Nat.le_of_ble_eq_true rfl) ?_
  refine V_sub [0, 1, 2, 3] rfl ?_
  exact bm_next_4 hN  ((M 16 0).toNatClampNeg) (-1 : Int32) 0 M (by rw [hm, nI_clamp (by omega)]; omega) hm hl (fun q => absurd rfl q) h
theorem next4_vp {M : St} {last : Int32} {N : Nat} (hN : N ≤ 40) : ∀ {n i : Nat} {b : Int32}, i + n = N → (¬ b = -1 → vp_in b 40) → ¬ s_next_4 last n b i M = -1 → vp_in (s_next_4 last n b i M) 40
  | 0, i, b, _, hb, h => by
    unfold s_next_4 at h ⊢
    exact hb h
  | n + 1, i, b, hi, hb, h => by
    have hv : vp_in (nI i) 40 := vp_in_nI (by omega) (by decide)
    have h1 := fun q => next4_vp (M := M) (last := last) hN (n := n) (i := i + 1) (b := b) (by omega) hb q
    have h2 := fun q => next4_vp (M := M) (last := last) hN (n := n) (i := i + 1) (b := nI i) (by omega) (fun _ => hv) q
    unfold s_next_4 at h ⊢
    repeat' (split at h)
    all_goals simp_all
theorem next_vp {M : St} {last : Int32} {N : Nat} (hN : N ≤ 40) (hm : M 16 0 = nI N) (h : ¬ s_next last M = -1) : vp_in (s_next last M) 40 := by
  unfold s_next at h ⊢
  exact next4_vp hN (by rw [hm, nI_clamp (by omega)]; omega) (fun q => absurd rfl q) h
