/-! the model's methods (3): ranges, waiting, committing -/
set_option maxHeartbeats 60000
theorem hVup {M : St} {v i : Nat} {x : Int32} {c : Nat} (hv : v ≠ 12) (h : ∃ V, M 12 0 = nI V ∧ V + c ≤ 1300) : ∃ V, up M v i x 12 0 = nI V ∧ V + c ≤ 1300 := by
  rw [up_row (fun q => hv q.symm)]
  exact h
def s_split_59 (x : Int32) : Nat → Int32 → Int32 → St → Int32 × St
  | 0, z, r, M => ((M 4 0) + (1 : Int32), (up (up (up M 5 z.toNatClampNeg x) 6 z.toNatClampNeg (M 6 ((z - (1 : Int32)).toNatClampNeg))) 4 0 ((M 4 0) + (1 : Int32))))
  | n + 1, z, r, M => (if r ≤ z then ((M 4 0) + (1 : Int32), (up (up (up M 5 z.toNatClampNeg x) 6 z.toNatClampNeg (M 6 ((z - (1 : Int32)).toNatClampNeg))) 4 0 ((M 4 0) + (1 : Int32)))) else (s_split_59 x n z (r + (-1 : Int32)) (up (up M 5 r.toNatClampNeg (M 5 ((r - (1 : Int32)).toNatClampNeg))) 6 r.toNatClampNeg (M 6 ((r - (1 : Int32)).toNatClampNeg)))))
theorem bm_split_59 {g : GT} {nt : Nat} {C : St} {o : Int64}  {x : Int32} {R : Nat} (hR1 : 1 ≤ R) (hR2 : R ≤ 32) : ∀ (n : Nat) (z : Int32) (r : Int32) (M : St) (a b : Nat) (ha : z = nI a) (hb : r = nI b) (h1 : 1 ≤ a) (h5 : a < 32) (h2 : b < 32) (h3 : b ≤ a + n) (h : Nat × Nat), V g K_X5_split (kR K_X5_split 0 0) (qM g 0 0 nt (fun v9 C9 M9 o9 => v9 = some (.int (s_split_59 x n z r M).1) ∧ C9 = C ∧ M9 = (s_split_59 x n z r M).2 ∧ o9 = o) (fun _ _ _ _ => False)) 0 0 nt h C M o 59 [(0, .ref (ad g 10)), (1, .int x), (2, .int z), (3, .int r)] [] := by
  intro n
  induction n with
  | zero =>
    intro z r M a b ha hb h1 h5 h2 h3 h
    have hvz : vp_in z 32 := by rw [ha]; exact vp_in_nI h5 (by decide)
    have hvz1 : vp_in (z - 1) 32 := by rw [ha]; obtain ⟨q, rfl⟩ : ∃ q, a = q + 1 := ⟨a - 1, by omega⟩; rw [nI_pred]; exact vp_in_nI (by omega) (by decide)
    unfold s_split_59
    refine V_iload_n (dG D_X5_split 34 rfl) rfl ?_
    refine V_iload_n (dG D_X5_split 35 rfl) rfl ?_
    refine V_icmp_le (tgt := 98) (dG D_X5_split 36 rfl) (by decide) (fun c_61 => ?_) (fun c_61 => absurd (by rw [ha, hb]; exact nI_le (by omega) (by omega)) c_61)
    refine V_aload_n (dG D_X5_split 59 rfl) rfl ?_
    refine gf_X5_24 rfl (dG D_X5_split 60 rfl) ?_
    refine V_iload_n (dG D_X5_split 61 rfl) rfl ?_
    refine V_iload_n (dG D_X5_split 62 rfl) rfl ?_
    refine iast_M5 (dG D_X5_split 63 rfl) (inr_of hvz) ?_
    refine V_aload_n (dG D_X5_split 64 rfl) rfl ?_
    refine gf_X5_27 rfl (dG D_X5_split 65 rfl) ?_
    refine V_iload_n (dG D_X5_split 66 rfl) rfl ?_
    refine V_aload_n (dG D_X5_split 67 rfl) rfl ?_
    refine gf_X5_27 rfl (dG D_X5_split 68 rfl) ?_
    refine V_iload_n (dG D_X5_split 69 rfl) rfl ?_
    refine V_iconst (v := 1) (dG D_X5_split 70 rfl) (by decide) ?_
    refine V_isub (dG D_X5_split 71 rfl) ?_
    refine iald_M6 (dG D_X5_split 72 rfl) (inr_of hvz1) ?_
    rw [up_row (v := 5) (w := 6) (by decide)]
    refine iast_M6 (dG D_X5_split 73 rfl) (inr_of hvz) ?_
    refine V_aload_n (dG D_X5_split 74 rfl) rfl ?_
    refine V_dup (dG D_X5_split 75 rfl) rfl ?_
    refine gf_X5_20 rfl (dG D_X5_split 76 rfl) ?_
    rw [up_row (v := 6) (w := 4) (by decide)]
    rw [up_row (v := 5) (w := 4) (by decide)]
    refine V_iconst (v := 1) (dG D_X5_split 77 rfl) (by decide) ?_
    refine V_iadd (dG D_X5_split 78 rfl) ?_
    refine pf_X5_20 rfl (dG D_X5_split 79 rfl) ?_
    refine V_aload_n (dG D_X5_split 80 rfl) rfl ?_
    refine gf_X5_20 rfl (dG D_X5_split 81 rfl) ?_
    rw [up_eq]
    exact V_iret (dG D_X5_split 82 rfl) rfl (Nat.le_of_ble_eq_true rfl) (Nat.le_of_ble_eq_true rfl) ⟨by first | with_reducible rfl | rfl, rfl, by first | with_reducible rfl | rfl, rfl⟩
  | succ n ih =>
    intro z r M a b ha hb h1 h5 h2 h3 h
    have hvz : vp_in z 32 := by rw [ha]; exact vp_in_nI h5 (by decide)
    have hvz1 : vp_in (z - 1) 32 := by rw [ha]; obtain ⟨q, rfl⟩ : ∃ q, a = q + 1 := ⟨a - 1, by omega⟩; rw [nI_pred]; exact vp_in_nI (by omega) (by decide)
    unfold s_split_59
    refine V_iload_n (dG D_X5_split 34 rfl) rfl ?_
    refine V_iload_n (dG D_X5_split 35 rfl) rfl ?_
    refine V_icmp_le (tgt := 98) (dG D_X5_split 36 rfl) (by decide) (fun c_61 => ?_) (fun c_61 => ?_)
    · try rw [if_pos c_61]
      refine V_aload_n (dG D_X5_split 59 rfl) rfl ?_
      refine gf_X5_24 rfl (dG D_X5_split 60 rfl) ?_
      refine V_iload_n (dG D_X5_split 61 rfl) rfl ?_
      refine V_iload_n (dG D_X5_split 62 rfl) rfl ?_
      refine iast_M5 (dG D_X5_split 63 rfl) (inr_of hvz) ?_
      refine V_aload_n (dG D_X5_split 64 rfl) rfl ?_
      refine gf_X5_27 rfl (dG D_X5_split 65 rfl) ?_
      refine V_iload_n (dG D_X5_split 66 rfl) rfl ?_
      refine V_aload_n (dG D_X5_split 67 rfl) rfl ?_
      refine gf_X5_27 rfl (dG D_X5_split 68 rfl) ?_
      refine V_iload_n (dG D_X5_split 69 rfl) rfl ?_
      refine V_iconst (v := 1) (dG D_X5_split 70 rfl) (by decide) ?_
      refine V_isub (dG D_X5_split 71 rfl) ?_
      refine iald_M6 (dG D_X5_split 72 rfl) (inr_of hvz1) ?_
      rw [up_row (v := 5) (w := 6) (by decide)]
      refine iast_M6 (dG D_X5_split 73 rfl) (inr_of hvz) ?_
      refine V_aload_n (dG D_X5_split 74 rfl) rfl ?_
      refine V_dup (dG D_X5_split 75 rfl) rfl ?_
      refine gf_X5_20 rfl (dG D_X5_split 76 rfl) ?_
      rw [up_row (v := 6) (w := 4) (by decide)]
      rw [up_row (v := 5) (w := 4) (by decide)]
      refine V_iconst (v := 1) (dG D_X5_split 77 rfl) (by decide) ?_
      refine V_iadd (dG D_X5_split 78 rfl) ?_
      refine pf_X5_20 rfl (dG D_X5_split 79 rfl) ?_
      refine V_aload_n (dG D_X5_split 80 rfl) rfl ?_
      refine gf_X5_20 rfl (dG D_X5_split 81 rfl) ?_
      rw [up_eq]
      exact V_iret (dG D_X5_split 82 rfl) rfl (Nat.le_of_ble_eq_true rfl) (Nat.le_of_ble_eq_true rfl) ⟨by first | with_reducible rfl | rfl, rfl, by first | with_reducible rfl | rfl, rfl⟩
    · try rw [if_neg c_61]
      have hab : a < b := nltI (by rw [← ha, ← hb]; exact c_61) (by omega)
      have e1 : r - 1 = nI (b - 1) := by rw [hb]; obtain ⟨q, rfl⟩ : ∃ q, b = q + 1 := ⟨b - 1, by omega⟩; exact nI_pred q
      have e2 : r + (-1 : Int32) = nI (b - 1) := by rw [hb]; obtain ⟨q, rfl⟩ : ∃ q, b = q + 1 := ⟨b - 1, by omega⟩; exact dec1 q
      have hvr : vp_in r 32 := by rw [hb]; exact vp_in_nI h2 (by decide)
      have hvr1 : vp_in (r - 1) 32 := by rw [e1]; exact vp_in_nI (by omega) (by decide)
      refine V_aload_n (dG D_X5_split 37 rfl) rfl ?_
      refine gf_X5_24 rfl (dG D_X5_split 38 rfl) ?_
      refine V_iload_n (dG D_X5_split 39 rfl) rfl ?_
      refine V_aload_n (dG D_X5_split 40 rfl) rfl ?_
      refine gf_X5_24 rfl (dG D_X5_split 41 rfl) ?_
      refine V_iload_n (dG D_X5_split 42 rfl) rfl ?_
      refine V_iconst (v := 1) (dG D_X5_split 43 rfl) (by decide) ?_
      refine V_isub (dG D_X5_split 44 rfl) ?_
      refine iald_M5 (dG D_X5_split 45 rfl) (inr_of hvr1) ?_
      refine iast_M5 (dG D_X5_split 46 rfl) (inr_of hvr) ?_
      refine V_aload_n (dG D_X5_split 47 rfl) rfl ?_
      refine gf_X5_27 rfl (dG D_X5_split 48 rfl) ?_
      refine V_iload_n (dG D_X5_split 49 rfl) rfl ?_
      refine V_aload_n (dG D_X5_split 50 rfl) rfl ?_
      refine gf_X5_27 rfl (dG D_X5_split 51 rfl) ?_
      refine V_iload_n (dG D_X5_split 52 rfl) rfl ?_
      refine V_iconst (v := 1) (dG D_X5_split 53 rfl) (by decide) ?_
      refine V_isub (dG D_X5_split 54 rfl) ?_
      refine iald_M6 (dG D_X5_split 55 rfl) (inr_of hvr1) ?_
      rw [up_row (v := 5) (w := 6) (by decide)]
      refine iast_M6 (dG D_X5_split 56 rfl) (inr_of hvr) ?_
      refine V_iinc (dG D_X5_split 57 rfl) rfl rfl (Nat.le_of_ble_eq_true rfl) ?_
      refine V_goto (tgt := 59) (dG D_X5_split 58 rfl) (by decide) ?_
      refine V_sub [0, 1, 2, 3] rfl ?_
      exact ih z (r + (-1 : Int32)) (up (up M 5 r.toNatClampNeg (M 5 ((r - (1 : Int32)).toNatClampNeg))) 6 r.toNatClampNeg (M 6 ((r - (1 : Int32)).toNatClampNeg))) a (b - 1) ha e2 h1 h5 (by omega) (by omega) h
def s_split (x : Int32) (M : St) : Int32 × St := (if (s_in x (1 : Int32) (31 : Int32)) = (0 : Int32) then ((0 : Int32), (up M 31 0 (1 : Int32))) else (if (M 5 ((s_rangeOf x M).toNatClampNeg)) = x then ((0 : Int32), (up M 31 0 (2 : Int32))) else (s_split_59 x 32 ((s_rangeOf x (up M 31 0 (0 : Int32))) + (1 : Int32)) (M 4 0) (up M 31 0 (0 : Int32)))))
theorem om_split {g : GT} {nt : Nat} {C : St} {o : Int64} {x : Int32} {M : St} {R : Nat} (hR1 : 1 ≤ R) (hR2 : R ≤ 32) (hR : M 4 0 = nI R) (hR3 : ¬ s_in x 1 31 = 0 → ¬ M 5 (s_rangeOf x M).toNatClampNeg = x → R < 32) : RET g K_X5_split 0 0 [.ref (ad g 10), .int x] nt C M o (some (.int (s_split x M).1)) C (s_split x M).2 o := by
  refine MT_of (by decide +kernel) rfl rfl (Nat.le_of_ble_eq_true rfl) (by simp [cat_rf, cat_int, cat_ref]) (fun h => ?_)
  unfold s_split
  refine V_aload_n (dG D_X5_split 0 rfl) rfl ?_
  refine V_iload_n (dG D_X5_split 1 rfl) rfl ?_
  refine V_iconst (v := 1) (dG D_X5_split 2 rfl) (by decide) ?_
  refine V_bipush (v := 31) (dG D_X5_split 3 rfl) (by decide) ?_
  refine R_vs3 om_in lk_X5_96 (dG D_X5_split 4 rfl) ⟨Nat.le_of_ble_eq_true rfl, Nat.le_of_ble_eq_true rfl⟩ ⟨(Nat.le_of_ble_eq_true rfl), (Nat.le_of_ble_eq_true rfl)⟩ (by first | exact Nat.le_of_ble_eq_true rfl | simp [cat_rf, cat_int, cat_ref]) (fun h => ?_)
  refine V_if_ne (tgt := 15) (dG D_X5_split 5 rfl) (by decide) (fun c_8 => ?_) (fun c_8 => ?_)
  · try rw [if_neg c_8]
    refine V_aload_n (dG D_X5_split 8 rfl) rfl ?_
    refine gf_X5_24 rfl (dG D_X5_split 9 rfl) ?_
    refine V_aload_n (dG D_X5_split 10 rfl) rfl ?_
    refine V_iload_n (dG D_X5_split 11 rfl) rfl ?_
    refine R_vb1 (om_rangeOf hR2 hR) lk_X5_115 (dG D_X5_split 12 rfl) rcv_5 ⟨Nat.le_of_ble_eq_true rfl, Nat.le_of_ble_eq_true rfl⟩ ⟨(Nat.le_of_ble_eq_true rfl), (Nat.le_of_ble_eq_true rfl)⟩ (by first | exact Nat.le_of_ble_eq_true rfl | simp [cat_rf, cat_int, cat_ref]) (fun h => ?_)
    refine iald_M5 (dG D_X5_split 13 rfl) (inr_of (ro_vp hR1 hR2 hR)) ?_
    refine V_iload_n (dG D_X5_split 14 rfl) rfl ?_
    refine V_icmp_ne (tgt := 33) (dG D_X5_split 15 rfl) (by decide) (fun c_26 => ?_) (fun c_26 => ?_)
    · try rw [if_neg c_26]
      have hR' : (up M 31 0 (0 : Int32)) 4 0 = nI R := by rw [up_row (by decide)]; exact hR
      obtain ⟨r1, q1, q2, q3⟩ := ro_val (key := x) (n := 31) hR2 hR' (show 0 < R by omega)
      have q1' : s_rangeOf x (up M 31 0 (0 : Int32)) = nI r1 := q1
      rw [up_row (v := 31) (w := 4) (by decide)] at hR'
      refine V_iconst (v := 0) (dG D_X5_split 18 rfl) (by decide) ?_
      refine pf_X5_93 rfl (dG D_X5_split 19 rfl) ?_
      refine V_aload_n (dG D_X5_split 20 rfl) rfl ?_
      refine gf_X5_93 rfl (dG D_X5_split 21 rfl) ?_
      rw [up_eq]
      refine V_if_le (tgt := 46) (dG D_X5_split 22 rfl) (by decide) (fun c_41 => ?_) (fun c_41 => absurd c_41 (by decide))
      refine V_aload_n (dG D_X5_split 25 rfl) rfl ?_
      refine V_iload_n (dG D_X5_split 26 rfl) rfl ?_
      refine R_vb1 (om_rangeOf hR2 (by rw [up_row (by decide)]; exact hR)) lk_X5_115 (dG D_X5_split 27 rfl) rcv_5 ⟨Nat.le_of_ble_eq_true rfl, Nat.le_of_ble_eq_true rfl⟩ ⟨(Nat.le_of_ble_eq_true rfl), (Nat.le_of_ble_eq_true rfl)⟩ (by first | exact Nat.le_of_ble_eq_true rfl | simp [cat_rf, cat_int, cat_ref]) (fun h => ?_)
      refine V_iconst (v := 1) (dG D_X5_split 28 rfl) (by decide) ?_
      refine V_iadd (dG D_X5_split 29 rfl) ?_
      refine V_istore_n (dG D_X5_split 30 rfl) (Nat.le_of_ble_eq_true rfl) ?_
      refine V_aload_n (dG D_X5_split 31 rfl) rfl ?_
      refine gf_X5_20 rfl (dG D_X5_split 32 rfl) ?_
      rw [up_row (v := 31) (w := 4) (by decide)]
      refine V_istore_n (dG D_X5_split 33 rfl) (Nat.le_of_ble_eq_true rfl) ?_
      refine V_sub [0, 1, 2, 3] rfl ?_
      exact bm_split_59 hR1 hR2  32 ((s_rangeOf x (up M 31 0 (0 : Int32))) + (1 : Int32)) (M 4 0) (up M 31 0 (0 : Int32)) (r1 + 1) R (by rw [q1']; exact nI_1 _) hR' (by omega) (by have := hR3 c_8 c_26; omega) (hR3 c_8 c_26) (by omega) h
    · try rw [if_pos c_26]
      refine V_iconst (v := 2) (dG D_X5_split 16 rfl) (by decide) ?_
      refine V_goto (tgt := 34) (dG D_X5_split 17 rfl) (by decide) ?_
      refine pf_X5_93 rfl (dG D_X5_split 19 rfl) ?_
      refine V_aload_n (dG D_X5_split 20 rfl) rfl ?_
      refine gf_X5_93 rfl (dG D_X5_split 21 rfl) ?_
      rw [up_eq]
      refine V_if_le (tgt := 46) (dG D_X5_split 22 rfl) (by decide) (fun c_41 => absurd c_41 (by decide)) (fun c_41 => ?_)
      refine V_iconst (v := 0) (dG D_X5_split 23 rfl) (by decide) ?_
      exact V_iret (dG D_X5_split 24 rfl) rfl (Nat.le_of_ble_eq_true rfl) (Nat.le_of_ble_eq_true rfl) ⟨by first | with_reducible rfl | rfl, rfl, by first | with_reducible rfl | rfl, rfl⟩
  · try rw [if_pos c_8]
    refine V_iconst (v := 1) (dG D_X5_split 6 rfl) (by decide) ?_
    refine V_goto (tgt := 34) (dG D_X5_split 7 rfl) (by decide) ?_
    refine pf_X5_93 rfl (dG D_X5_split 19 rfl) ?_
    refine V_aload_n (dG D_X5_split 20 rfl) rfl ?_
    refine gf_X5_93 rfl (dG D_X5_split 21 rfl) ?_
    rw [up_eq]
    refine V_if_le (tgt := 46) (dG D_X5_split 22 rfl) (by decide) (fun c_41 => absurd c_41 (by decide)) (fun c_41 => ?_)
    refine V_iconst (v := 0) (dG D_X5_split 23 rfl) (by decide) ?_
    exact V_iret (dG D_X5_split 24 rfl) rfl (Nat.le_of_ble_eq_true rfl) (Nat.le_of_ble_eq_true rfl) ⟨by first | with_reducible rfl | rfl, rfl, by first | with_reducible rfl | rfl, rfl⟩
theorem mg {x : Int32} {R : Nat} (hR1 : 1 ≤ R) (hR2 : R ≤ 32) (c : ¬ s_in x 0 (nI R - 2) = 0) : ∃ r, x = nI r ∧ r + 1 < R := by
  obtain ⟨c1, c2⟩ := in_ok c
  by_cases h : R = 1
  · subst h
    exfalso
    apply c2
    rw [← nI_self c1]
    exact Int32.lt_of_lt_of_le (show (nI 1 - 2 : Int32) < 0 by decide) (Int32.not_lt.mp c1 |> fun q => by rw [nI_self c1]; exact q)
  · obtain ⟨q, rfl⟩ : ∃ q, R = q + 2 := ⟨R - 2, by omega⟩
    rw [show (nI (q + 2) - 2 : Int32) = nI q from by rw [show (nI (q + 2) - 2 : Int32) = nI (q + 1 + 1) - 1 - 1 from by rw [Int32.sub_sub]; rfl, nI_pred, nI_pred]] at c2
    refine ⟨x.toNatClampNeg, (nI_self c1).symm, ?_⟩
    have := vp_of (n := q) c1 c2 (by omega)
    have := vin_lt this
    omega
def s_merge_67 (x : Int32) : Nat → Int32 → St → Int32 × St
  | 0, r, M => (M 4 0, M)
  | n + 1, r, M => (if (M 4 0) ≤ r then (M 4 0, M) else (s_merge_67 x n (r + (1 : Int32)) (up (up M 5 r.toNatClampNeg (M 5 ((r + (1 : Int32)).toNatClampNeg))) 6 r.toNatClampNeg (M 6 ((r + (1 : Int32)).toNatClampNeg)))))
theorem bm_merge_67 {g : GT} {nt : Nat} {C : St} {o : Int64}  {x : Int32} {R : Nat} (hR1 : 1 ≤ R) (hR2 : R ≤ 32) : ∀ (n : Nat) (r : Int32) (M : St) (b : Nat) (hb : r = nI b) (h2 : b < 32) (h3 : R ≤ b + n + 1) (hR : M 4 0 = nI (R - 1)) (h : Nat × Nat), V g K_X5_merge (kR K_X5_merge 0 0) (qM g 0 0 nt (fun v9 C9 M9 o9 => v9 = some (.int (s_merge_67 x n r M).1) ∧ C9 = C ∧ M9 = (s_merge_67 x n r M).2 ∧ o9 = o) (fun _ _ _ _ => False)) 0 0 nt h C M o 67 [(0, .ref (ad g 10)), (2, .int r)] [] := by
  intro n
  induction n with
  | zero =>
    intro r M b hb h2 h3 hR h
    unfold s_merge_67
    refine V_iload_n (dG D_X5_merge 41 rfl) rfl ?_
    refine V_aload_n (dG D_X5_merge 42 rfl) rfl ?_
    refine gf_X5_20 rfl (dG D_X5_merge 43 rfl) ?_
    refine V_icmp_ge (tgt := 109) (dG D_X5_merge 44 rfl) (by decide) (fun c_72 => ?_) (fun c_72 => absurd (by rw [hR, hb]; exact nI_le (by omega) (by omega)) c_72)
    refine V_aload_n (dG D_X5_merge 67 rfl) rfl ?_
    refine gf_X5_20 rfl (dG D_X5_merge 68 rfl) ?_
    exact V_iret (dG D_X5_merge 69 rfl) rfl (Nat.le_of_ble_eq_true rfl) (Nat.le_of_ble_eq_true rfl) ⟨by first | with_reducible rfl | rfl, rfl, by first | with_reducible rfl | rfl, rfl⟩
  | succ n ih =>
    intro r M b hb h2 h3 hR h
    unfold s_merge_67
    refine V_iload_n (dG D_X5_merge 41 rfl) rfl ?_
    refine V_aload_n (dG D_X5_merge 42 rfl) rfl ?_
    refine gf_X5_20 rfl (dG D_X5_merge 43 rfl) ?_
    refine V_icmp_ge (tgt := 109) (dG D_X5_merge 44 rfl) (by decide) (fun c_72 => ?_) (fun c_72 => ?_)
    · try rw [if_pos c_72]
      refine V_aload_n (dG D_X5_merge 67 rfl) rfl ?_
      refine gf_X5_20 rfl (dG D_X5_merge 68 rfl) ?_
      exact V_iret (dG D_X5_merge 69 rfl) rfl (Nat.le_of_ble_eq_true rfl) (Nat.le_of_ble_eq_true rfl) ⟨by first | with_reducible rfl | rfl, rfl, by first | with_reducible rfl | rfl, rfl⟩
    · try rw [if_neg c_72]
      have hab : b < R - 1 := nltI (by rw [← hb, ← hR]; exact c_72) (by omega)
      have hvr : vp_in r 32 := by rw [hb]; exact vp_in_nI h2 (by decide)
      have hvr1 : vp_in (r + 1) 32 := by rw [hb, nI_1]; exact vp_in_nI (by omega) (by decide)
      refine V_aload_n (dG D_X5_merge 45 rfl) rfl ?_
      refine gf_X5_24 rfl (dG D_X5_merge 46 rfl) ?_
      refine V_iload_n (dG D_X5_merge 47 rfl) rfl ?_
      refine V_aload_n (dG D_X5_merge 48 rfl) rfl ?_
      refine gf_X5_24 rfl (dG D_X5_merge 49 rfl) ?_
      refine V_iload_n (dG D_X5_merge 50 rfl) rfl ?_
      refine V_iconst (v := 1) (dG D_X5_merge 51 rfl) (by decide) ?_
      refine V_iadd (dG D_X5_merge 52 rfl) ?_
      refine iald_M5 (dG D_X5_merge 53 rfl) (inr_of hvr1) ?_
      refine iast_M5 (dG D_X5_merge 54 rfl) (inr_of hvr) ?_
      refine V_aload_n (dG D_X5_merge 55 rfl) rfl ?_
      refine gf_X5_27 rfl (dG D_X5_merge 56 rfl) ?_
      refine V_iload_n (dG D_X5_merge 57 rfl) rfl ?_
      refine V_aload_n (dG D_X5_merge 58 rfl) rfl ?_
      refine gf_X5_27 rfl (dG D_X5_merge 59 rfl) ?_
      refine V_iload_n (dG D_X5_merge 60 rfl) rfl ?_
      refine V_iconst (v := 1) (dG D_X5_merge 61 rfl) (by decide) ?_
      refine V_iadd (dG D_X5_merge 62 rfl) ?_
      refine iald_M6 (dG D_X5_merge 63 rfl) (inr_of hvr1) ?_
      rw [up_row (v := 5) (w := 6) (by decide)]
      refine iast_M6 (dG D_X5_merge 64 rfl) (inr_of hvr) ?_
      refine V_iinc (dG D_X5_merge 65 rfl) rfl rfl (Nat.le_of_ble_eq_true rfl) ?_
      refine V_goto (tgt := 67) (dG D_X5_merge 66 rfl) (by decide) ?_
      refine V_sub [0, 2] rfl ?_
      exact ih (r + (1 : Int32)) (up (up M 5 r.toNatClampNeg (M 5 ((r + (1 : Int32)).toNatClampNeg))) 6 r.toNatClampNeg (M 6 ((r + (1 : Int32)).toNatClampNeg))) (b + 1) (by rw [hb]; exact nI_1 _) (by omega) (by omega) (by rw [up_row (by decide), up_row (by decide)]; exact hR) h
def s_merge (x : Int32) (M : St) : Int32 × St := (if (s_in x (0 : Int32) ((M 4 0) - (2 : Int32))) = (0 : Int32) then ((0 : Int32), (up M 31 0 (1 : Int32))) else (if (M 6 x.toNatClampNeg) = (M 6 ((x + (1 : Int32)).toNatClampNeg)) then (s_merge_67 x 32 (x + (1 : Int32)) (up (up M 31 0 (0 : Int32)) 4 0 ((M 4 0) - (1 : Int32)))) else ((0 : Int32), (up M 31 0 (2 : Int32)))))
theorem om_merge {g : GT} {nt : Nat} {C : St} {o : Int64} {x : Int32} {M : St} {R : Nat} (hR1 : 1 ≤ R) (hR2 : R ≤ 32) (hR : M 4 0 = nI R) : RET g K_X5_merge 0 0 [.ref (ad g 10), .int x] nt C M o (some (.int (s_merge x M).1)) C (s_merge x M).2 o := by
  refine MT_of (by decide +kernel) rfl rfl (Nat.le_of_ble_eq_true rfl) (by simp [cat_rf, cat_int, cat_ref]) (fun h => ?_)
  unfold s_merge
  refine V_aload_n (dG D_X5_merge 0 rfl) rfl ?_
  refine V_iload_n (dG D_X5_merge 1 rfl) rfl ?_
  refine V_iconst (v := 0) (dG D_X5_merge 2 rfl) (by decide) ?_
  refine V_aload_n (dG D_X5_merge 3 rfl) rfl ?_
  refine gf_X5_20 rfl (dG D_X5_merge 4 rfl) ?_
  refine V_iconst (v := 2) (dG D_X5_merge 5 rfl) (by decide) ?_
  refine V_isub (dG D_X5_merge 6 rfl) ?_
  refine R_vs3 om_in lk_X5_96 (dG D_X5_merge 7 rfl) ⟨Nat.le_of_ble_eq_true rfl, Nat.le_of_ble_eq_true rfl⟩ ⟨(Nat.le_of_ble_eq_true rfl), (Nat.le_of_ble_eq_true rfl)⟩ (by first | exact Nat.le_of_ble_eq_true rfl | simp [cat_rf, cat_int, cat_ref]) (fun h => ?_)
  refine V_if_ne (tgt := 19) (dG D_X5_merge 8 rfl) (by decide) (fun c_12 => ?_) (fun c_12 => ?_)
  · try rw [if_neg c_12]
    rw [hR] at c_12
    obtain ⟨r1, hx, hx2⟩ := mg hR1 hR2 c_12
    have hvx : vp_in x 32 := by rw [hx]; exact vp_in_nI (by omega) (by decide)
    have hvx1 : vp_in (x + 1) 32 := by rw [hx, nI_1]; exact vp_in_nI (by omega) (by decide)
    have e5 : (nI R - 1 : Int32) = nI (R - 1) := by obtain ⟨q, rfl⟩ : ∃ q, R = q + 1 := ⟨R - 1, by omega⟩; exact nI_pred q
    refine V_aload_n (dG D_X5_merge 11 rfl) rfl ?_
    refine gf_X5_27 rfl (dG D_X5_merge 12 rfl) ?_
    refine V_iload_n (dG D_X5_merge 13 rfl) rfl ?_
    refine iald_M6 (dG D_X5_merge 14 rfl) (inr_of hvx) ?_
    refine V_aload_n (dG D_X5_merge 15 rfl) rfl ?_
    refine gf_X5_27 rfl (dG D_X5_merge 16 rfl) ?_
    refine V_iload_n (dG D_X5_merge 17 rfl) rfl ?_
    refine V_iconst (v := 1) (dG D_X5_merge 18 rfl) (by decide) ?_
    refine V_iadd (dG D_X5_merge 19 rfl) ?_
    refine iald_M6 (dG D_X5_merge 20 rfl) (inr_of hvx1) ?_
    refine V_icmp_eq (tgt := 40) (dG D_X5_merge 21 rfl) (by decide) (fun c_33 => ?_) (fun c_33 => ?_)
    · try rw [if_pos c_33]
      refine V_iconst (v := 0) (dG D_X5_merge 24 rfl) (by decide) ?_
      refine pf_X5_93 rfl (dG D_X5_merge 25 rfl) ?_
      refine V_aload_n (dG D_X5_merge 26 rfl) rfl ?_
      refine gf_X5_93 rfl (dG D_X5_merge 27 rfl) ?_
      rw [up_eq]
      refine V_if_le (tgt := 53) (dG D_X5_merge 28 rfl) (by decide) (fun c_48 => ?_) (fun c_48 => absurd c_48 (by decide))
      refine V_aload_n (dG D_X5_merge 31 rfl) rfl ?_
      refine V_dup (dG D_X5_merge 32 rfl) rfl ?_
      refine gf_X5_20 rfl (dG D_X5_merge 33 rfl) ?_
      rw [up_row (v := 31) (w := 4) (by decide)]
      refine V_iconst (v := 1) (dG D_X5_merge 34 rfl) (by decide) ?_
      refine V_isub (dG D_X5_merge 35 rfl) ?_
      refine pf_X5_20 rfl (dG D_X5_merge 36 rfl) ?_
      refine V_iload_n (dG D_X5_merge 37 rfl) rfl ?_
      refine V_iconst (v := 1) (dG D_X5_merge 38 rfl) (by decide) ?_
      refine V_iadd (dG D_X5_merge 39 rfl) ?_
      refine V_istore_n (dG D_X5_merge 40 rfl) (Nat.le_of_ble_eq_true rfl) ?_
      refine V_sub [0, 2] rfl ?_
      exact bm_merge_67 hR1 hR2  32 (x + (1 : Int32)) (up (up M 31 0 (0 : Int32)) 4 0 ((M 4 0) - (1 : Int32))) (r1 + 1) (by rw [hx]; exact nI_1 _) (by omega) (by omega) (by rw [up_eq, hR]; exact e5) h
    · try rw [if_neg c_33]
      refine V_iconst (v := 2) (dG D_X5_merge 22 rfl) (by decide) ?_
      refine V_goto (tgt := 41) (dG D_X5_merge 23 rfl) (by decide) ?_
      refine pf_X5_93 rfl (dG D_X5_merge 25 rfl) ?_
      refine V_aload_n (dG D_X5_merge 26 rfl) rfl ?_
      refine gf_X5_93 rfl (dG D_X5_merge 27 rfl) ?_
      rw [up_eq]
      refine V_if_le (tgt := 53) (dG D_X5_merge 28 rfl) (by decide) (fun c_48 => absurd c_48 (by decide)) (fun c_48 => ?_)
      refine V_iconst (v := 0) (dG D_X5_merge 29 rfl) (by decide) ?_
      exact V_iret (dG D_X5_merge 30 rfl) rfl (Nat.le_of_ble_eq_true rfl) (Nat.le_of_ble_eq_true rfl) ⟨by first | with_reducible rfl | rfl, rfl, by first | with_reducible rfl | rfl, rfl⟩
  · try rw [if_pos c_12]
    refine V_iconst (v := 1) (dG D_X5_merge 9 rfl) (by decide) ?_
    refine V_goto (tgt := 41) (dG D_X5_merge 10 rfl) (by decide) ?_
    refine pf_X5_93 rfl (dG D_X5_merge 25 rfl) ?_
    refine V_aload_n (dG D_X5_merge 26 rfl) rfl ?_
    refine gf_X5_93 rfl (dG D_X5_merge 27 rfl) ?_
    rw [up_eq]
    refine V_if_le (tgt := 53) (dG D_X5_merge 28 rfl) (by decide) (fun c_48 => absurd c_48 (by decide)) (fun c_48 => ?_)
    refine V_iconst (v := 0) (dG D_X5_merge 29 rfl) (by decide) ?_
    exact V_iret (dG D_X5_merge 30 rfl) rfl (Nat.le_of_ble_eq_true rfl) (Nat.le_of_ble_eq_true rfl) ⟨by first | with_reducible rfl | rfl, rfl, by first | with_reducible rfl | rfl, rfl⟩
theorem mv {x : Int32} {R : Nat} (hR1 : 1 ≤ R) (hR2 : R ≤ 32) (c : ¬ s_in x 0 (nI R - 1) = 0) : vp_in x 32 := by
  obtain ⟨c1, c2⟩ := in_ok c
  obtain ⟨q, rfl⟩ : ∃ q, R = q + 1 := ⟨R - 1, by omega⟩
  rw [nI_pred] at c2
  have h := vin_lt (vp_of (n := q) c1 c2 (by omega))
  rintro (z | z)
  · exact c1 z
  · omega
def s_move_85 (x : Int32) (y : Int32) : Nat → Int32 → Int32 → Nat → St → Int32 × St
  | 0, d, s, i, M => (d, (up M 6 x.toNatClampNeg y))
  | n + 1, d, s, i, M => (if (s_rangeOf (nI i) M) = x then (s_move_85 x y n d s (i + 1) (s_covers i s M)) else (s_move_85 x y n d s (i + 1) M))
theorem bm_move_85 {g : GT} {nt : Nat} {C : St} {o : Int64}  {x : Int32} {y : Int32} {R : Nat} (hR1 : 1 ≤ R) (hR2 : R ≤ 32) : ∀ (n : Nat) (d : Int32) (s : Int32) (i : Nat) (M : St) (hi : i + n = 32) (hR : M 4 0 = nI R) (hx : vp_in x 32) (h : Nat × Nat), V g K_X5_move (kR K_X5_move 0 0) (qM g 0 0 nt (fun v9 C9 M9 o9 => v9 = some (.int (s_move_85 x y n d s i M).1) ∧ C9 = C ∧ M9 = (s_move_85 x y n d s i M).2 ∧ o9 = o) (fun _ _ _ _ => False)) 0 0 nt h C M o 85 [(0, .ref (ad g 10)), (1, .int x), (2, .int y), (3, .int d), (4, .int s), (5, .int (nI i))] [] := by
  intro n
  induction n with
  | zero =>
    intro d s i M hi hR hx h
    unfold s_move_85
    refine V_iload (dG D_X5_move 49 rfl) rfl ?_
    refine V_bipush (v := 32) (dG D_X5_move 50 rfl) (by decide) ?_
    refine V_icmp_ge (tgt := 116) (dG D_X5_move 51 rfl) (by decide) (fun c_89 => ?_) (fun c_89 => absurd (l32 (by omega)) c_89)
    refine V_aload_n (dG D_X5_move 63 rfl) rfl ?_
    refine gf_X5_27 rfl (dG D_X5_move 64 rfl) ?_
    refine V_iload_n (dG D_X5_move 65 rfl) rfl ?_
    refine V_iload_n (dG D_X5_move 66 rfl) rfl ?_
    refine iast_M6 (dG D_X5_move 67 rfl) (inr_of hx) ?_
    refine V_iload_n (dG D_X5_move 68 rfl) rfl ?_
    exact V_iret (dG D_X5_move 69 rfl) rfl (Nat.le_of_ble_eq_true rfl) (Nat.le_of_ble_eq_true rfl) ⟨by first | with_reducible rfl | rfl, rfl, by first | with_reducible rfl | rfl, rfl⟩
  | succ n ih =>
    intro d s i M hi hR hx h
    unfold s_move_85
    refine V_iload (dG D_X5_move 49 rfl) rfl ?_
    refine V_bipush (v := 32) (dG D_X5_move 50 rfl) (by decide) ?_
    refine V_icmp_ge (tgt := 116) (dG D_X5_move 51 rfl) (by decide) (fun c_89 => absurd c_89 (g32 (by omega))) (fun c_89 => ?_)
    refine V_aload_n (dG D_X5_move 52 rfl) rfl ?_
    refine V_iload (dG D_X5_move 53 rfl) rfl ?_
    refine R_vb1 (om_rangeOf hR2 hR) lk_X5_115 (dG D_X5_move 54 rfl) rcv_5 ⟨Nat.le_of_ble_eq_true rfl, Nat.le_of_ble_eq_true rfl⟩ ⟨(Nat.le_of_ble_eq_true rfl), (Nat.le_of_ble_eq_true rfl)⟩ (by first | exact Nat.le_of_ble_eq_true rfl | simp [cat_rf, cat_int, cat_ref]) (fun h => ?_)
    refine V_iload_n (dG D_X5_move 55 rfl) rfl ?_
    refine V_icmp_ne (tgt := 110) (dG D_X5_move 56 rfl) (by decide) (fun c_99 => ?_) (fun c_99 => ?_)
    · try rw [if_neg c_99]
      refine V_iinc (dG D_X5_move 61 rfl) rfl (inc1 _) (Nat.le_of_ble_eq_true rfl) ?_
      refine V_goto (tgt := 85) (dG D_X5_move 62 rfl) (by decide) ?_
      refine V_sub [0, 1, 2, 3, 4, 5] rfl ?_
      exact ih d s (i + 1) M (by omega) (by first | exact hR | (rw [up_row (by decide)]; exact hR) | (rw [up_row (by decide), up_row (by decide)]; exact hR) | (rw [up_row (by decide), up_row (by decide), up_row (by decide)]; exact hR) | (rw [covers_row (by decide) (by decide)]; exact hR) | (rw [asks_row (by decide), up_row (by decide), up_row (by decide)]; exact hR)) hx h
    · try rw [if_pos c_99]
      refine V_aload_n (dG D_X5_move 57 rfl) rfl ?_
      refine V_iload (dG D_X5_move 58 rfl) rfl ?_
      refine V_iload (dG D_X5_move 59 rfl) rfl ?_
      refine R_nb2 (om_covers (by omega) ) lk_X5_121 (dG D_X5_move 60 rfl) rcv_5 ⟨Nat.le_of_ble_eq_true rfl, Nat.le_of_ble_eq_true rfl⟩ ⟨(Nat.le_of_ble_eq_true rfl), (Nat.le_of_ble_eq_true rfl)⟩ (by first | exact Nat.le_of_ble_eq_true rfl | simp [cat_rf, cat_int, cat_ref]) (fun h => ?_)
      refine V_iinc (dG D_X5_move 61 rfl) rfl (inc1 _) (Nat.le_of_ble_eq_true rfl) ?_
      refine V_goto (tgt := 85) (dG D_X5_move 62 rfl) (by decide) ?_
      refine V_sub [0, 1, 2, 3, 4, 5] rfl ?_
      exact ih d s (i + 1) (s_covers i s M) (by omega) (by first | exact hR | (rw [up_row (by decide)]; exact hR) | (rw [up_row (by decide), up_row (by decide)]; exact hR) | (rw [up_row (by decide), up_row (by decide), up_row (by decide)]; exact hR) | (rw [covers_row (by decide) (by decide)]; exact hR) | (rw [asks_row (by decide), up_row (by decide), up_row (by decide)]; exact hR)) hx h
def s_move (x : Int32) (y : Int32) (M : St) : Int32 × St := (if (s_in x (0 : Int32) ((M 4 0) - (1 : Int32))) = (0 : Int32) then ((0 : Int32), (up M 31 0 (1 : Int32))) else (if (s_in y (0 : Int32) (3 : Int32)) = (0 : Int32) then ((0 : Int32), (up M 31 0 (1 : Int32))) else (if (M 3 y.toNatClampNeg) = (0 : Int32) then (if (M 3 ((M 6 x.toNatClampNeg).toNatClampNeg)) = (0 : Int32) then (s_move_85 x y 32 (M 6 x.toNatClampNeg) ((s_asks (M 6 x.toNatClampNeg).toNatClampNeg (up M 31 0 (0 : Int32))).1) 0 ((s_asks (M 6 x.toNatClampNeg).toNatClampNeg (up M 31 0 (0 : Int32))).2)) else ((0 : Int32), (up M 31 0 (2 : Int32)))) else ((0 : Int32), (up M 31 0 (2 : Int32))))))
theorem om_move {g : GT} {nt : Nat} {C : St} {o : Int64} {x : Int32} {y : Int32} {M : St} {R : Nat} (hR1 : 1 ≤ R) (hR2 : R ≤ 32) (hR : M 4 0 = nI R) (hN : ∀ r, r < 32 → vp_in (M 6 r) 4) : RET g K_X5_move 0 0 [.ref (ad g 10), .int x, .int y] nt C M o (some (.int (s_move x y M).1)) C (s_move x y M).2 o := by
  refine MT_of (by decide +kernel) rfl rfl (Nat.le_of_ble_eq_true rfl) (by simp [cat_rf, cat_int, cat_ref]) (fun h => ?_)
  unfold s_move
  refine V_aload_n (dG D_X5_move 0 rfl) rfl ?_
  refine V_iload_n (dG D_X5_move 1 rfl) rfl ?_
  refine V_iconst (v := 0) (dG D_X5_move 2 rfl) (by decide) ?_
  refine V_aload_n (dG D_X5_move 3 rfl) rfl ?_
  refine gf_X5_20 rfl (dG D_X5_move 4 rfl) ?_
  refine V_iconst (v := 1) (dG D_X5_move 5 rfl) (by decide) ?_
  refine V_isub (dG D_X5_move 6 rfl) ?_
  refine R_vs3 om_in lk_X5_96 (dG D_X5_move 7 rfl) ⟨Nat.le_of_ble_eq_true rfl, Nat.le_of_ble_eq_true rfl⟩ ⟨(Nat.le_of_ble_eq_true rfl), (Nat.le_of_ble_eq_true rfl)⟩ (by first | exact Nat.le_of_ble_eq_true rfl | simp [cat_rf, cat_int, cat_ref]) (fun h => ?_)
  refine V_if_eq (tgt := 24) (dG D_X5_move 8 rfl) (by decide) (fun c_12 => ?_) (fun c_12 => ?_)
  · try rw [if_pos c_12]
    refine V_iconst (v := 1) (dG D_X5_move 14 rfl) (by decide) ?_
    refine V_goto (tgt := 56) (dG D_X5_move 15 rfl) (by decide) ?_
    refine pf_X5_93 rfl (dG D_X5_move 32 rfl) ?_
    refine V_aload_n (dG D_X5_move 33 rfl) rfl ?_
    refine gf_X5_93 rfl (dG D_X5_move 34 rfl) ?_
    rw [up_eq]
    refine V_if_le (tgt := 68) (dG D_X5_move 35 rfl) (by decide) (fun c_63 => absurd c_63 (by decide)) (fun c_63 => ?_)
    refine V_iconst (v := 0) (dG D_X5_move 36 rfl) (by decide) ?_
    exact V_iret (dG D_X5_move 37 rfl) rfl (Nat.le_of_ble_eq_true rfl) (Nat.le_of_ble_eq_true rfl) ⟨by first | with_reducible rfl | rfl, rfl, by first | with_reducible rfl | rfl, rfl⟩
  · try rw [if_neg c_12]
    rw [hR] at c_12
    have hvx : vp_in x 32 := mv hR1 hR2 c_12
    refine V_iload_n (dG D_X5_move 9 rfl) rfl ?_
    refine V_iconst (v := 0) (dG D_X5_move 10 rfl) (by decide) ?_
    refine V_iconst (v := 3) (dG D_X5_move 11 rfl) (by decide) ?_
    refine R_vs3 om_in lk_X5_96 (dG D_X5_move 12 rfl) ⟨Nat.le_of_ble_eq_true rfl, Nat.le_of_ble_eq_true rfl⟩ ⟨(Nat.le_of_ble_eq_true rfl), (Nat.le_of_ble_eq_true rfl)⟩ (by first | exact Nat.le_of_ble_eq_true rfl | simp [cat_rf, cat_int, cat_ref]) (fun h => ?_)
    refine V_if_ne (tgt := 28) (dG D_X5_move 13 rfl) (by decide) (fun c_21 => ?_) (fun c_21 => ?_)
    · try rw [if_neg c_21]
      refine V_aload_n (dG D_X5_move 16 rfl) rfl ?_
      refine gf_X5_16 rfl (dG D_X5_move 17 rfl) ?_
      refine V_iload_n (dG D_X5_move 18 rfl) rfl ?_
      refine zald_M3 (dG D_X5_move 19 rfl) (inr_of (in03 c_21)) ?_
      refine V_if_ne (tgt := 51) (dG D_X5_move 20 rfl) (by decide) (fun c_34 => ?_) (fun c_34 => ?_)
      · try rw [if_neg c_34]
        refine V_iconst (v := 2) (dG D_X5_move 29 rfl) (by decide) ?_
        refine V_goto (tgt := 56) (dG D_X5_move 30 rfl) (by decide) ?_
        refine pf_X5_93 rfl (dG D_X5_move 32 rfl) ?_
        refine V_aload_n (dG D_X5_move 33 rfl) rfl ?_
        refine gf_X5_93 rfl (dG D_X5_move 34 rfl) ?_
        rw [up_eq]
        refine V_if_le (tgt := 68) (dG D_X5_move 35 rfl) (by decide) (fun c_63 => absurd c_63 (by decide)) (fun c_63 => ?_)
        refine V_iconst (v := 0) (dG D_X5_move 36 rfl) (by decide) ?_
        exact V_iret (dG D_X5_move 37 rfl) rfl (Nat.le_of_ble_eq_true rfl) (Nat.le_of_ble_eq_true rfl) ⟨by first | with_reducible rfl | rfl, rfl, by first | with_reducible rfl | rfl, rfl⟩
      · try rw [if_pos c_34]
        refine V_aload_n (dG D_X5_move 21 rfl) rfl ?_
        refine gf_X5_16 rfl (dG D_X5_move 22 rfl) ?_
        refine V_aload_n (dG D_X5_move 23 rfl) rfl ?_
        refine gf_X5_27 rfl (dG D_X5_move 24 rfl) ?_
        refine V_iload_n (dG D_X5_move 25 rfl) rfl ?_
        refine iald_M6 (dG D_X5_move 26 rfl) (inr_of hvx) ?_
        refine zald_M3 (dG D_X5_move 27 rfl) (inr_of (hN _ (vin_lt hvx))) ?_
        refine V_if_eq (tgt := 55) (dG D_X5_move 28 rfl) (by decide) (fun c_48 => ?_) (fun c_48 => ?_)
        · try rw [if_pos c_48]
          refine V_iconst (v := 0) (dG D_X5_move 31 rfl) (by decide) ?_
          refine pf_X5_93 rfl (dG D_X5_move 32 rfl) ?_
          refine V_aload_n (dG D_X5_move 33 rfl) rfl ?_
          refine gf_X5_93 rfl (dG D_X5_move 34 rfl) ?_
          rw [up_eq]
          refine V_if_le (tgt := 68) (dG D_X5_move 35 rfl) (by decide) (fun c_63 => ?_) (fun c_63 => absurd c_63 (by decide))
          refine V_aload_n (dG D_X5_move 38 rfl) rfl ?_
          refine gf_X5_27 rfl (dG D_X5_move 39 rfl) ?_
          refine V_iload_n (dG D_X5_move 40 rfl) rfl ?_
          refine iald_M6 (dG D_X5_move 41 rfl) (inr_of hvx) ?_
          rw [up_row (v := 31) (w := 6) (by decide)]
          refine V_istore_n (dG D_X5_move 42 rfl) (Nat.le_of_ble_eq_true rfl) ?_
          refine V_aload_n (dG D_X5_move 43 rfl) rfl ?_
          refine V_iload_n (dG D_X5_move 44 rfl) rfl ?_
          refine R_vb1 (ox_asks_1 (hN _ (vin_lt hvx)) ) lk_X5_107 (dG D_X5_move 45 rfl) rcv_5 ⟨Nat.le_of_ble_eq_true rfl, Nat.le_of_ble_eq_true rfl⟩ ⟨(Nat.le_of_ble_eq_true rfl), (Nat.le_of_ble_eq_true rfl)⟩ (by first | exact Nat.le_of_ble_eq_true rfl | simp [cat_rf, cat_int, cat_ref]) (fun h => ?_)
          refine V_istore (dG D_X5_move 46 rfl) (Nat.le_of_ble_eq_true rfl) ?_
          refine V_iconst (v := 0) (dG D_X5_move 47 rfl) (by decide) ?_
          refine V_istore (dG D_X5_move 48 rfl) (Nat.le_of_ble_eq_true rfl) ?_
          refine V_sub [0, 1, 2, 3, 4, 5] rfl ?_
          exact bm_move_85 hR1 hR2  32 (M 6 x.toNatClampNeg) ((s_asks (M 6 x.toNatClampNeg).toNatClampNeg (up M 31 0 (0 : Int32))).1) 0 ((s_asks (M 6 x.toNatClampNeg).toNatClampNeg (up M 31 0 (0 : Int32))).2) (by omega) (by first | exact hR | (rw [up_row (by decide)]; exact hR) | (rw [up_row (by decide), up_row (by decide)]; exact hR) | (rw [up_row (by decide), up_row (by decide), up_row (by decide)]; exact hR) | (rw [covers_row (by decide) (by decide)]; exact hR) | (rw [asks_row (by decide), up_row (by decide)]; exact hR)) hvx h
        · try rw [if_neg c_48]
          refine V_iconst (v := 2) (dG D_X5_move 29 rfl) (by decide) ?_
          refine V_goto (tgt := 56) (dG D_X5_move 30 rfl) (by decide) ?_
          refine pf_X5_93 rfl (dG D_X5_move 32 rfl) ?_
          refine V_aload_n (dG D_X5_move 33 rfl) rfl ?_
          refine gf_X5_93 rfl (dG D_X5_move 34 rfl) ?_
          rw [up_eq]
          refine V_if_le (tgt := 68) (dG D_X5_move 35 rfl) (by decide) (fun c_63 => absurd c_63 (by decide)) (fun c_63 => ?_)
          refine V_iconst (v := 0) (dG D_X5_move 36 rfl) (by decide) ?_
          exact V_iret (dG D_X5_move 37 rfl) rfl (Nat.le_of_ble_eq_true rfl) (Nat.le_of_ble_eq_true rfl) ⟨by first | with_reducible rfl | rfl, rfl, by first | with_reducible rfl | rfl, rfl⟩
    · try rw [if_pos c_21]
      refine V_iconst (v := 1) (dG D_X5_move 14 rfl) (by decide) ?_
      refine V_goto (tgt := 56) (dG D_X5_move 15 rfl) (by decide) ?_
      refine pf_X5_93 rfl (dG D_X5_move 32 rfl) ?_
      refine V_aload_n (dG D_X5_move 33 rfl) rfl ?_
      refine gf_X5_93 rfl (dG D_X5_move 34 rfl) ?_
      rw [up_eq]
      refine V_if_le (tgt := 68) (dG D_X5_move 35 rfl) (by decide) (fun c_63 => absurd c_63 (by decide)) (fun c_63 => ?_)
      refine V_iconst (v := 0) (dG D_X5_move 36 rfl) (by decide) ?_
      exact V_iret (dG D_X5_move 37 rfl) rfl (Nat.le_of_ble_eq_true rfl) (Nat.le_of_ble_eq_true rfl) ⟨by first | with_reducible rfl | rfl, rfl, by first | with_reducible rfl | rfl, rfl⟩
def s_forgets_2 (t : Nat) : Nat → Nat → St → St
  | 0, i, M => M
  | n + 1, i, M => (s_forgets_2 t n (i + 1) (up (up M 28 (32 * t + i) (-1 : Int32)) 29 (32 * t + i) (-1 : Int32)))
theorem bm_forgets_2 {g : GT} {nt : Nat} {C : St} {o : Int64}  {t : Nat} (ht : t < 40) : ∀ (n : Nat) (i : Nat) (M : St) (hi : i + n = 32) (h : Nat × Nat), V g K_X5_forgets (kR K_X5_forgets 0 0) (qM g 0 0 nt (fun v9 C9 M9 o9 => v9 = none ∧ C9 = C ∧ M9 = (s_forgets_2 t n i M) ∧ o9 = o) (fun _ _ _ _ => False)) 0 0 nt h C M o 2 [(0, .ref (ad g 10)), (1, .int (nI t)), (2, .int (nI i))] [] := by
  intro n
  induction n with
  | zero =>
    intro i M hi h
    unfold s_forgets_2
    refine V_iload_n (dG D_X5_forgets 2 rfl) rfl ?_
    refine V_bipush (v := 32) (dG D_X5_forgets 3 rfl) (by decide) ?_
    refine V_icmp_ge (tgt := 38) (dG D_X5_forgets 4 rfl) (by decide) (fun c_5 => ?_) (fun c_5 => absurd (l32 (by omega)) c_5)
    exact V_vret (dG D_X5_forgets 25 rfl) rfl (Nat.le_of_ble_eq_true rfl) (Nat.le_of_ble_eq_true rfl) ⟨by first | with_reducible rfl | rfl, rfl, by first | with_reducible rfl | rfl, rfl⟩
  | succ n ih =>
    intro i M hi h
    unfold s_forgets_2
    refine V_iload_n (dG D_X5_forgets 2 rfl) rfl ?_
    refine V_bipush (v := 32) (dG D_X5_forgets 3 rfl) (by decide) ?_
    refine V_icmp_ge (tgt := 38) (dG D_X5_forgets 4 rfl) (by decide) (fun c_5 => absurd c_5 (g32 (by omega))) (fun c_5 => ?_)
    refine V_aload_n (dG D_X5_forgets 5 rfl) rfl ?_
    refine gf_X5_84 rfl (dG D_X5_forgets 6 rfl) ?_
    refine V_bipush (v := 32) (dG D_X5_forgets 7 rfl) (by decide) ?_
    refine V_iload_n (dG D_X5_forgets 8 rfl) rfl ?_
    refine V_imul (dG D_X5_forgets 9 rfl) ?_
    refine V_iload_n (dG D_X5_forgets 10 rfl) rfl ?_
    refine V_iadd (dG D_X5_forgets 11 rfl) ?_
    refine V_iconst (v := -1) (dG D_X5_forgets 12 rfl) (by decide) ?_
    refine iast_M28 (dG D_X5_forgets 13 rfl) (show inr (((32 : Int32) * (nI t)) + (nI i)) 1280 (32 * t + i) from by rw [(ix32 _ _)]; exact inr_nI (by omega) (by decide)) ?_
    refine V_aload_n (dG D_X5_forgets 14 rfl) rfl ?_
    refine gf_X5_87 rfl (dG D_X5_forgets 15 rfl) ?_
    refine V_bipush (v := 32) (dG D_X5_forgets 16 rfl) (by decide) ?_
    refine V_iload_n (dG D_X5_forgets 17 rfl) rfl ?_
    refine V_imul (dG D_X5_forgets 18 rfl) ?_
    refine V_iload_n (dG D_X5_forgets 19 rfl) rfl ?_
    refine V_iadd (dG D_X5_forgets 20 rfl) ?_
    refine V_iconst (v := -1) (dG D_X5_forgets 21 rfl) (by decide) ?_
    refine iast_M29 (dG D_X5_forgets 22 rfl) (show inr (((32 : Int32) * (nI t)) + (nI i)) 1280 (32 * t + i) from by rw [(ix32 _ _)]; exact inr_nI (by omega) (by decide)) ?_
    refine V_iinc (dG D_X5_forgets 23 rfl) rfl (inc1 _) (Nat.le_of_ble_eq_true rfl) ?_
    refine V_goto (tgt := 2) (dG D_X5_forgets 24 rfl) (by decide) ?_
    refine V_sub [0, 1, 2] rfl ?_
    exact ih (i + 1) (up (up M 28 (32 * t + i) (-1 : Int32)) 29 (32 * t + i) (-1 : Int32)) (by omega) h
def s_forgets (t : Nat) (M : St) : St := (s_forgets_2 t 32 0 M)
theorem om_forgets {g : GT} {nt : Nat} {C : St} {o : Int64} {t : Nat} {M : St} (ht : t < 40)  : RET g K_X5_forgets 0 0 [.ref (ad g 10), .int (nI t)] nt C M o none C (s_forgets t M) o := by
  refine MT_of (by decide +kernel) rfl rfl (Nat.le_of_ble_eq_true rfl) (by simp [cat_rf, cat_int, cat_ref]) (fun h => ?_)
  unfold s_forgets
  refine V_iconst (v := 0) (dG D_X5_forgets 0 rfl) (by decide) ?_
  refine V_istore_n (dG D_X5_forgets 1 rfl) (Nat.le_of_ble_eq_true rfl) ?_
  refine V_sub [0, 1, 2] rfl ?_
  exact bm_forgets_2 ht  32 0 M (by omega) h
theorem ox_forgets_1 {g : GT} {nt : Nat} {C : St} {o : Int64} {t : Int32} {M : St} (ht : vp_in t 40) : RET g K_X5_forgets 0 0 [.ref (ad g 10), .int t] nt C M o none C (s_forgets t.toNatClampNeg M) o := by
  have e := om_forgets (g := g) (nt := nt) (C := C) (o := o) (M := M) (t := t.toNatClampNeg) (vin_lt ht)  
  rw [nI_self (fun z => ht (Or.inl z))] at e
  exact e
def s_hasAllIntents_4 (t : Nat) : Nat → Int32 → Nat → St → Int32
  | 0, c, i, M => c
  | n + 1, c, i, M => (if c = (0 : Int32) then (s_hasAllIntents_4 t n (0 : Int32) (i + 1) M) else (if (M 29 (32 * t + i)) = (-1 : Int32) then (s_hasAllIntents_4 t n (1 : Int32) (i + 1) M) else (if (M 7 i) = (nI t) then (s_hasAllIntents_4 t n (1 : Int32) (i + 1) M) else (s_hasAllIntents_4 t n (0 : Int32) (i + 1) M))))
theorem bm_hasAllIntents_4 {g : GT} {nt : Nat} {C : St} {o : Int64}  {t : Nat} (ht : t < 40) : ∀ (n : Nat) (c : Int32) (i : Nat) (M : St) (hi : i + n = 32) (hc : narrow .boolean (.int c) = .int c) (h : Nat × Nat), V g K_X5_hasAllIntents (kR K_X5_hasAllIntents 0 0) (qM g 0 0 nt (fun v9 C9 M9 o9 => v9 = some (.int (s_hasAllIntents_4 t n c i M)) ∧ C9 = C ∧ M9 = M ∧ o9 = o) (fun _ _ _ _ => False)) 0 0 nt h C M o 4 [(0, .ref (ad g 10)), (1, .int (nI t)), (2, .int c), (3, .int (nI i))] [] := by
  intro n
  induction n with
  | zero =>
    intro c i M hi hc h
    unfold s_hasAllIntents_4
    refine V_iload_n (dG D_X5_hasAllIntents 4 rfl) rfl ?_
    refine V_bipush (v := 32) (dG D_X5_hasAllIntents 5 rfl) (by decide) ?_
    refine V_icmp_ge (tgt := 51) (dG D_X5_hasAllIntents 6 rfl) (by decide) (fun c_7 => ?_) (fun c_7 => absurd (l32 (by omega)) c_7)
    refine V_iload_n (dG D_X5_hasAllIntents 31 rfl) rfl ?_
    exact V_zret (dG D_X5_hasAllIntents 32 rfl) rfl hc (Nat.le_of_ble_eq_true rfl) (Nat.le_of_ble_eq_true rfl) ⟨by first | with_reducible rfl | rfl, rfl, by first | with_reducible rfl | rfl, rfl⟩
  | succ n ih =>
    intro c i M hi hc h
    unfold s_hasAllIntents_4
    refine V_iload_n (dG D_X5_hasAllIntents 4 rfl) rfl ?_
    refine V_bipush (v := 32) (dG D_X5_hasAllIntents 5 rfl) (by decide) ?_
    refine V_icmp_ge (tgt := 51) (dG D_X5_hasAllIntents 6 rfl) (by decide) (fun c_7 => absurd c_7 (g32 (by omega))) (fun c_7 => ?_)
    refine V_iload_n (dG D_X5_hasAllIntents 7 rfl) rfl ?_
    refine V_if_eq (tgt := 43) (dG D_X5_hasAllIntents 8 rfl) (by decide) (fun c_11 => ?_) (fun c_11 => ?_)
    · try rw [if_pos c_11]
      refine V_iconst (v := 0) (dG D_X5_hasAllIntents 27 rfl) (by decide) ?_
      refine V_istore_n (dG D_X5_hasAllIntents 28 rfl) (Nat.le_of_ble_eq_true rfl) ?_
      refine V_iinc (dG D_X5_hasAllIntents 29 rfl) rfl (inc1 _) (Nat.le_of_ble_eq_true rfl) ?_
      refine V_goto (tgt := 4) (dG D_X5_hasAllIntents 30 rfl) (by decide) ?_
      refine V_sub [0, 1, 2, 3] rfl ?_
      exact ih (0 : Int32) (i + 1) M (by omega) (by first | rfl | assumption) h
    · try rw [if_neg c_11]
      refine V_aload_n (dG D_X5_hasAllIntents 9 rfl) rfl ?_
      refine gf_X5_87 rfl (dG D_X5_hasAllIntents 10 rfl) ?_
      refine V_bipush (v := 32) (dG D_X5_hasAllIntents 11 rfl) (by decide) ?_
      refine V_iload_n (dG D_X5_hasAllIntents 12 rfl) rfl ?_
      refine V_imul (dG D_X5_hasAllIntents 13 rfl) ?_
      refine V_iload_n (dG D_X5_hasAllIntents 14 rfl) rfl ?_
      refine V_iadd (dG D_X5_hasAllIntents 15 rfl) ?_
      refine iald_M29 (dG D_X5_hasAllIntents 16 rfl) (show inr (((32 : Int32) * (nI t)) + (nI i)) 1280 (32 * t + i) from by rw [(ix32 _ _)]; exact inr_nI (by omega) (by decide)) ?_
      refine V_iconst (v := -1) (dG D_X5_hasAllIntents 17 rfl) (by decide) ?_
      refine V_icmp_eq (tgt := 39) (dG D_X5_hasAllIntents 18 rfl) (by decide) (fun c_26 => ?_) (fun c_26 => ?_)
      · try rw [if_pos c_26]
        refine V_iconst (v := 1) (dG D_X5_hasAllIntents 25 rfl) (by decide) ?_
        refine V_goto (tgt := 44) (dG D_X5_hasAllIntents 26 rfl) (by decide) ?_
        refine V_istore_n (dG D_X5_hasAllIntents 28 rfl) (Nat.le_of_ble_eq_true rfl) ?_
        refine V_iinc (dG D_X5_hasAllIntents 29 rfl) rfl (inc1 _) (Nat.le_of_ble_eq_true rfl) ?_
        refine V_goto (tgt := 4) (dG D_X5_hasAllIntents 30 rfl) (by decide) ?_
        refine V_sub [0, 1, 2, 3] rfl ?_
        exact ih (1 : Int32) (i + 1) M (by omega) (by first | rfl | assumption) h
      · try rw [if_neg c_26]
        refine V_aload_n (dG D_X5_hasAllIntents 19 rfl) rfl ?_
        refine gf_X5_30 rfl (dG D_X5_hasAllIntents 20 rfl) ?_
        refine V_iload_n (dG D_X5_hasAllIntents 21 rfl) rfl ?_
        refine iald_M7 (dG D_X5_hasAllIntents 22 rfl) (inr_nI (by omega) (by decide)) ?_
        refine V_iload_n (dG D_X5_hasAllIntents 23 rfl) rfl ?_
        refine V_icmp_ne (tgt := 43) (dG D_X5_hasAllIntents 24 rfl) (by decide) (fun c_36 => ?_) (fun c_36 => ?_)
        · try rw [if_neg c_36]
          refine V_iconst (v := 0) (dG D_X5_hasAllIntents 27 rfl) (by decide) ?_
          refine V_istore_n (dG D_X5_hasAllIntents 28 rfl) (Nat.le_of_ble_eq_true rfl) ?_
          refine V_iinc (dG D_X5_hasAllIntents 29 rfl) rfl (inc1 _) (Nat.le_of_ble_eq_true rfl) ?_
          refine V_goto (tgt := 4) (dG D_X5_hasAllIntents 30 rfl) (by decide) ?_
          refine V_sub [0, 1, 2, 3] rfl ?_
          exact ih (0 : Int32) (i + 1) M (by omega) (by first | rfl | assumption) h
        · try rw [if_pos c_36]
          refine V_iconst (v := 1) (dG D_X5_hasAllIntents 25 rfl) (by decide) ?_
          refine V_goto (tgt := 44) (dG D_X5_hasAllIntents 26 rfl) (by decide) ?_
          refine V_istore_n (dG D_X5_hasAllIntents 28 rfl) (Nat.le_of_ble_eq_true rfl) ?_
          refine V_iinc (dG D_X5_hasAllIntents 29 rfl) rfl (inc1 _) (Nat.le_of_ble_eq_true rfl) ?_
          refine V_goto (tgt := 4) (dG D_X5_hasAllIntents 30 rfl) (by decide) ?_
          refine V_sub [0, 1, 2, 3] rfl ?_
          exact ih (1 : Int32) (i + 1) M (by omega) (by first | rfl | assumption) h
def s_hasAllIntents (t : Nat) (M : St) : Int32 := (s_hasAllIntents_4 t 32 (1 : Int32) 0 M)
theorem om_hasAllIntents {g : GT} {nt : Nat} {C : St} {o : Int64} {t : Nat} {M : St} (ht : t < 40)  : RET g K_X5_hasAllIntents 0 0 [.ref (ad g 10), .int (nI t)] nt C M o (some (.int (s_hasAllIntents t M))) C M o := by
  refine MT_of (by decide +kernel) rfl rfl (Nat.le_of_ble_eq_true rfl) (by simp [cat_rf, cat_int, cat_ref]) (fun h => ?_)
  unfold s_hasAllIntents
  refine V_iconst (v := 1) (dG D_X5_hasAllIntents 0 rfl) (by decide) ?_
  refine V_istore_n (dG D_X5_hasAllIntents 1 rfl) (Nat.le_of_ble_eq_true rfl) ?_
  refine V_iconst (v := 0) (dG D_X5_hasAllIntents 2 rfl) (by decide) ?_
  refine V_istore_n (dG D_X5_hasAllIntents 3 rfl) (Nat.le_of_ble_eq_true rfl) ?_
  refine V_sub [0, 1, 2, 3] rfl ?_
  exact bm_hasAllIntents_4 ht  32 (1 : Int32) 0 M (by omega) rfl h
theorem ox_hasAllIntents_1 {g : GT} {nt : Nat} {C : St} {o : Int64} {t : Int32} {M : St} (ht : vp_in t 40) : RET g K_X5_hasAllIntents 0 0 [.ref (ad g 10), .int t] nt C M o (some (.int (s_hasAllIntents t.toNatClampNeg M))) C M o := by
  have e := om_hasAllIntents (g := g) (nt := nt) (C := C) (o := o) (M := M) (t := t.toNatClampNeg) (vin_lt ht)  
  rw [nI_self (fun z => ht (Or.inl z))] at e
  exact e
def s_waitsFor (t : Nat) (M : St) : Int32 := (if (M 23 t) = (0 : Int32) then (if (M 24 t) = (-1 : Int32) then (-1 : Int32) else (if (M 23 ((M 24 t).toNatClampNeg)) = (0 : Int32) then (M 24 t) else (-1 : Int32))) else (-1 : Int32))
theorem om_waitsFor {g : GT} {nt : Nat} {C : St} {o : Int64} {t : Nat} {M : St} (ht : t < 40) (hw : ¬ M 24 t = (-1 : Int32) → vp_in (M 24 t) 40) : RET g K_X5_waitsFor 0 0 [.ref (ad g 10), .int (nI t)] nt C M o (some (.int (s_waitsFor t M))) C M o := by
  refine MT_of (by decide +kernel) rfl rfl (Nat.le_of_ble_eq_true rfl) (by simp [cat_rf, cat_int, cat_ref]) (fun h => ?_)
  unfold s_waitsFor
  refine V_aload_n (dG D_X5_waitsFor 0 rfl) rfl ?_
  refine gf_X5_72 rfl (dG D_X5_waitsFor 1 rfl) ?_
  refine V_iload_n (dG D_X5_waitsFor 2 rfl) rfl ?_
  refine iald_M23 (dG D_X5_waitsFor 3 rfl) (inr_nI (by omega) (by decide)) ?_
  refine V_if_ne (tgt := 42) (dG D_X5_waitsFor 4 rfl) (by decide) (fun c_6 => ?_) (fun c_6 => ?_)
  · try rw [if_neg c_6]
    refine V_iconst (v := -1) (dG D_X5_waitsFor 24 rfl) (by decide) ?_
    exact V_iret (dG D_X5_waitsFor 25 rfl) rfl (Nat.le_of_ble_eq_true rfl) (Nat.le_of_ble_eq_true rfl) ⟨by first | with_reducible rfl | rfl, rfl, by first | with_reducible rfl | rfl, rfl⟩
  · try rw [if_pos c_6]
    refine V_aload_n (dG D_X5_waitsFor 5 rfl) rfl ?_
    refine gf_X5_75 rfl (dG D_X5_waitsFor 6 rfl) ?_
    refine V_iload_n (dG D_X5_waitsFor 7 rfl) rfl ?_
    refine iald_M24 (dG D_X5_waitsFor 8 rfl) (inr_nI (by omega) (by decide)) ?_
    refine V_iconst (v := -1) (dG D_X5_waitsFor 9 rfl) (by decide) ?_
    refine V_icmp_eq (tgt := 42) (dG D_X5_waitsFor 10 rfl) (by decide) (fun c_16 => ?_) (fun c_16 => ?_)
    · try rw [if_pos c_16]
      refine V_iconst (v := -1) (dG D_X5_waitsFor 24 rfl) (by decide) ?_
      exact V_iret (dG D_X5_waitsFor 25 rfl) rfl (Nat.le_of_ble_eq_true rfl) (Nat.le_of_ble_eq_true rfl) ⟨by first | with_reducible rfl | rfl, rfl, by first | with_reducible rfl | rfl, rfl⟩
    · try rw [if_neg c_16]
      refine V_aload_n (dG D_X5_waitsFor 11 rfl) rfl ?_
      refine gf_X5_72 rfl (dG D_X5_waitsFor 12 rfl) ?_
      refine V_aload_n (dG D_X5_waitsFor 13 rfl) rfl ?_
      refine gf_X5_75 rfl (dG D_X5_waitsFor 14 rfl) ?_
      refine V_iload_n (dG D_X5_waitsFor 15 rfl) rfl ?_
      refine iald_M24 (dG D_X5_waitsFor 16 rfl) (inr_nI (by omega) (by decide)) ?_
      refine iald_M23 (dG D_X5_waitsFor 17 rfl) (inr_of (hw c_16)) ?_
      refine V_if_ne (tgt := 42) (dG D_X5_waitsFor 18 rfl) (by decide) (fun c_30 => ?_) (fun c_30 => ?_)
      · try rw [if_neg c_30]
        refine V_iconst (v := -1) (dG D_X5_waitsFor 24 rfl) (by decide) ?_
        exact V_iret (dG D_X5_waitsFor 25 rfl) rfl (Nat.le_of_ble_eq_true rfl) (Nat.le_of_ble_eq_true rfl) ⟨by first | with_reducible rfl | rfl, rfl, by first | with_reducible rfl | rfl, rfl⟩
      · try rw [if_pos c_30]
        refine V_aload_n (dG D_X5_waitsFor 19 rfl) rfl ?_
        refine gf_X5_75 rfl (dG D_X5_waitsFor 20 rfl) ?_
        refine V_iload_n (dG D_X5_waitsFor 21 rfl) rfl ?_
        refine iald_M24 (dG D_X5_waitsFor 22 rfl) (inr_nI (by omega) (by decide)) ?_
        refine V_goto (tgt := 43) (dG D_X5_waitsFor 23 rfl) (by decide) ?_
        exact V_iret (dG D_X5_waitsFor 25 rfl) rfl (Nat.le_of_ble_eq_true rfl) (Nat.le_of_ble_eq_true rfl) ⟨by first | with_reducible rfl | rfl, rfl, by first | with_reducible rfl | rfl, rfl⟩
theorem ox_waitsFor_1 {g : GT} {nt : Nat} {C : St} {o : Int64} {t : Int32} {M : St} (ht : vp_in t 40) (hw : ¬ M 24 t.toNatClampNeg = (-1 : Int32) → vp_in (M 24 t.toNatClampNeg) 40) : RET g K_X5_waitsFor 0 0 [.ref (ad g 10), .int t] nt C M o (some (.int (s_waitsFor t.toNatClampNeg M))) C M o := by
  have e := om_waitsFor (g := g) (nt := nt) (C := C) (o := o) (M := M) (t := t.toNatClampNeg) (vin_lt ht)  hw
  rw [nI_self (fun z => ht (Or.inl z))] at e
  exact e
def s_commits_29 (t : Nat) : Nat → Nat → St → St
  | 0, i, M => M
  | n + 1, i, M => (if (M 7 i) = (nI t) then (s_commits_29 t n (i + 1) (up (up (up (up (up M 13 (M 12 0).toNatClampNeg (nI i)) 14 (M 12 0).toNatClampNeg (M 20 t)) 15 (M 12 0).toNatClampNeg (M 9 i)) 12 0 ((M 12 0) + (1 : Int32))) 7 i (-1 : Int32))) else (s_commits_29 t n (i + 1) M))
theorem bm_commits_29 {g : GT} {nt : Nat} {C : St} {o : Int64}  {t : Nat} (ht : t < 40) : ∀ (n : Nat) (i : Nat) (M : St) (hi : i + n = 32) (hV : ∃ V, M 12 0 = nI V ∧ V + n ≤ 1300) (h : Nat × Nat), V g K_X5_commits (kR K_X5_commits 0 0) (qM g 0 0 nt (fun v9 C9 M9 o9 => v9 = none ∧ C9 = C ∧ M9 = (s_commits_29 t n i M) ∧ o9 = o) (fun _ _ _ _ => False)) 0 0 nt h C M o 29 [(0, .ref (ad g 10)), (1, .int (nI t)), (2, .int (nI i))] [] := by
  intro n
  induction n with
  | zero =>
    intro i M hi hV h
    obtain ⟨V, hv1, hv2⟩ := hV
    unfold s_commits_29
    refine V_iload_n (dG D_X5_commits 19 rfl) rfl ?_
    refine V_bipush (v := 32) (dG D_X5_commits 20 rfl) (by decide) ?_
    refine V_icmp_ge (tgt := 108) (dG D_X5_commits 21 rfl) (by decide) (fun c_32 => ?_) (fun c_32 => absurd (l32 (by omega)) c_32)
    exact V_vret (dG D_X5_commits 65 rfl) rfl (Nat.le_of_ble_eq_true rfl) (Nat.le_of_ble_eq_true rfl) ⟨by first | with_reducible rfl | rfl, rfl, by first | with_reducible rfl | rfl, rfl⟩
  | succ n ih =>
    intro i M hi hV h
    obtain ⟨V, hv1, hv2⟩ := hV
    unfold s_commits_29
    refine V_iload_n (dG D_X5_commits 19 rfl) rfl ?_
    refine V_bipush (v := 32) (dG D_X5_commits 20 rfl) (by decide) ?_
    refine V_icmp_ge (tgt := 108) (dG D_X5_commits 21 rfl) (by decide) (fun c_32 => absurd c_32 (g32 (by omega))) (fun c_32 => ?_)
    refine V_aload_n (dG D_X5_commits 22 rfl) rfl ?_
    refine gf_X5_30 rfl (dG D_X5_commits 23 rfl) ?_
    refine V_iload_n (dG D_X5_commits 24 rfl) rfl ?_
    refine iald_M7 (dG D_X5_commits 25 rfl) (inr_nI (by omega) (by decide)) ?_
    refine V_iload_n (dG D_X5_commits 26 rfl) rfl ?_
    refine V_icmp_ne (tgt := 102) (dG D_X5_commits 27 rfl) (by decide) (fun c_42 => ?_) (fun c_42 => ?_)
    · try rw [if_neg c_42]
      refine V_iinc (dG D_X5_commits 63 rfl) rfl (inc1 _) (Nat.le_of_ble_eq_true rfl) ?_
      refine V_goto (tgt := 29) (dG D_X5_commits 64 rfl) (by decide) ?_
      refine V_sub [0, 1, 2] rfl ?_
      exact ih (i + 1) M (by omega) (by first | exact ⟨V, hv1, by omega⟩ | exact ⟨V + 1, by rw [up_row (by decide), up_eq, hv1]; exact nI_1 _, by omega⟩) h
    · try rw [if_pos c_42]
      refine V_aload_n (dG D_X5_commits 28 rfl) rfl ?_
      refine gf_X5_45 rfl (dG D_X5_commits 29 rfl) ?_
      refine V_aload_n (dG D_X5_commits 30 rfl) rfl ?_
      refine gf_X5_135 rfl (dG D_X5_commits 31 rfl) ?_
      refine V_iload_n (dG D_X5_commits 32 rfl) rfl ?_
      refine iast_M13 (dG D_X5_commits 33 rfl) (inr_of (by rw [hv1]; exact vp_in_nI (by omega) (by decide))) ?_
      refine V_aload_n (dG D_X5_commits 34 rfl) rfl ?_
      refine gf_X5_48 rfl (dG D_X5_commits 35 rfl) ?_
      refine V_aload_n (dG D_X5_commits 36 rfl) rfl ?_
      refine gf_X5_135 rfl (dG D_X5_commits 37 rfl) ?_
      rw [up_row (v := 13) (w := 12) (by decide)]
      refine V_aload_n (dG D_X5_commits 38 rfl) rfl ?_
      refine gf_X5_63 rfl (dG D_X5_commits 39 rfl) ?_
      refine V_iload_n (dG D_X5_commits 40 rfl) rfl ?_
      refine iald_M20 (dG D_X5_commits 41 rfl) (inr_nI (by omega) (by decide)) ?_
      rw [up_row (v := 13) (w := 20) (by decide)]
      refine iast_M14 (dG D_X5_commits 42 rfl) (inr_of (by rw [hv1]; exact vp_in_nI (by omega) (by decide))) ?_
      refine V_aload_n (dG D_X5_commits 43 rfl) rfl ?_
      refine gf_X5_51 rfl (dG D_X5_commits 44 rfl) ?_
      refine V_aload_n (dG D_X5_commits 45 rfl) rfl ?_
      refine gf_X5_135 rfl (dG D_X5_commits 46 rfl) ?_
      rw [up_row (v := 14) (w := 12) (by decide)]
      rw [up_row (v := 13) (w := 12) (by decide)]
      refine V_aload_n (dG D_X5_commits 47 rfl) rfl ?_
      refine gf_X5_36 rfl (dG D_X5_commits 48 rfl) ?_
      refine V_iload_n (dG D_X5_commits 49 rfl) rfl ?_
      refine iald_M9 (dG D_X5_commits 50 rfl) (inr_nI (by omega) (by decide)) ?_
      rw [up_row (v := 14) (w := 9) (by decide)]
      rw [up_row (v := 13) (w := 9) (by decide)]
      refine iast_M15 (dG D_X5_commits 51 rfl) (inr_of (by rw [hv1]; exact vp_in_nI (by omega) (by decide))) ?_
      refine V_aload_n (dG D_X5_commits 52 rfl) rfl ?_
      refine V_dup (dG D_X5_commits 53 rfl) rfl ?_
      refine gf_X5_135 rfl (dG D_X5_commits 54 rfl) ?_
      rw [up_row (v := 15) (w := 12) (by decide)]
      rw [up_row (v := 14) (w := 12) (by decide)]
      rw [up_row (v := 13) (w := 12) (by decide)]
      refine V_iconst (v := 1) (dG D_X5_commits 55 rfl) (by decide) ?_
      refine V_iadd (dG D_X5_commits 56 rfl) ?_
      refine pf_X5_135 rfl (dG D_X5_commits 57 rfl) ?_
      refine V_aload_n (dG D_X5_commits 58 rfl) rfl ?_
      refine gf_X5_30 rfl (dG D_X5_commits 59 rfl) ?_
      refine V_iload_n (dG D_X5_commits 60 rfl) rfl ?_
      refine V_iconst (v := -1) (dG D_X5_commits 61 rfl) (by decide) ?_
      refine iast_M7 (dG D_X5_commits 62 rfl) (inr_nI (by omega) (by decide)) ?_
      refine V_iinc (dG D_X5_commits 63 rfl) rfl (inc1 _) (Nat.le_of_ble_eq_true rfl) ?_
      refine V_goto (tgt := 29) (dG D_X5_commits 64 rfl) (by decide) ?_
      refine V_sub [0, 1, 2] rfl ?_
      exact ih (i + 1) (up (up (up (up (up M 13 (M 12 0).toNatClampNeg (nI i)) 14 (M 12 0).toNatClampNeg (M 20 t)) 15 (M 12 0).toNatClampNeg (M 9 i)) 12 0 ((M 12 0) + (1 : Int32))) 7 i (-1 : Int32)) (by omega) (by first | exact ⟨V, hv1, by omega⟩ | exact ⟨V + 1, by rw [up_row (by decide), up_eq, hv1]; exact nI_1 _, by omega⟩) h
def s_commits (t : Nat) (M : St) : St := (s_commits_29 t 32 0 (up (up (up M 23 t (2 : Int32)) 25 t (M 26 0)) 26 0 ((M 26 0) + (1 : Int32))))
theorem om_commits {g : GT} {nt : Nat} {C : St} {o : Int64} {t : Nat} {M : St} (ht : t < 40) (hV : ∃ V, M 12 0 = nI V ∧ V + 32 ≤ 1300) : RET g K_X5_commits 0 0 [.ref (ad g 10), .int (nI t)] nt C M o none C (s_commits t M) o := by
  refine MT_of (by decide +kernel) rfl rfl (Nat.le_of_ble_eq_true rfl) (by simp [cat_rf, cat_int, cat_ref]) (fun h => ?_)
  unfold s_commits
  refine V_aload_n (dG D_X5_commits 0 rfl) rfl ?_
  refine gf_X5_72 rfl (dG D_X5_commits 1 rfl) ?_
  refine V_iload_n (dG D_X5_commits 2 rfl) rfl ?_
  refine V_iconst (v := 2) (dG D_X5_commits 3 rfl) (by decide) ?_
  refine iast_M23 (dG D_X5_commits 4 rfl) (inr_nI (by omega) (by decide)) ?_
  refine V_aload_n (dG D_X5_commits 5 rfl) rfl ?_
  refine gf_X5_78 rfl (dG D_X5_commits 6 rfl) ?_
  refine V_iload_n (dG D_X5_commits 7 rfl) rfl ?_
  refine V_aload_n (dG D_X5_commits 8 rfl) rfl ?_
  refine gf_X5_132 rfl (dG D_X5_commits 9 rfl) ?_
  rw [up_row (v := 23) (w := 26) (by decide)]
  refine iast_M25 (dG D_X5_commits 10 rfl) (inr_nI (by omega) (by decide)) ?_
  refine V_aload_n (dG D_X5_commits 11 rfl) rfl ?_
  refine V_dup (dG D_X5_commits 12 rfl) rfl ?_
  refine gf_X5_132 rfl (dG D_X5_commits 13 rfl) ?_
  rw [up_row (v := 25) (w := 26) (by decide)]
  rw [up_row (v := 23) (w := 26) (by decide)]
  refine V_iconst (v := 1) (dG D_X5_commits 14 rfl) (by decide) ?_
  refine V_iadd (dG D_X5_commits 15 rfl) ?_
  refine pf_X5_132 rfl (dG D_X5_commits 16 rfl) ?_
  refine V_iconst (v := 0) (dG D_X5_commits 17 rfl) (by decide) ?_
  refine V_istore_n (dG D_X5_commits 18 rfl) (Nat.le_of_ble_eq_true rfl) ?_
  refine V_sub [0, 1, 2] rfl ?_
  exact bm_commits_29 ht  32 0 (up (up (up M 23 t (2 : Int32)) 25 t (M 26 0)) 26 0 ((M 26 0) + (1 : Int32))) (by omega) (hVup (by decide) (hVup (by decide) (hVup (by decide) hV))) h
theorem ox_commits_1 {g : GT} {nt : Nat} {C : St} {o : Int64} {t : Int32} {M : St} (ht : vp_in t 40) (hV : ∃ V, M 12 0 = nI V ∧ V + 32 ≤ 1300) : RET g K_X5_commits 0 0 [.ref (ad g 10), .int t] nt C M o none C (s_commits t.toNatClampNeg M) o := by
  have e := om_commits (g := g) (nt := nt) (C := C) (o := o) (M := M) (t := t.toNatClampNeg) (vin_lt ht)  hV
  rw [nI_self (fun z => ht (Or.inl z))] at e
  exact e
def s_recovers (t : Nat) (M : St) : St := (if (s_hasAllIntents t M) = (0 : Int32) then (up M 23 t (3 : Int32)) else (s_commits t M))
theorem om_recovers {g : GT} {nt : Nat} {C : St} {o : Int64} {t : Nat} {M : St} (ht : t < 40) (hV : ∃ V, M 12 0 = nI V ∧ V + 32 ≤ 1300) : RET g K_X5_recovers 0 0 [.ref (ad g 10), .int (nI t)] nt C M o none C (s_recovers t M) o := by
  refine MT_of (by decide +kernel) rfl rfl (Nat.le_of_ble_eq_true rfl) (by simp [cat_rf, cat_int, cat_ref]) (fun h => ?_)
  unfold s_recovers
  refine V_aload_n (dG D_X5_recovers 0 rfl) rfl ?_
  refine V_iload_n (dG D_X5_recovers 1 rfl) rfl ?_
  refine R_vb1 (om_hasAllIntents (by omega) ) lk_X5_138 (dG D_X5_recovers 2 rfl) rcv_5 ⟨Nat.le_of_ble_eq_true rfl, Nat.le_of_ble_eq_true rfl⟩ ⟨(Nat.le_of_ble_eq_true rfl), (Nat.le_of_ble_eq_true rfl)⟩ (by first | exact Nat.le_of_ble_eq_true rfl | simp [cat_rf, cat_int, cat_ref]) (fun h => ?_)
  refine V_if_eq (tgt := 16) (dG D_X5_recovers 3 rfl) (by decide) (fun c_5 => ?_) (fun c_5 => ?_)
  · try rw [if_pos c_5]
    refine V_aload_n (dG D_X5_recovers 8 rfl) rfl ?_
    refine gf_X5_72 rfl (dG D_X5_recovers 9 rfl) ?_
    refine V_iload_n (dG D_X5_recovers 10 rfl) rfl ?_
    refine V_iconst (v := 3) (dG D_X5_recovers 11 rfl) (by decide) ?_
    refine iast_M23 (dG D_X5_recovers 12 rfl) (inr_nI (by omega) (by decide)) ?_
    exact V_vret (dG D_X5_recovers 13 rfl) rfl (Nat.le_of_ble_eq_true rfl) (Nat.le_of_ble_eq_true rfl) ⟨by first | with_reducible rfl | rfl, rfl, by first | with_reducible rfl | rfl, rfl⟩
  · try rw [if_neg c_5]
    refine V_aload_n (dG D_X5_recovers 4 rfl) rfl ?_
    refine V_iload_n (dG D_X5_recovers 5 rfl) rfl ?_
    refine R_nb1 (om_commits (by omega) hV) lk_X5_142 (dG D_X5_recovers 6 rfl) rcv_5 ⟨Nat.le_of_ble_eq_true rfl, Nat.le_of_ble_eq_true rfl⟩ ⟨(Nat.le_of_ble_eq_true rfl), (Nat.le_of_ble_eq_true rfl)⟩ (by first | exact Nat.le_of_ble_eq_true rfl | simp [cat_rf, cat_int, cat_ref]) (fun h => ?_)
    refine V_goto (tgt := 23) (dG D_X5_recovers 7 rfl) (by decide) ?_
    exact V_vret (dG D_X5_recovers 13 rfl) rfl (Nat.le_of_ble_eq_true rfl) (Nat.le_of_ble_eq_true rfl) ⟨by first | with_reducible rfl | rfl, rfl, by first | with_reducible rfl | rfl, rfl⟩
theorem ox_recovers_1 {g : GT} {nt : Nat} {C : St} {o : Int64} {t : Int32} {M : St} (ht : vp_in t 40) (hV : ∃ V, M 12 0 = nI V ∧ V + 32 ≤ 1300) : RET g K_X5_recovers 0 0 [.ref (ad g 10), .int t] nt C M o none C (s_recovers t.toNatClampNeg M) o := by
  have e := om_recovers (g := g) (nt := nt) (C := C) (o := o) (M := M) (t := t.toNatClampNeg) (vin_lt ht)  hV
  rw [nI_self (fun z => ht (Or.inl z))] at e
  exact e
def s_meets_49 (t : Nat) (k : Nat) (u : Int32) (M : St) : Int32 × St := (if (M 23 u.toNatClampNeg) = (3 : Int32) then (if (M 23 u.toNatClampNeg) = (0 : Int32) then (u, (up M 7 k (-1 : Int32))) else ((-1 : Int32), (up M 7 k (-1 : Int32)))) else (if (M 23 u.toNatClampNeg) = (0 : Int32) then (u, M) else ((-1 : Int32), M)))
theorem bm_meets_49 {g : GT} {nt : Nat} {C : St} {o : Int64}  {t : Nat} {k : Nat} (ht : t < 40) (hk : k < 32) (u : Int32) (M : St) (hu : vp_in u 40) (h : Nat × Nat) : V g K_X5_meets (kR K_X5_meets 0 0) (qM g 0 0 nt (fun v9 C9 M9 o9 => v9 = some (.int (s_meets_49 t k u M).1) ∧ C9 = C ∧ M9 = (s_meets_49 t k u M).2 ∧ o9 = o) (fun _ _ _ _ => False)) 0 0 nt h C M o 49 [(0, .ref (ad g 10)), (2, .int (nI k)), (3, .int u)] [] := by
  unfold s_meets_49
  refine V_aload_n (dG D_X5_meets 31 rfl) rfl ?_
  refine gf_X5_72 rfl (dG D_X5_meets 32 rfl) ?_
  refine V_iload_n (dG D_X5_meets 33 rfl) rfl ?_
  refine iald_M23 (dG D_X5_meets 34 rfl) (inr_of (by assumption)) ?_
  refine V_iconst (v := 3) (dG D_X5_meets 35 rfl) (by decide) ?_
  refine V_icmp_ne (tgt := 66) (dG D_X5_meets 36 rfl) (by decide) (fun c_56 => ?_) (fun c_56 => ?_)
  · try rw [if_neg c_56]
    refine V_aload_n (dG D_X5_meets 42 rfl) rfl ?_
    refine gf_X5_72 rfl (dG D_X5_meets 43 rfl) ?_
    refine V_iload_n (dG D_X5_meets 44 rfl) rfl ?_
    refine iald_M23 (dG D_X5_meets 45 rfl) (inr_of (by assumption)) ?_
    refine V_if_ne (tgt := 79) (dG D_X5_meets 46 rfl) (by decide) (fun c_72 => ?_) (fun c_72 => ?_)
    · try rw [if_neg c_72]
      refine V_iconst (v := -1) (dG D_X5_meets 49 rfl) (by decide) ?_
      exact V_iret (dG D_X5_meets 50 rfl) rfl (Nat.le_of_ble_eq_true rfl) (Nat.le_of_ble_eq_true rfl) ⟨by first | with_reducible rfl | rfl, rfl, by first | with_reducible rfl | rfl, rfl⟩
    · try rw [if_pos c_72]
      refine V_iload_n (dG D_X5_meets 47 rfl) rfl ?_
      refine V_goto (tgt := 80) (dG D_X5_meets 48 rfl) (by decide) ?_
      exact V_iret (dG D_X5_meets 50 rfl) rfl (Nat.le_of_ble_eq_true rfl) (Nat.le_of_ble_eq_true rfl) ⟨by first | with_reducible rfl | rfl, rfl, by first | with_reducible rfl | rfl, rfl⟩
  · try rw [if_pos c_56]
    refine V_aload_n (dG D_X5_meets 37 rfl) rfl ?_
    refine gf_X5_30 rfl (dG D_X5_meets 38 rfl) ?_
    refine V_iload_n (dG D_X5_meets 39 rfl) rfl ?_
    refine V_iconst (v := -1) (dG D_X5_meets 40 rfl) (by decide) ?_
    refine iast_M7 (dG D_X5_meets 41 rfl) (inr_nI (by omega) (by decide)) ?_
    refine V_aload_n (dG D_X5_meets 42 rfl) rfl ?_
    refine gf_X5_72 rfl (dG D_X5_meets 43 rfl) ?_
    refine V_iload_n (dG D_X5_meets 44 rfl) rfl ?_
    refine iald_M23 (dG D_X5_meets 45 rfl) (inr_of (by assumption)) ?_
    rw [up_row (v := 7) (w := 23) (by decide)]
    refine V_if_ne (tgt := 79) (dG D_X5_meets 46 rfl) (by decide) (fun c_72 => ?_) (fun c_72 => ?_)
    · try rw [if_neg c_72]
      refine V_iconst (v := -1) (dG D_X5_meets 49 rfl) (by decide) ?_
      exact V_iret (dG D_X5_meets 50 rfl) rfl (Nat.le_of_ble_eq_true rfl) (Nat.le_of_ble_eq_true rfl) ⟨by first | with_reducible rfl | rfl, rfl, by first | with_reducible rfl | rfl, rfl⟩
    · try rw [if_pos c_72]
      refine V_iload_n (dG D_X5_meets 47 rfl) rfl ?_
      refine V_goto (tgt := 80) (dG D_X5_meets 48 rfl) (by decide) ?_
      exact V_iret (dG D_X5_meets 50 rfl) rfl (Nat.le_of_ble_eq_true rfl) (Nat.le_of_ble_eq_true rfl) ⟨by first | with_reducible rfl | rfl, rfl, by first | with_reducible rfl | rfl, rfl⟩
def s_meets_34 (t : Nat) (k : Nat) (u : Int32) (M : St) : Int32 × St := (if (s_isVanished u.toNatClampNeg M) = (0 : Int32) then (s_meets_49 t k u M) else (s_meets_49 t k u (up M 23 u.toNatClampNeg (3 : Int32))))
theorem bm_meets_34 {g : GT} {nt : Nat} {C : St} {o : Int64}  {t : Nat} {k : Nat} (ht : t < 40) (hk : k < 32) (u : Int32) (M : St) (hu : vp_in u 40) (h : Nat × Nat) : V g K_X5_meets (kR K_X5_meets 0 0) (qM g 0 0 nt (fun v9 C9 M9 o9 => v9 = some (.int (s_meets_34 t k u M).1) ∧ C9 = C ∧ M9 = (s_meets_34 t k u M).2 ∧ o9 = o) (fun _ _ _ _ => False)) 0 0 nt h C M o 34 [(0, .ref (ad g 10)), (2, .int (nI k)), (3, .int u)] [] := by
  unfold s_meets_34
  refine V_aload_n (dG D_X5_meets 22 rfl) rfl ?_
  refine V_iload_n (dG D_X5_meets 23 rfl) rfl ?_
  refine R_vb1 (ox_isVanished_1 hu ) lk_X5_147 (dG D_X5_meets 24 rfl) rcv_5 ⟨Nat.le_of_ble_eq_true rfl, Nat.le_of_ble_eq_true rfl⟩ ⟨(Nat.le_of_ble_eq_true rfl), (Nat.le_of_ble_eq_true rfl)⟩ (by first | exact Nat.le_of_ble_eq_true rfl | simp [cat_rf, cat_int, cat_ref]) (fun h => ?_)
  refine V_if_eq (tgt := 49) (dG D_X5_meets 25 rfl) (by decide) (fun c_39 => ?_) (fun c_39 => ?_)
  · try rw [if_pos c_39]
    refine V_sub [0, 2, 3] rfl ?_
    exact bm_meets_49 ht hk  u M hu h
  · try rw [if_neg c_39]
    refine V_aload_n (dG D_X5_meets 26 rfl) rfl ?_
    refine gf_X5_72 rfl (dG D_X5_meets 27 rfl) ?_
    refine V_iload_n (dG D_X5_meets 28 rfl) rfl ?_
    refine V_iconst (v := 3) (dG D_X5_meets 29 rfl) (by decide) ?_
    refine iast_M23 (dG D_X5_meets 30 rfl) (inr_of (by assumption)) ?_
    refine V_sub [0, 2, 3] rfl ?_
    exact bm_meets_49 ht hk  u (up M 23 u.toNatClampNeg (3 : Int32)) hu h
def s_meets (t : Nat) (k : Nat) (M : St) : Int32 × St := (if (M 7 k) = (-1 : Int32) then ((-1 : Int32), M) else (if (M 7 k) = (nI t) then ((-1 : Int32), M) else (if (M 23 ((M 7 k).toNatClampNeg)) = (1 : Int32) then (s_meets_34 t k (M 7 k) (s_recovers (M 7 k).toNatClampNeg M)) else (s_meets_34 t k (M 7 k) M))))
theorem om_meets {g : GT} {nt : Nat} {C : St} {o : Int64} {t : Nat} {k : Nat} {M : St} (ht : t < 40) (hk : k < 32) (ho : ¬ M 7 k = (-1 : Int32) → vp_in (M 7 k) 40) (hV : M 23 (M 7 k).toNatClampNeg = (1 : Int32) → ∃ V, M 12 0 = nI V ∧ V + 32 ≤ 1300) : RET g K_X5_meets 0 0 [.ref (ad g 10), .int (nI t), .int (nI k)] nt C M o (some (.int (s_meets t k M).1)) C (s_meets t k M).2 o := by
  refine MT_of (by decide +kernel) rfl rfl (Nat.le_of_ble_eq_true rfl) (by simp [cat_rf, cat_int, cat_ref]) (fun h => ?_)
  unfold s_meets
  refine V_aload_n (dG D_X5_meets 0 rfl) rfl ?_
  refine gf_X5_30 rfl (dG D_X5_meets 1 rfl) ?_
  refine V_iload_n (dG D_X5_meets 2 rfl) rfl ?_
  refine iald_M7 (dG D_X5_meets 3 rfl) (inr_nI (by omega) (by decide)) ?_
  refine V_istore_n (dG D_X5_meets 4 rfl) (Nat.le_of_ble_eq_true rfl) ?_
  refine V_iload_n (dG D_X5_meets 5 rfl) rfl ?_
  refine V_iconst (v := -1) (dG D_X5_meets 6 rfl) (by decide) ?_
  refine V_icmp_eq (tgt := 17) (dG D_X5_meets 7 rfl) (by decide) (fun c_9 => ?_) (fun c_9 => ?_)
  · try rw [if_pos c_9]
    refine V_iconst (v := -1) (dG D_X5_meets 11 rfl) (by decide) ?_
    exact V_iret (dG D_X5_meets 12 rfl) rfl (Nat.le_of_ble_eq_true rfl) (Nat.le_of_ble_eq_true rfl) ⟨by first | with_reducible rfl | rfl, rfl, by first | with_reducible rfl | rfl, rfl⟩
  · try rw [if_neg c_9]
    refine V_iload_n (dG D_X5_meets 8 rfl) rfl ?_
    refine V_iload_n (dG D_X5_meets 9 rfl) rfl ?_
    refine V_icmp_ne (tgt := 19) (dG D_X5_meets 10 rfl) (by decide) (fun c_14 => ?_) (fun c_14 => ?_)
    · try rw [if_neg c_14]
      refine V_aload_n (dG D_X5_meets 13 rfl) rfl ?_
      refine gf_X5_72 rfl (dG D_X5_meets 14 rfl) ?_
      refine V_iload_n (dG D_X5_meets 15 rfl) rfl ?_
      refine iald_M23 (dG D_X5_meets 16 rfl) (inr_of (ho c_9)) ?_
      refine V_iconst (v := 1) (dG D_X5_meets 17 rfl) (by decide) ?_
      refine V_icmp_ne (tgt := 34) (dG D_X5_meets 18 rfl) (by decide) (fun c_26 => ?_) (fun c_26 => ?_)
      · try rw [if_neg c_26]
        refine V_sub [0, 2, 3] rfl ?_
        exact bm_meets_34 ht hk  (M 7 k) M (ho c_9) h
      · try rw [if_pos c_26]
        refine V_aload_n (dG D_X5_meets 19 rfl) rfl ?_
        refine V_iload_n (dG D_X5_meets 20 rfl) rfl ?_
        refine R_nb1 (ox_recovers_1 (ho c_9) (hV c_26)) lk_X5_144 (dG D_X5_meets 21 rfl) rcv_5 ⟨Nat.le_of_ble_eq_true rfl, Nat.le_of_ble_eq_true rfl⟩ ⟨(Nat.le_of_ble_eq_true rfl), (Nat.le_of_ble_eq_true rfl)⟩ (by first | exact Nat.le_of_ble_eq_true rfl | simp [cat_rf, cat_int, cat_ref]) (fun h => ?_)
        refine V_sub [0, 2, 3] rfl ?_
        exact bm_meets_34 ht hk  (M 7 k) (s_recovers (M 7 k).toNatClampNeg M) (ho c_9) h
    · try rw [if_pos c_14]
      refine V_iconst (v := -1) (dG D_X5_meets 11 rfl) (by decide) ?_
      exact V_iret (dG D_X5_meets 12 rfl) rfl (Nat.le_of_ble_eq_true rfl) (Nat.le_of_ble_eq_true rfl) ⟨by first | with_reducible rfl | rfl, rfl, by first | with_reducible rfl | rfl, rfl⟩
def s_latest_5 (key : Int32) (s : Int32) : Nat → Int32 → Nat → St → Int32
  | 0, b, i, M => b
  | n + 1, b, i, M => (if (M 13 i) = key then (if s < (M 14 i) then (s_latest_5 key s n b (i + 1) M) else (s_latest_5 key s n (s_greater b (M 14 i)) (i + 1) M)) else (s_latest_5 key s n b (i + 1) M))
theorem bm_latest_5 {g : GT} {nt : Nat} {C : St} {o : Int64}  {key : Int32} {s : Int32} {vn : Nat} (hVb : vn ≤ 1300) : ∀ (n : Nat) (b : Int32) (i : Nat) (M : St) (hi : i + n = vn) (hV : M 12 0 = nI vn) (h : Nat × Nat), V g K_X5_latest (kR K_X5_latest 0 0) (qM g 0 0 nt (fun v9 C9 M9 o9 => v9 = some (.int (s_latest_5 key s n b i M)) ∧ C9 = C ∧ M9 = M ∧ o9 = o) (fun _ _ _ _ => False)) 0 0 nt h C M o 5 [(0, .ref (ad g 10)), (1, .int key), (2, .int s), (3, .int b), (4, .int (nI i))] [] := by
  intro n
  induction n with
  | zero =>
    intro b i M hi hV h
    unfold s_latest_5
    refine V_iload (dG D_X5_latest 4 rfl) rfl ?_
    refine V_aload_n (dG D_X5_latest 5 rfl) rfl ?_
    refine gf_X5_135 rfl (dG D_X5_latest 6 rfl) ?_
    refine V_icmp_ge (tgt := 58) (dG D_X5_latest 7 rfl) (by decide) (fun c_11 => ?_) (fun c_11 => absurd (by rw [hV]; exact nI_le (by omega) (by omega)) c_11)
    refine V_iload_n (dG D_X5_latest 31 rfl) rfl ?_
    exact V_iret (dG D_X5_latest 32 rfl) rfl (Nat.le_of_ble_eq_true rfl) (Nat.le_of_ble_eq_true rfl) ⟨by first | with_reducible rfl | rfl, rfl, by first | with_reducible rfl | rfl, rfl⟩
  | succ n ih =>
    intro b i M hi hV h
    unfold s_latest_5
    refine V_iload (dG D_X5_latest 4 rfl) rfl ?_
    refine V_aload_n (dG D_X5_latest 5 rfl) rfl ?_
    refine gf_X5_135 rfl (dG D_X5_latest 6 rfl) ?_
    refine V_icmp_ge (tgt := 58) (dG D_X5_latest 7 rfl) (by decide) (fun c_11 => absurd c_11 (by rw [hV]; exact nI_ge (by omega) (by omega))) (fun c_11 => ?_)
    refine V_aload_n (dG D_X5_latest 8 rfl) rfl ?_
    refine gf_X5_45 rfl (dG D_X5_latest 9 rfl) ?_
    refine V_iload (dG D_X5_latest 10 rfl) rfl ?_
    refine iald_M13 (dG D_X5_latest 11 rfl) (inr_nI (by omega) (by decide)) ?_
    refine V_iload_n (dG D_X5_latest 12 rfl) rfl ?_
    refine V_icmp_ne (tgt := 50) (dG D_X5_latest 13 rfl) (by decide) (fun c_22 => ?_) (fun c_22 => ?_)
    · try rw [if_neg c_22]
      refine V_iload_n (dG D_X5_latest 27 rfl) rfl ?_
      refine V_istore_n (dG D_X5_latest 28 rfl) (Nat.le_of_ble_eq_true rfl) ?_
      refine V_iinc (dG D_X5_latest 29 rfl) rfl (inc1 _) (Nat.le_of_ble_eq_true rfl) ?_
      refine V_goto (tgt := 5) (dG D_X5_latest 30 rfl) (by decide) ?_
      refine V_sub [0, 1, 2, 3, 4] rfl ?_
      exact ih b (i + 1) M (by omega) hV h
    · try rw [if_pos c_22]
      refine V_aload_n (dG D_X5_latest 14 rfl) rfl ?_
      refine gf_X5_48 rfl (dG D_X5_latest 15 rfl) ?_
      refine V_iload (dG D_X5_latest 16 rfl) rfl ?_
      refine iald_M14 (dG D_X5_latest 17 rfl) (inr_nI (by omega) (by decide)) ?_
      refine V_iload_n (dG D_X5_latest 18 rfl) rfl ?_
      refine V_icmp_gt (tgt := 50) (dG D_X5_latest 19 rfl) (by decide) (fun c_33 => ?_) (fun c_33 => ?_)
      · try rw [if_pos c_33]
        refine V_iload_n (dG D_X5_latest 27 rfl) rfl ?_
        refine V_istore_n (dG D_X5_latest 28 rfl) (Nat.le_of_ble_eq_true rfl) ?_
        refine V_iinc (dG D_X5_latest 29 rfl) rfl (inc1 _) (Nat.le_of_ble_eq_true rfl) ?_
        refine V_goto (tgt := 5) (dG D_X5_latest 30 rfl) (by decide) ?_
        refine V_sub [0, 1, 2, 3, 4] rfl ?_
        exact ih b (i + 1) M (by omega) hV h
      · try rw [if_neg c_33]
        refine V_iload_n (dG D_X5_latest 20 rfl) rfl ?_
        refine V_aload_n (dG D_X5_latest 21 rfl) rfl ?_
        refine gf_X5_48 rfl (dG D_X5_latest 22 rfl) ?_
        refine V_iload (dG D_X5_latest 23 rfl) rfl ?_
        refine iald_M14 (dG D_X5_latest 24 rfl) (inr_nI (by omega) (by decide)) ?_
        refine R_vs2 om_greater lk_X5_103 (dG D_X5_latest 25 rfl) ⟨Nat.le_of_ble_eq_true rfl, Nat.le_of_ble_eq_true rfl⟩ ⟨(Nat.le_of_ble_eq_true rfl), (Nat.le_of_ble_eq_true rfl)⟩ (by first | exact Nat.le_of_ble_eq_true rfl | simp [cat_rf, cat_int, cat_ref]) (fun h => ?_)
        refine V_goto (tgt := 51) (dG D_X5_latest 26 rfl) (by decide) ?_
        refine V_istore_n (dG D_X5_latest 28 rfl) (Nat.le_of_ble_eq_true rfl) ?_
        refine V_iinc (dG D_X5_latest 29 rfl) rfl (inc1 _) (Nat.le_of_ble_eq_true rfl) ?_
        refine V_goto (tgt := 5) (dG D_X5_latest 30 rfl) (by decide) ?_
        refine V_sub [0, 1, 2, 3, 4] rfl ?_
        exact ih (s_greater b (M 14 i)) (i + 1) M (by omega) hV h
def s_latest (key : Int32) (s : Int32) (M : St) : Int32 := (s_latest_5 key s ((M 12 0).toNatClampNeg) (-1 : Int32) 0 M)
theorem om_latest {g : GT} {nt : Nat} {C : St} {o : Int64} {key : Int32} {s : Int32} {M : St} {vn : Nat} (hVb : vn ≤ 1300) (hV : M 12 0 = nI vn) : RET g K_X5_latest 0 0 [.ref (ad g 10), .int key, .int s] nt C M o (some (.int (s_latest key s M))) C M o := by
  refine MT_of (by decide +kernel) rfl rfl (Nat.le_of_ble_eq_true rfl) (by simp [cat_rf, cat_int, cat_ref]) (fun h => ?_)
  unfold s_latest
  refine V_iconst (v := -1) (dG D_X5_latest 0 rfl) (by decide) ?_
  refine V_istore_n (dG D_X5_latest 1 rfl) (Nat.le_of_ble_eq_true rfl) ?_
  refine V_iconst (v := 0) (dG D_X5_latest 2 rfl) (by decide) ?_
  refine V_istore (dG D_X5_latest 3 rfl) (Nat.le_of_ble_eq_true rfl) ?_
  refine V_sub [0, 1, 2, 3, 4] rfl ?_
  exact bm_latest_5 hVb  ((M 12 0).toNatClampNeg) (-1 : Int32) 0 M (by rw [hV, nI_clamp (by omega)]; omega) hV h
def s_valueAt_15 (key : Int32) (s : Int32) : Nat → Int32 → Int32 → Nat → St → Int32
  | 0, b, v, i, M => v
  | n + 1, b, v, i, M => (if (M 13 i) = key then (if (M 14 i) = b then (s_valueAt_15 key s n b (M 15 i) (i + 1) M) else (s_valueAt_15 key s n b v (i + 1) M)) else (s_valueAt_15 key s n b v (i + 1) M))
theorem bm_valueAt_15 {g : GT} {nt : Nat} {C : St} {o : Int64}  {key : Int32} {s : Int32} {vn : Nat} (hVb : vn ≤ 1300) : ∀ (n : Nat) (b : Int32) (v : Int32) (i : Nat) (M : St) (hi : i + n = vn) (hV : M 12 0 = nI vn) (h : Nat × Nat), V g K_X5_valueAt (kR K_X5_valueAt 0 0) (qM g 0 0 nt (fun v9 C9 M9 o9 => v9 = some (.int (s_valueAt_15 key s n b v i M)) ∧ C9 = C ∧ M9 = M ∧ o9 = o) (fun _ _ _ _ => False)) 0 0 nt h C M o 15 [(0, .ref (ad g 10)), (1, .int key), (3, .int b), (4, .int v), (5, .int (nI i))] [] := by
  intro n
  induction n with
  | zero =>
    intro b v i M hi hV h
    unfold s_valueAt_15
    refine V_iload (dG D_X5_valueAt 9 rfl) rfl ?_
    refine V_aload_n (dG D_X5_valueAt 10 rfl) rfl ?_
    refine gf_X5_135 rfl (dG D_X5_valueAt 11 rfl) ?_
    refine V_icmp_ge (tgt := 66) (dG D_X5_valueAt 12 rfl) (by decide) (fun c_21 => ?_) (fun c_21 => absurd (by rw [hV]; exact nI_le (by omega) (by omega)) c_21)
    refine V_iload (dG D_X5_valueAt 34 rfl) rfl ?_
    exact V_iret (dG D_X5_valueAt 35 rfl) rfl (Nat.le_of_ble_eq_true rfl) (Nat.le_of_ble_eq_true rfl) ⟨by first | with_reducible rfl | rfl, rfl, by first | with_reducible rfl | rfl, rfl⟩
  | succ n ih =>
    intro b v i M hi hV h
    unfold s_valueAt_15
    refine V_iload (dG D_X5_valueAt 9 rfl) rfl ?_
    refine V_aload_n (dG D_X5_valueAt 10 rfl) rfl ?_
    refine gf_X5_135 rfl (dG D_X5_valueAt 11 rfl) ?_
    refine V_icmp_ge (tgt := 66) (dG D_X5_valueAt 12 rfl) (by decide) (fun c_21 => absurd c_21 (by rw [hV]; exact nI_ge (by omega) (by omega))) (fun c_21 => ?_)
    refine V_aload_n (dG D_X5_valueAt 13 rfl) rfl ?_
    refine gf_X5_45 rfl (dG D_X5_valueAt 14 rfl) ?_
    refine V_iload (dG D_X5_valueAt 15 rfl) rfl ?_
    refine iald_M13 (dG D_X5_valueAt 16 rfl) (inr_nI (by omega) (by decide)) ?_
    refine V_iload_n (dG D_X5_valueAt 17 rfl) rfl ?_
    refine V_icmp_ne (tgt := 56) (dG D_X5_valueAt 18 rfl) (by decide) (fun c_32 => ?_) (fun c_32 => ?_)
    · try rw [if_neg c_32]
      refine V_iload (dG D_X5_valueAt 30 rfl) rfl ?_
      refine V_istore (dG D_X5_valueAt 31 rfl) (Nat.le_of_ble_eq_true rfl) ?_
      refine V_iinc (dG D_X5_valueAt 32 rfl) rfl (inc1 _) (Nat.le_of_ble_eq_true rfl) ?_
      refine V_goto (tgt := 15) (dG D_X5_valueAt 33 rfl) (by decide) ?_
      refine V_sub [0, 1, 3, 4, 5] rfl ?_
      exact ih b v (i + 1) M (by omega) hV h
    · try rw [if_pos c_32]
      refine V_aload_n (dG D_X5_valueAt 19 rfl) rfl ?_
      refine gf_X5_48 rfl (dG D_X5_valueAt 20 rfl) ?_
      refine V_iload (dG D_X5_valueAt 21 rfl) rfl ?_
      refine iald_M14 (dG D_X5_valueAt 22 rfl) (inr_nI (by omega) (by decide)) ?_
      refine V_iload_n (dG D_X5_valueAt 23 rfl) rfl ?_
      refine V_icmp_ne (tgt := 56) (dG D_X5_valueAt 24 rfl) (by decide) (fun c_43 => ?_) (fun c_43 => ?_)
      · try rw [if_neg c_43]
        refine V_iload (dG D_X5_valueAt 30 rfl) rfl ?_
        refine V_istore (dG D_X5_valueAt 31 rfl) (Nat.le_of_ble_eq_true rfl) ?_
        refine V_iinc (dG D_X5_valueAt 32 rfl) rfl (inc1 _) (Nat.le_of_ble_eq_true rfl) ?_
        refine V_goto (tgt := 15) (dG D_X5_valueAt 33 rfl) (by decide) ?_
        refine V_sub [0, 1, 3, 4, 5] rfl ?_
        exact ih b v (i + 1) M (by omega) hV h
      · try rw [if_pos c_43]
        refine V_aload_n (dG D_X5_valueAt 25 rfl) rfl ?_
        refine gf_X5_51 rfl (dG D_X5_valueAt 26 rfl) ?_
        refine V_iload (dG D_X5_valueAt 27 rfl) rfl ?_
        refine iald_M15 (dG D_X5_valueAt 28 rfl) (inr_nI (by omega) (by decide)) ?_
        refine V_goto (tgt := 58) (dG D_X5_valueAt 29 rfl) (by decide) ?_
        refine V_istore (dG D_X5_valueAt 31 rfl) (Nat.le_of_ble_eq_true rfl) ?_
        refine V_iinc (dG D_X5_valueAt 32 rfl) rfl (inc1 _) (Nat.le_of_ble_eq_true rfl) ?_
        refine V_goto (tgt := 15) (dG D_X5_valueAt 33 rfl) (by decide) ?_
        refine V_sub [0, 1, 3, 4, 5] rfl ?_
        exact ih b (M 15 i) (i + 1) M (by omega) hV h
def s_valueAt (key : Int32) (s : Int32) (M : St) : Int32 := (s_valueAt_15 key s ((M 12 0).toNatClampNeg) (s_latest key s M) (1000 : Int32) 0 M)
theorem om_valueAt {g : GT} {nt : Nat} {C : St} {o : Int64} {key : Int32} {s : Int32} {M : St} {vn : Nat} (hVb : vn ≤ 1300) (hV : M 12 0 = nI vn) : RET g K_X5_valueAt 0 0 [.ref (ad g 10), .int key, .int s] nt C M o (some (.int (s_valueAt key s M))) C M o := by
  refine MT_of (by decide +kernel) rfl rfl (Nat.le_of_ble_eq_true rfl) (by simp [cat_rf, cat_int, cat_ref]) (fun h => ?_)
  unfold s_valueAt
  refine V_aload_n (dG D_X5_valueAt 0 rfl) rfl ?_
  refine V_iload_n (dG D_X5_valueAt 1 rfl) rfl ?_
  refine V_iload_n (dG D_X5_valueAt 2 rfl) rfl ?_
  refine R_vb2 (om_latest hVb hV) lk_X5_150 (dG D_X5_valueAt 3 rfl) rcv_5 ⟨Nat.le_of_ble_eq_true rfl, Nat.le_of_ble_eq_true rfl⟩ ⟨(Nat.le_of_ble_eq_true rfl), (Nat.le_of_ble_eq_true rfl)⟩ (by first | exact Nat.le_of_ble_eq_true rfl | simp [cat_rf, cat_int, cat_ref]) (fun h => ?_)
  refine V_istore_n (dG D_X5_valueAt 4 rfl) (Nat.le_of_ble_eq_true rfl) ?_
  refine V_sipush (v := 1000) (dG D_X5_valueAt 5 rfl) (by decide) ?_
  refine V_istore (dG D_X5_valueAt 6 rfl) (Nat.le_of_ble_eq_true rfl) ?_
  refine V_iconst (v := 0) (dG D_X5_valueAt 7 rfl) (by decide) ?_
  refine V_istore (dG D_X5_valueAt 8 rfl) (Nat.le_of_ble_eq_true rfl) ?_
  refine V_sub [0, 1, 3, 4, 5] rfl ?_
  exact bm_valueAt_15 hVb  ((M 12 0).toNatClampNeg) (s_latest key s M) (1000 : Int32) 0 M (by rw [hV, nI_clamp (by omega)]; omega) hV h
def s_restarts_2 (t : Nat) (s : Int32) : Nat → Nat → St → Int32 × St
  | 0, i, M => ((-12 : Int32), (up (up (s_forgets t M) 19 t (s_greater s ((s_forgets t M) 20 t))) 20 t (s_greater s ((s_forgets t M) 20 t))))
  | n + 1, i, M => (if (M 7 i) = (nI t) then (s_restarts_2 t s n (i + 1) (up M 7 i (-1 : Int32))) else (s_restarts_2 t s n (i + 1) (up M 7 i (M 7 i))))
theorem bm_restarts_2 {g : GT} {nt : Nat} {C : St} {o : Int64}  {t : Nat} {s : Int32} (ht : t < 40) : ∀ (n : Nat) (i : Nat) (M : St) (hi : i + n = 32) (h : Nat × Nat), V g K_X5_restarts (kR K_X5_restarts 0 0) (qM g 0 0 nt (fun v9 C9 M9 o9 => v9 = some (.int (s_restarts_2 t s n i M).1) ∧ C9 = C ∧ M9 = (s_restarts_2 t s n i M).2 ∧ o9 = o) (fun _ _ _ _ => False)) 0 0 nt h C M o 2 [(0, .ref (ad g 10)), (1, .int (nI t)), (2, .int s), (3, .int (nI i))] [] := by
  intro n
  induction n with
  | zero =>
    intro i M hi h
    unfold s_restarts_2
    refine V_iload_n (dG D_X5_restarts 2 rfl) rfl ?_
    refine V_bipush (v := 32) (dG D_X5_restarts 3 rfl) (by decide) ?_
    refine V_icmp_ge (tgt := 40) (dG D_X5_restarts 4 rfl) (by decide) (fun c_5 => ?_) (fun c_5 => absurd (l32 (by omega)) c_5)
    refine V_aload_n (dG D_X5_restarts 23 rfl) rfl ?_
    refine V_iload_n (dG D_X5_restarts 24 rfl) rfl ?_
    refine R_nb1 (om_forgets (by omega) ) lk_X5_128 (dG D_X5_restarts 25 rfl) rcv_5 ⟨Nat.le_of_ble_eq_true rfl, Nat.le_of_ble_eq_true rfl⟩ ⟨(Nat.le_of_ble_eq_true rfl), (Nat.le_of_ble_eq_true rfl)⟩ (by first | exact Nat.le_of_ble_eq_true rfl | simp [cat_rf, cat_int, cat_ref]) (fun h => ?_)
    refine V_aload_n (dG D_X5_restarts 26 rfl) rfl ?_
    refine gf_X5_60 rfl (dG D_X5_restarts 27 rfl) ?_
    refine V_iload_n (dG D_X5_restarts 28 rfl) rfl ?_
    refine V_iload_n (dG D_X5_restarts 29 rfl) rfl ?_
    refine V_aload_n (dG D_X5_restarts 30 rfl) rfl ?_
    refine gf_X5_63 rfl (dG D_X5_restarts 31 rfl) ?_
    refine V_iload_n (dG D_X5_restarts 32 rfl) rfl ?_
    refine iald_M20 (dG D_X5_restarts 33 rfl) (inr_nI (by omega) (by decide)) ?_
    refine R_vs2 om_greater lk_X5_103 (dG D_X5_restarts 34 rfl) ⟨Nat.le_of_ble_eq_true rfl, Nat.le_of_ble_eq_true rfl⟩ ⟨(Nat.le_of_ble_eq_true rfl), (Nat.le_of_ble_eq_true rfl)⟩ (by first | exact Nat.le_of_ble_eq_true rfl | simp [cat_rf, cat_int, cat_ref]) (fun h => ?_)
    refine iast_M19 (dG D_X5_restarts 35 rfl) (inr_nI (by omega) (by decide)) ?_
    refine V_aload_n (dG D_X5_restarts 36 rfl) rfl ?_
    refine gf_X5_63 rfl (dG D_X5_restarts 37 rfl) ?_
    refine V_iload_n (dG D_X5_restarts 38 rfl) rfl ?_
    refine V_aload_n (dG D_X5_restarts 39 rfl) rfl ?_
    refine gf_X5_60 rfl (dG D_X5_restarts 40 rfl) ?_
    refine V_iload_n (dG D_X5_restarts 41 rfl) rfl ?_
    refine iald_M19 (dG D_X5_restarts 42 rfl) (inr_nI (by omega) (by decide)) ?_
    rw [up_eq]
    refine iast_M20 (dG D_X5_restarts 43 rfl) (inr_nI (by omega) (by decide)) ?_
    refine V_bipush (v := -12) (dG D_X5_restarts 44 rfl) (by decide) ?_
    exact V_iret (dG D_X5_restarts 45 rfl) rfl (Nat.le_of_ble_eq_true rfl) (Nat.le_of_ble_eq_true rfl) ⟨by first | with_reducible rfl | rfl, rfl, by first | with_reducible rfl | rfl, rfl⟩
  | succ n ih =>
    intro i M hi h
    unfold s_restarts_2
    refine V_iload_n (dG D_X5_restarts 2 rfl) rfl ?_
    refine V_bipush (v := 32) (dG D_X5_restarts 3 rfl) (by decide) ?_
    refine V_icmp_ge (tgt := 40) (dG D_X5_restarts 4 rfl) (by decide) (fun c_5 => absurd c_5 (g32 (by omega))) (fun c_5 => ?_)
    refine V_aload_n (dG D_X5_restarts 5 rfl) rfl ?_
    refine gf_X5_30 rfl (dG D_X5_restarts 6 rfl) ?_
    refine V_iload_n (dG D_X5_restarts 7 rfl) rfl ?_
    refine V_aload_n (dG D_X5_restarts 8 rfl) rfl ?_
    refine gf_X5_30 rfl (dG D_X5_restarts 9 rfl) ?_
    refine V_iload_n (dG D_X5_restarts 10 rfl) rfl ?_
    refine iald_M7 (dG D_X5_restarts 11 rfl) (inr_nI (by omega) (by decide)) ?_
    refine V_iload_n (dG D_X5_restarts 12 rfl) rfl ?_
    refine V_icmp_ne (tgt := 27) (dG D_X5_restarts 13 rfl) (by decide) (fun c_20 => ?_) (fun c_20 => ?_)
    · try rw [if_neg c_20]
      refine V_aload_n (dG D_X5_restarts 16 rfl) rfl ?_
      refine gf_X5_30 rfl (dG D_X5_restarts 17 rfl) ?_
      refine V_iload_n (dG D_X5_restarts 18 rfl) rfl ?_
      refine iald_M7 (dG D_X5_restarts 19 rfl) (inr_nI (by omega) (by decide)) ?_
      refine iast_M7 (dG D_X5_restarts 20 rfl) (inr_nI (by omega) (by decide)) ?_
      refine V_iinc (dG D_X5_restarts 21 rfl) rfl (inc1 _) (Nat.le_of_ble_eq_true rfl) ?_
      refine V_goto (tgt := 2) (dG D_X5_restarts 22 rfl) (by decide) ?_
      refine V_sub [0, 1, 2, 3] rfl ?_
      exact ih (i + 1) (up M 7 i (M 7 i)) (by omega) h
    · try rw [if_pos c_20]
      refine V_iconst (v := -1) (dG D_X5_restarts 14 rfl) (by decide) ?_
      refine V_goto (tgt := 33) (dG D_X5_restarts 15 rfl) (by decide) ?_
      refine iast_M7 (dG D_X5_restarts 20 rfl) (inr_nI (by omega) (by decide)) ?_
      refine V_iinc (dG D_X5_restarts 21 rfl) rfl (inc1 _) (Nat.le_of_ble_eq_true rfl) ?_
      refine V_goto (tgt := 2) (dG D_X5_restarts 22 rfl) (by decide) ?_
      refine V_sub [0, 1, 2, 3] rfl ?_
      exact ih (i + 1) (up M 7 i (-1 : Int32)) (by omega) h
def s_restarts (t : Nat) (s : Int32) (M : St) : Int32 × St := (s_restarts_2 t s 32 0 M)
theorem om_restarts {g : GT} {nt : Nat} {C : St} {o : Int64} {t : Nat} {s : Int32} {M : St} (ht : t < 40)  : RET g K_X5_restarts 0 0 [.ref (ad g 10), .int (nI t), .int s] nt C M o (some (.int (s_restarts t s M).1)) C (s_restarts t s M).2 o := by
  refine MT_of (by decide +kernel) rfl rfl (Nat.le_of_ble_eq_true rfl) (by simp [cat_rf, cat_int, cat_ref]) (fun h => ?_)
  unfold s_restarts
  refine V_iconst (v := 0) (dG D_X5_restarts 0 rfl) (by decide) ?_
  refine V_istore_n (dG D_X5_restarts 1 rfl) (Nat.le_of_ble_eq_true rfl) ?_
  refine V_sub [0, 1, 2, 3] rfl ?_
  exact bm_restarts_2 ht  32 0 M (by omega) h
