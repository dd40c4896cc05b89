/-! the model's feed and judged: the inner loops -/
set_option maxHeartbeats 100000
def s_feed_42 (x : Int32) : Nat → Int32 → Int32 → Int32 → Int32 → Nat → St → Int32
  | 0, l, s, z, b, i, M => b
  | n + 1, l, s, z, b, i, M => (if s < (M 14 i) then (s_feed_42 x n l s z b (i + 1) M) else (if (((32 : Int32) * (M 14 i)) + (M 13 i)) ≤ l then (s_feed_42 x n l s z b (i + 1) M) else (if b = (-1 : Int32) then (s_feed_42 x n l s z (((32 : Int32) * (M 14 i)) + (M 13 i)) (i + 1) M) else (if b ≤ (((32 : Int32) * (M 14 i)) + (M 13 i)) then (s_feed_42 x n l s z b (i + 1) M) else (s_feed_42 x n l s z (((32 : Int32) * (M 14 i)) + (M 13 i)) (i + 1) M)))))
theorem bmi_feed_42 {g : GT} {nt : Nat} {C : St} {o : Int64}  {x : Int32} {R9 : Room} {Qf : QT} {kb nb : Nat} {vn : Nat} (hVb : vn ≤ 1300) : ∀ (n : Nat) (l : Int32) (s : Int32) (z : Int32) (b : Int32) (i : Nat) (M : St) (hi : i + n = vn) (hV : M 12 0 = nI vn) (Kc : ∀ h, V g K_X5_feed R9 Qf kb nb nt h C M o 116 [(0, .ref (ad g 10)), (1, .int x), (2, .int l), (3, .int s), (4, .int z), (5, .int (s_feed_42 x n l s z b i M))] []) (h : Nat × Nat), V g K_X5_feed R9 Qf kb nb nt h C M o 42 [(0, .ref (ad g 10)), (1, .int x), (2, .int l), (3, .int s), (4, .int z), (5, .int b), (6, .int (nI i))] [] := by
  intro n
  induction n with
  | zero =>
    intro l s z b i M hi hV Kc h
    unfold s_feed_42 at Kc
    refine V_iload (dG D_X5_feed 24 rfl) rfl ?_
    refine V_aload_n (dG D_X5_feed 25 rfl) rfl ?_
    refine gf_X5_135 rfl (dG D_X5_feed 26 rfl) ?_
    refine V_icmp_ge (tgt := 116) (dG D_X5_feed 27 rfl) (by decide) (fun c_48 => ?_) (fun c_48 => absurd (by rw [hV]; exact nI_le (by omega) (by omega)) c_48)
    refine V_sub [0, 1, 2, 3, 4, 5] rfl ?_
    exact Kc h
  | succ n ih =>
    intro l s z b i M hi hV Kc h
    unfold s_feed_42 at Kc
    refine V_iload (dG D_X5_feed 24 rfl) rfl ?_
    refine V_aload_n (dG D_X5_feed 25 rfl) rfl ?_
    refine gf_X5_135 rfl (dG D_X5_feed 26 rfl) ?_
    refine V_icmp_ge (tgt := 116) (dG D_X5_feed 27 rfl) (by decide) (fun c_48 => absurd c_48 (by rw [hV]; exact nI_ge (by omega) (by omega))) (fun c_48 => ?_)
    refine V_bipush (v := 32) (dG D_X5_feed 28 rfl) (by decide) ?_
    refine V_aload_n (dG D_X5_feed 29 rfl) rfl ?_
    refine gf_X5_48 rfl (dG D_X5_feed 30 rfl) ?_
    refine V_iload (dG D_X5_feed 31 rfl) rfl ?_
    refine iald_M14 (dG D_X5_feed 32 rfl) (inr_nI (by omega) (by decide)) ?_
    refine V_imul (dG D_X5_feed 33 rfl) ?_
    refine V_aload_n (dG D_X5_feed 34 rfl) rfl ?_
    refine gf_X5_45 rfl (dG D_X5_feed 35 rfl) ?_
    refine V_iload (dG D_X5_feed 36 rfl) rfl ?_
    refine iald_M13 (dG D_X5_feed 37 rfl) (inr_nI (by omega) (by decide)) ?_
    refine V_iadd (dG D_X5_feed 38 rfl) ?_
    refine V_istore (dG D_X5_feed 39 rfl) (Nat.le_of_ble_eq_true rfl) ?_
    refine V_aload_n (dG D_X5_feed 40 rfl) rfl ?_
    refine gf_X5_48 rfl (dG D_X5_feed 41 rfl) ?_
    refine V_iload (dG D_X5_feed 42 rfl) rfl ?_
    refine iald_M14 (dG D_X5_feed 43 rfl) (inr_nI (by omega) (by decide)) ?_
    refine V_iload_n (dG D_X5_feed 44 rfl) rfl ?_
    refine V_icmp_gt (tgt := 106) (dG D_X5_feed 45 rfl) (by decide) (fun c_79 => ?_) (fun c_79 => ?_)
    · try rw [if_pos c_79] at Kc
      refine V_iload (dG D_X5_feed 57 rfl) rfl ?_
      refine V_istore (dG D_X5_feed 58 rfl) (Nat.le_of_ble_eq_true rfl) ?_
      refine V_iinc (dG D_X5_feed 59 rfl) rfl (inc1 _) (Nat.le_of_ble_eq_true rfl) ?_
      refine V_goto (tgt := 42) (dG D_X5_feed 60 rfl) (by decide) ?_
      refine V_sub [0, 1, 2, 3, 4, 5, 6] rfl ?_
      exact ih l s z b (i + 1) M (by omega) hV Kc h
    · try rw [if_neg c_79] at Kc
      refine V_iload (dG D_X5_feed 46 rfl) rfl ?_
      refine V_iload_n (dG D_X5_feed 47 rfl) rfl ?_
      refine V_icmp_le (tgt := 106) (dG D_X5_feed 48 rfl) (by decide) (fun c_85 => ?_) (fun c_85 => ?_)
      · try rw [if_pos c_85] at Kc
        refine V_iload (dG D_X5_feed 57 rfl) rfl ?_
        refine V_istore (dG D_X5_feed 58 rfl) (Nat.le_of_ble_eq_true rfl) ?_
        refine V_iinc (dG D_X5_feed 59 rfl) rfl (inc1 _) (Nat.le_of_ble_eq_true rfl) ?_
        refine V_goto (tgt := 42) (dG D_X5_feed 60 rfl) (by decide) ?_
        refine V_sub [0, 1, 2, 3, 4, 5, 6] rfl ?_
        exact ih l s z b (i + 1) M (by omega) hV Kc h
      · try rw [if_neg c_85] at Kc
        refine V_iload (dG D_X5_feed 49 rfl) rfl ?_
        refine V_iconst (v := -1) (dG D_X5_feed 50 rfl) (by decide) ?_
        refine V_icmp_eq (tgt := 101) (dG D_X5_feed 51 rfl) (by decide) (fun c_91 => ?_) (fun c_91 => ?_)
        · try rw [if_pos c_91] at Kc
          refine V_iload (dG D_X5_feed 55 rfl) rfl ?_
          refine V_goto (tgt := 108) (dG D_X5_feed 56 rfl) (by decide) ?_
          refine V_istore (dG D_X5_feed 58 rfl) (Nat.le_of_ble_eq_true rfl) ?_
          refine V_iinc (dG D_X5_feed 59 rfl) rfl (inc1 _) (Nat.le_of_ble_eq_true rfl) ?_
          refine V_goto (tgt := 42) (dG D_X5_feed 60 rfl) (by decide) ?_
          refine V_sub [0, 1, 2, 3, 4, 5, 6] rfl ?_
          exact ih l s z (((32 : Int32) * (M 14 i)) + (M 13 i)) (i + 1) M (by omega) hV Kc h
        · try rw [if_neg c_91] at Kc
          refine V_iload (dG D_X5_feed 52 rfl) rfl ?_
          refine V_iload (dG D_X5_feed 53 rfl) rfl ?_
          refine V_icmp_ge (tgt := 106) (dG D_X5_feed 54 rfl) (by decide) (fun c_98 => ?_) (fun c_98 => ?_)
          · try rw [if_pos c_98] at Kc
            refine V_iload (dG D_X5_feed 57 rfl) rfl ?_
            refine V_istore (dG D_X5_feed 58 rfl) (Nat.le_of_ble_eq_true rfl) ?_
            refine V_iinc (dG D_X5_feed 59 rfl) rfl (inc1 _) (Nat.le_of_ble_eq_true rfl) ?_
            refine V_goto (tgt := 42) (dG D_X5_feed 60 rfl) (by decide) ?_
            refine V_sub [0, 1, 2, 3, 4, 5, 6] rfl ?_
            exact ih l s z b (i + 1) M (by omega) hV Kc h
          · try rw [if_neg c_98] at Kc
            refine V_iload (dG D_X5_feed 55 rfl) rfl ?_
            refine V_goto (tgt := 108) (dG D_X5_feed 56 rfl) (by decide) ?_
            refine V_istore (dG D_X5_feed 58 rfl) (Nat.le_of_ble_eq_true rfl) ?_
            refine V_iinc (dG D_X5_feed 59 rfl) rfl (inc1 _) (Nat.le_of_ble_eq_true rfl) ?_
            refine V_goto (tgt := 42) (dG D_X5_feed 60 rfl) (by decide) ?_
            refine V_sub [0, 1, 2, 3, 4, 5, 6] rfl ?_
            exact ih l s z (((32 : Int32) * (M 14 i)) + (M 13 i)) (i + 1) M (by omega) hV Kc h
theorem ix32w {z : Int32} {i : Nat} (hz : vp_in z 40) (hi : i < 32) : inr ((32 : Int32) * z + nI i) 1280 (32 * z.toNatClampNeg + i) := by
  have e : (32 : Int32) * z + nI i = nI (32 * z.toNatClampNeg + i) := (congrArg (fun q => (32 : Int32) * q + nI i) (nI_self (fun q => hz (Or.inl q))).symm).trans (ix32 _ _)
  rw [e]
  exact inr_nI (by have := vin_lt hz; omega) (by decide)
def s_judged_7 : Nat → Nat → St → St
  | 0, i, M => M
  | n + 1, i, M => (s_judged_7 n (i + 1) (up M 30 i (1000 : Int32)))
theorem bmi_judged_7 {g : GT} {nt : Nat} {C : St} {o : Int64}  {R9 : Room} {Qf : QT} {kb nb : Nat}  : ∀ (n : Nat) (i : Nat) (M : St) (hi : i + n = 32) (Kc : ∀ h, V g K_X5_judged R9 Qf kb nb nt h C (s_judged_7 n i M) o 28 [(0, .ref (ad g 10))] []) (h : Nat × Nat), V g K_X5_judged R9 Qf kb nb nt h C M o 7 [(0, .ref (ad g 10)), (1, .int (nI i))] [] := by
  intro n
  induction n with
  | zero =>
    intro i M hi Kc h
    unfold s_judged_7 at Kc
    refine V_iload_n (dG D_X5_judged 5 rfl) rfl ?_
    refine V_bipush (v := 32) (dG D_X5_judged 6 rfl) (by decide) ?_
    refine V_icmp_ge (tgt := 28) (dG D_X5_judged 7 rfl) (by decide) (fun c_10 => ?_) (fun c_10 => absurd (l32 (by omega)) c_10)
    refine V_sub [0] rfl ?_
    exact Kc h
  | succ n ih =>
    intro i M hi Kc h
    unfold s_judged_7 at Kc
    refine V_iload_n (dG D_X5_judged 5 rfl) rfl ?_
    refine V_bipush (v := 32) (dG D_X5_judged 6 rfl) (by decide) ?_
    refine V_icmp_ge (tgt := 28) (dG D_X5_judged 7 rfl) (by decide) (fun c_10 => absurd c_10 (g32 (by omega))) (fun c_10 => ?_)
    refine V_aload_n (dG D_X5_judged 8 rfl) rfl ?_
    refine gf_X5_90 rfl (dG D_X5_judged 9 rfl) ?_
    refine V_iload_n (dG D_X5_judged 10 rfl) rfl ?_
    refine V_sipush (v := 1000) (dG D_X5_judged 11 rfl) (by decide) ?_
    refine iast_M30 (dG D_X5_judged 12 rfl) (inr_nI (by omega) (by decide)) ?_
    refine V_iinc (dG D_X5_judged 13 rfl) rfl (inc1 _) (Nat.le_of_ble_eq_true rfl) ?_
    refine V_goto (tgt := 7) (dG D_X5_judged 14 rfl) (by decide) ?_
    refine V_sub [0, 1] rfl ?_
    exact ih (i + 1) (up M 30 i (1000 : Int32)) (by omega) Kc h
def s_judged_43 : Nat → Int32 → Int32 → Nat → St → Int32
  | 0, c, t, i, M => c
  | n + 1, c, t, i, M => (if (M 28 (32 * t.toNatClampNeg + i)) = (-1 : Int32) then (s_judged_43 n (c + (0 : Int32)) t (i + 1) M) else (if (M 28 (32 * t.toNatClampNeg + i)) = (M 30 i) then (s_judged_43 n (c + (0 : Int32)) t (i + 1) M) else (s_judged_43 n (c + (1 : Int32)) t (i + 1) M)))
theorem bmi_judged_43 {g : GT} {nt : Nat} {C : St} {o : Int64}  {R9 : Room} {Qf : QT} {kb nb : Nat}  : ∀ (n : Nat) (c : Int32) (t : Int32) (i : Nat) (M : St) (hi : i + n = 32) (ht : vp_in t 40) (Kc : ∀ h, V g K_X5_judged R9 Qf kb nb nt h C M o 98 [(0, .ref (ad g 10)), (1, .int (s_judged_43 n c t i M)), (2, .int t)] []) (h : Nat × Nat), V g K_X5_judged R9 Qf kb nb nt h C M o 43 [(0, .ref (ad g 10)), (1, .int c), (2, .int t), (3, .int (nI i))] [] := by
  intro n
  induction n with
  | zero =>
    intro c t i M hi ht Kc h
    unfold s_judged_43 at Kc
    refine V_iload_n (dG D_X5_judged 26 rfl) rfl ?_
    refine V_bipush (v := 32) (dG D_X5_judged 27 rfl) (by decide) ?_
    refine V_icmp_ge (tgt := 98) (dG D_X5_judged 28 rfl) (by decide) (fun c_46 => ?_) (fun c_46 => absurd (l32 (by omega)) c_46)
    refine V_sub [0, 1, 2] rfl ?_
    exact Kc h
  | succ n ih =>
    intro c t i M hi ht Kc h
    unfold s_judged_43 at Kc
    refine V_iload_n (dG D_X5_judged 26 rfl) rfl ?_
    refine V_bipush (v := 32) (dG D_X5_judged 27 rfl) (by decide) ?_
    refine V_icmp_ge (tgt := 98) (dG D_X5_judged 28 rfl) (by decide) (fun c_46 => absurd c_46 (g32 (by omega))) (fun c_46 => ?_)
    refine V_iload_n (dG D_X5_judged 29 rfl) rfl ?_
    refine V_aload_n (dG D_X5_judged 30 rfl) rfl ?_
    refine gf_X5_84 rfl (dG D_X5_judged 31 rfl) ?_
    refine V_bipush (v := 32) (dG D_X5_judged 32 rfl) (by decide) ?_
    refine V_iload_n (dG D_X5_judged 33 rfl) rfl ?_
    refine V_imul (dG D_X5_judged 34 rfl) ?_
    refine V_iload_n (dG D_X5_judged 35 rfl) rfl ?_
    refine V_iadd (dG D_X5_judged 36 rfl) ?_
    refine iald_M28 (dG D_X5_judged 37 rfl) (ix32w ht (by omega)) ?_
    refine V_iconst (v := -1) (dG D_X5_judged 38 rfl) (by decide) ?_
    refine V_icmp_eq (tgt := 89) (dG D_X5_judged 39 rfl) (by decide) (fun c_62 => ?_) (fun c_62 => ?_)
    · try rw [if_pos c_62] at Kc
      refine V_iconst (v := 0) (dG D_X5_judged 55 rfl) (by decide) ?_
      refine V_iadd (dG D_X5_judged 56 rfl) ?_
      refine V_istore_n (dG D_X5_judged 57 rfl) (Nat.le_of_ble_eq_true rfl) ?_
      refine V_iinc (dG D_X5_judged 58 rfl) rfl (inc1 _) (Nat.le_of_ble_eq_true rfl) ?_
      refine V_goto (tgt := 43) (dG D_X5_judged 59 rfl) (by decide) ?_
      refine V_sub [0, 1, 2, 3] rfl ?_
      exact ih (c + (0 : Int32)) t (i + 1) M (by omega) ht Kc h
    · try rw [if_neg c_62] at Kc
      refine V_aload_n (dG D_X5_judged 40 rfl) rfl ?_
      refine gf_X5_84 rfl (dG D_X5_judged 41 rfl) ?_
      refine V_bipush (v := 32) (dG D_X5_judged 42 rfl) (by decide) ?_
      refine V_iload_n (dG D_X5_judged 43 rfl) rfl ?_
      refine V_imul (dG D_X5_judged 44 rfl) ?_
      refine V_iload_n (dG D_X5_judged 45 rfl) rfl ?_
      refine V_iadd (dG D_X5_judged 46 rfl) ?_
      refine iald_M28 (dG D_X5_judged 47 rfl) (ix32w ht (by omega)) ?_
      refine V_aload_n (dG D_X5_judged 48 rfl) rfl ?_
      refine gf_X5_90 rfl (dG D_X5_judged 49 rfl) ?_
      refine V_iload_n (dG D_X5_judged 50 rfl) rfl ?_
      refine iald_M30 (dG D_X5_judged 51 rfl) (inr_nI (by omega) (by decide)) ?_
      refine V_icmp_eq (tgt := 89) (dG D_X5_judged 52 rfl) (by decide) (fun c_82 => ?_) (fun c_82 => ?_)
      · try rw [if_pos c_82] at Kc
        refine V_iconst (v := 0) (dG D_X5_judged 55 rfl) (by decide) ?_
        refine V_iadd (dG D_X5_judged 56 rfl) ?_
        refine V_istore_n (dG D_X5_judged 57 rfl) (Nat.le_of_ble_eq_true rfl) ?_
        refine V_iinc (dG D_X5_judged 58 rfl) rfl (inc1 _) (Nat.le_of_ble_eq_true rfl) ?_
        refine V_goto (tgt := 43) (dG D_X5_judged 59 rfl) (by decide) ?_
        refine V_sub [0, 1, 2, 3] rfl ?_
        exact ih (c + (0 : Int32)) t (i + 1) M (by omega) ht Kc h
      · try rw [if_neg c_82] at Kc
        refine V_iconst (v := 1) (dG D_X5_judged 53 rfl) (by decide) ?_
        refine V_goto (tgt := 90) (dG D_X5_judged 54 rfl) (by decide) ?_
        refine V_iadd (dG D_X5_judged 56 rfl) ?_
        refine V_istore_n (dG D_X5_judged 57 rfl) (Nat.le_of_ble_eq_true rfl) ?_
        refine V_iinc (dG D_X5_judged 58 rfl) rfl (inc1 _) (Nat.le_of_ble_eq_true rfl) ?_
        refine V_goto (tgt := 43) (dG D_X5_judged 59 rfl) (by decide) ?_
        refine V_sub [0, 1, 2, 3] rfl ?_
        exact ih (c + (1 : Int32)) t (i + 1) M (by omega) ht Kc h
def s_judged_100 : Nat → Int32 → Int32 → Nat → St → St
  | 0, c, t, i, M => M
  | n + 1, c, t, i, M => (if (M 29 (32 * t.toNatClampNeg + i)) = (-1 : Int32) then (s_judged_100 n c t (i + 1) (up M 30 i (M 30 i))) else (s_judged_100 n c t (i + 1) (up M 30 i (M 29 (32 * t.toNatClampNeg + i)))))
theorem bmi_judged_100 {g : GT} {nt : Nat} {C : St} {o : Int64}  {R9 : Room} {Qf : QT} {kb nb : Nat}  : ∀ (n : Nat) (c : Int32) (t : Int32) (i : Nat) (M : St) (hi : i + n = 32) (ht : vp_in t 40) (Kc : ∀ h, V g K_X5_judged R9 Qf kb nb nt h C (s_judged_100 n c t i M) o 153 [(0, .ref (ad g 10)), (1, .int c), (2, .int t)] []) (h : Nat × Nat), V g K_X5_judged R9 Qf kb nb nt h C M o 100 [(0, .ref (ad g 10)), (1, .int c), (2, .int t), (3, .int (nI i))] [] := by
  intro n
  induction n with
  | zero =>
    intro c t i M hi ht Kc h
    unfold s_judged_100 at Kc
    refine V_iload_n (dG D_X5_judged 62 rfl) rfl ?_
    refine V_bipush (v := 32) (dG D_X5_judged 63 rfl) (by decide) ?_
    refine V_icmp_ge (tgt := 153) (dG D_X5_judged 64 rfl) (by decide) (fun c_103 => ?_) (fun c_103 => absurd (l32 (by omega)) c_103)
    refine V_sub [0, 1, 2] rfl ?_
    exact Kc h
  | succ n ih =>
    intro c t i M hi ht Kc h
    unfold s_judged_100 at Kc
    refine V_iload_n (dG D_X5_judged 62 rfl) rfl ?_
    refine V_bipush (v := 32) (dG D_X5_judged 63 rfl) (by decide) ?_
    refine V_icmp_ge (tgt := 153) (dG D_X5_judged 64 rfl) (by decide) (fun c_103 => absurd c_103 (g32 (by omega))) (fun c_103 => ?_)
    refine V_aload_n (dG D_X5_judged 65 rfl) rfl ?_
    refine gf_X5_90 rfl (dG D_X5_judged 66 rfl) ?_
    refine V_iload_n (dG D_X5_judged 67 rfl) rfl ?_
    refine V_aload_n (dG D_X5_judged 68 rfl) rfl ?_
    refine gf_X5_87 rfl (dG D_X5_judged 69 rfl) ?_
    refine V_bipush (v := 32) (dG D_X5_judged 70 rfl) (by decide) ?_
    refine V_iload_n (dG D_X5_judged 71 rfl) rfl ?_
    refine V_imul (dG D_X5_judged 72 rfl) ?_
    refine V_iload_n (dG D_X5_judged 73 rfl) rfl ?_
    refine V_iadd (dG D_X5_judged 74 rfl) ?_
    refine iald_M29 (dG D_X5_judged 75 rfl) (ix32w ht (by omega)) ?_
    refine V_iconst (v := -1) (dG D_X5_judged 76 rfl) (by decide) ?_
    refine V_icmp_eq (tgt := 140) (dG D_X5_judged 77 rfl) (by decide) (fun c_123 => ?_) (fun c_123 => ?_)
    · try rw [if_pos c_123] at Kc
      refine V_aload_n (dG D_X5_judged 87 rfl) rfl ?_
      refine gf_X5_90 rfl (dG D_X5_judged 88 rfl) ?_
      refine V_iload_n (dG D_X5_judged 89 rfl) rfl ?_
      refine iald_M30 (dG D_X5_judged 90 rfl) (inr_nI (by omega) (by decide)) ?_
      refine iast_M30 (dG D_X5_judged 91 rfl) (inr_nI (by omega) (by decide)) ?_
      refine V_iinc (dG D_X5_judged 92 rfl) rfl (inc1 _) (Nat.le_of_ble_eq_true rfl) ?_
      refine V_goto (tgt := 100) (dG D_X5_judged 93 rfl) (by decide) ?_
      refine V_sub [0, 1, 2, 3] rfl ?_
      exact ih c t (i + 1) (up M 30 i (M 30 i)) (by omega) ht Kc h
    · try rw [if_neg c_123] at Kc
      refine V_aload_n (dG D_X5_judged 78 rfl) rfl ?_
      refine gf_X5_87 rfl (dG D_X5_judged 79 rfl) ?_
      refine V_bipush (v := 32) (dG D_X5_judged 80 rfl) (by decide) ?_
      refine V_iload_n (dG D_X5_judged 81 rfl) rfl ?_
      refine V_imul (dG D_X5_judged 82 rfl) ?_
      refine V_iload_n (dG D_X5_judged 83 rfl) rfl ?_
      refine V_iadd (dG D_X5_judged 84 rfl) ?_
      refine iald_M29 (dG D_X5_judged 85 rfl) (ix32w ht (by omega)) ?_
      refine V_goto (tgt := 146) (dG D_X5_judged 86 rfl) (by decide) ?_
      refine iast_M30 (dG D_X5_judged 91 rfl) (inr_nI (by omega) (by decide)) ?_
      refine V_iinc (dG D_X5_judged 92 rfl) rfl (inc1 _) (Nat.le_of_ble_eq_true rfl) ?_
      refine V_goto (tgt := 100) (dG D_X5_judged 93 rfl) (by decide) ?_
      refine V_sub [0, 1, 2, 3] rfl ?_
      exact ih c t (i + 1) (up M 30 i (M 29 (32 * t.toNatClampNeg + i))) (by omega) ht Kc h
