/-! the model's methods (5) -/
set_option maxHeartbeats 60000
theorem no_vp {M : St} {key : Int32} {R : Nat} (hR1 : 1 ≤ R) (hR2 : R ≤ 32) (hR : M 4 0 = nI R) (hN : ∀ r, r < 32 → vp_in (M 6 r) 4) : vp_in (s_nodeOf key M) 4 := hN _ (vin_lt (ro_vp hR1 hR2 hR))
theorem ix4v {X : Int32} {t : Nat} (ht : t < 40) (h : vp_in X 4) : inr ((4 : Int32) * nI t + X) 160 (4 * t + X.toNatClampNeg) := by
  have e : (4 : Int32) * nI t + X = nI (4 * t + X.toNatClampNeg) := (congrArg (fun q => (4 : Int32) * nI t + q) (nI_self (fun z => h (Or.inl z))).symm).trans (ix4 _ _)
  rw [e]
  exact inr_nI (by have := vin_lt h; omega) (by decide)
theorem ix4w {z : Int32} {i : Nat} (hz : vp_in z 40) (hi : i < 4) : inr ((4 : Int32) * z + nI i) 160 (4 * z.toNatClampNeg + i) := by
  have e : (4 : Int32) * z + nI i = nI (4 * z.toNatClampNeg + i) := (congrArg (fun q => (4 : Int32) * q + nI i) (nI_self (fun q => hz (Or.inl q))).symm).trans (ix4 _ _)
  rw [e]
  exact inr_nI (by have := vin_lt hz; omega) (by decide)
theorem le_clamp {x : Int32} : x ≤ nI x.toNatClampNeg := by
  by_cases h : x < 0
  · have e : x.toNatClampNeg = 0 := by
      have := Int32.lt_iff_toInt_lt.mp h
      have e0 : (0 : Int32).toInt = 0 := by decide
      unfold Int32.toNatClampNeg
      omega
    rw [e]
    exact Int32.le_of_lt h
  · rw [nI_self h]
    exact Int32.le_refl _
theorem clamp_lt {x : Int32} : x.toNatClampNeg < 2 ^ 31 := by
  have := Int32.toInt_le x
  have e : Int32.maxValue.toInt = 2147483647 := by decide
  unfold Int32.toNatClampNeg
  omega
theorem nle_clamp {x : Int32} {i : Nat} (h : i < x.toNatClampNeg) : ¬ x ≤ nI i := by
  have hx : ¬ x < 0 := fun q => by
    have := Int32.lt_iff_toInt_lt.mp q
    have e0 : (0 : Int32).toInt = 0 := by decide
    unfold Int32.toNatClampNeg at h
    omega
  have h2 := clamp_lt (x := x)
  have h3 := nI_ge (a := i) (b := x.toNatClampNeg) h h2
  rw [nI_self hx] at h3
  exact h3
theorem wfm_vp {M : St} {t : Nat} (hw : ¬ M 24 t = (-1 : Int32) → vp_in (M 24 t) 40) (h : ¬ s_waitsFor t M = -1) : vp_in (s_waitsFor t M) 40 := by
  unfold s_waitsFor at h ⊢
  split
  · rename_i c1
    rw [if_pos c1] at h
    split
    · rename_i c2
      rw [if_pos c2] at h
      exact absurd rfl h
    · rename_i c2
      rw [if_neg c2] at h
      split
      · exact hw c2
      · rename_i c3
        rw [if_neg c3] at h
        exact absurd rfl h
  · rename_i c1
    rw [if_neg c1] at h
    exact absurd rfl h
def s_key_47 (x : Int32) (w : Int32) : Nat → Int32 → Nat → St → Int32 × St
  | 0, c, i, M => (if w = (0 : Int32) then (c, M) else (if w = (1 : Int32) then (M 7 x.toNatClampNeg, M) else (if w = (2 : Int32) then (M 10 x.toNatClampNeg, M) else (if w = (3 : Int32) then (M 11 x.toNatClampNeg, M) else (if w = (4 : Int32) then ((s_rangeOf x M), M) else (if w = (5 : Int32) then ((s_nodeOf x M), M) else (if (M 7 x.toNatClampNeg) = (-1 : Int32) then ((0 : Int32), M) else (if (M 8 x.toNatClampNeg) = (0 : Int32) then ((0 : Int32), M) else ((1 : Int32), M)))))))))
  | n + 1, c, i, M => (if (M 13 i) = x then (s_key_47 x w n (c + (1 : Int32)) (i + 1) M) else (s_key_47 x w n (c + (0 : Int32)) (i + 1) M))
theorem bm_key_47 {g : GT} {nt : Nat} {C : St} {o : Int64}  {x : Int32} {w : Int32} {vn R : Nat} (hVb : vn ≤ 1300) (hR1 : 1 ≤ R) (hR2 : R ≤ 32) : ∀ (n : Nat) (c : Int32) (i : Nat) (M : St) (hi : i + n = vn) (hV : M 12 0 = nI vn) (hR : M 4 0 = nI R) (hx : vp_in x 32) (h : Nat × Nat), V g K_X5_key (kR K_X5_key 0 0) (qM g 0 0 nt (fun v9 C9 M9 o9 => v9 = some (.int (s_key_47 x w n c i M).1) ∧ C9 = C ∧ M9 = (s_key_47 x w n c i M).2 ∧ o9 = o) (fun _ _ _ _ => False)) 0 0 nt h C M o 47 [(0, .ref (ad g 10)), (1, .int x), (2, .int w), (3, .int c), (4, .int (nI i))] [] := by
  intro n
  induction n with
  | zero =>
    intro c i M hi hV hR hx h
    unfold s_key_47
    refine V_iload (dG D_X5_key 26 rfl) rfl ?_
    refine V_aload_n (dG D_X5_key 27 rfl) rfl ?_
    refine gf_X5_135 rfl (dG D_X5_key 28 rfl) ?_
    refine V_icmp_ge (tgt := 81) (dG D_X5_key 29 rfl) (by decide) (fun c_53 => ?_) (fun c_53 => absurd (by rw [hV]; exact nI_le (by omega) (by omega)) c_53)
    refine V_iload_n (dG D_X5_key 44 rfl) rfl ?_
    refine V_if_ne (tgt := 89) (dG D_X5_key 45 rfl) (by decide) (fun c_82 => ?_) (fun c_82 => ?_)
    · try rw [if_neg c_82]
      refine V_iload_n (dG D_X5_key 48 rfl) rfl ?_
      refine V_iconst (v := 1) (dG D_X5_key 49 rfl) (by decide) ?_
      refine V_icmp_ne (tgt := 103) (dG D_X5_key 50 rfl) (by decide) (fun c_91 => ?_) (fun c_91 => ?_)
      · try rw [if_neg c_91]
        refine V_iload_n (dG D_X5_key 56 rfl) rfl ?_
        refine V_iconst (v := 2) (dG D_X5_key 57 rfl) (by decide) ?_
        refine V_icmp_ne (tgt := 117) (dG D_X5_key 58 rfl) (by decide) (fun c_105 => ?_) (fun c_105 => ?_)
        · try rw [if_neg c_105]
          refine V_iload_n (dG D_X5_key 64 rfl) rfl ?_
          refine V_iconst (v := 3) (dG D_X5_key 65 rfl) (by decide) ?_
          refine V_icmp_ne (tgt := 131) (dG D_X5_key 66 rfl) (by decide) (fun c_119 => ?_) (fun c_119 => ?_)
          · try rw [if_neg c_119]
            refine V_iload_n (dG D_X5_key 72 rfl) rfl ?_
            refine V_iconst (v := 4) (dG D_X5_key 73 rfl) (by decide) ?_
            refine V_icmp_ne (tgt := 144) (dG D_X5_key 74 rfl) (by decide) (fun c_133 => ?_) (fun c_133 => ?_)
            · try rw [if_neg c_133]
              refine V_iload_n (dG D_X5_key 79 rfl) rfl ?_
              refine V_iconst (v := 5) (dG D_X5_key 80 rfl) (by decide) ?_
              refine V_icmp_ne (tgt := 157) (dG D_X5_key 81 rfl) (by decide) (fun c_146 => ?_) (fun c_146 => ?_)
              · try rw [if_neg c_146]
                refine V_aload_n (dG D_X5_key 86 rfl) rfl ?_
                refine gf_X5_30 rfl (dG D_X5_key 87 rfl) ?_
                refine V_iload_n (dG D_X5_key 88 rfl) rfl ?_
                refine iald_M7 (dG D_X5_key 89 rfl) (inr_of hx) ?_
                refine V_iconst (v := -1) (dG D_X5_key 90 rfl) (by decide) ?_
                refine V_icmp_eq (tgt := 180) (dG D_X5_key 91 rfl) (by decide) (fun c_164 => ?_) (fun c_164 => ?_)
                · try rw [if_pos c_164]
                  refine V_iconst (v := 0) (dG D_X5_key 99 rfl) (by decide) ?_
                  exact V_iret (dG D_X5_key 100 rfl) rfl (Nat.le_of_ble_eq_true rfl) (Nat.le_of_ble_eq_true rfl) ⟨by first | with_reducible rfl | rfl, rfl, by first | with_reducible rfl | rfl, rfl⟩
                · try rw [if_neg c_164]
                  refine V_aload_n (dG D_X5_key 92 rfl) rfl ?_
                  refine gf_X5_33 rfl (dG D_X5_key 93 rfl) ?_
                  refine V_iload_n (dG D_X5_key 94 rfl) rfl ?_
                  refine zald_M8 (dG D_X5_key 95 rfl) (inr_of hx) ?_
                  refine V_if_eq (tgt := 180) (dG D_X5_key 96 rfl) (by decide) (fun c_173 => ?_) (fun c_173 => ?_)
                  · try rw [if_pos c_173]
                    refine V_iconst (v := 0) (dG D_X5_key 99 rfl) (by decide) ?_
                    exact V_iret (dG D_X5_key 100 rfl) rfl (Nat.le_of_ble_eq_true rfl) (Nat.le_of_ble_eq_true rfl) ⟨by first | with_reducible rfl | rfl, rfl, by first | with_reducible rfl | rfl, rfl⟩
                  · try rw [if_neg c_173]
                    refine V_iconst (v := 1) (dG D_X5_key 97 rfl) (by decide) ?_
                    refine V_goto (tgt := 181) (dG D_X5_key 98 rfl) (by decide) ?_
                    exact V_iret (dG D_X5_key 100 rfl) rfl (Nat.le_of_ble_eq_true rfl) (Nat.le_of_ble_eq_true rfl) ⟨by first | with_reducible rfl | rfl, rfl, by first | with_reducible rfl | rfl, rfl⟩
              · try rw [if_pos c_146]
                refine V_aload_n (dG D_X5_key 82 rfl) rfl ?_
                refine V_iload_n (dG D_X5_key 83 rfl) rfl ?_
                refine R_vb1 (om_nodeOf hR1 hR2 hR) lk_X5_118 (dG D_X5_key 84 rfl) rcv_5 ⟨Nat.le_of_ble_eq_true rfl, Nat.le_of_ble_eq_true rfl⟩ ⟨(Nat.le_of_ble_eq_true rfl), (Nat.le_of_ble_eq_true rfl)⟩ (by first | exact Nat.le_of_ble_eq_true rfl | simp [cat_rf, cat_int, cat_ref]) (fun h => ?_)
                refine V_goto (tgt := 181) (dG D_X5_key 85 rfl) (by decide) ?_
                exact V_iret (dG D_X5_key 100 rfl) rfl (Nat.le_of_ble_eq_true rfl) (Nat.le_of_ble_eq_true rfl) ⟨by first | with_reducible rfl | rfl, rfl, by first | with_reducible rfl | rfl, rfl⟩
            · try rw [if_pos c_133]
              refine V_aload_n (dG D_X5_key 75 rfl) rfl ?_
              refine V_iload_n (dG D_X5_key 76 rfl) rfl ?_
              refine R_vb1 (om_rangeOf hR2 hR) lk_X5_115 (dG D_X5_key 77 rfl) rcv_5 ⟨Nat.le_of_ble_eq_true rfl, Nat.le_of_ble_eq_true rfl⟩ ⟨(Nat.le_of_ble_eq_true rfl), (Nat.le_of_ble_eq_true rfl)⟩ (by first | exact Nat.le_of_ble_eq_true rfl | simp [cat_rf, cat_int, cat_ref]) (fun h => ?_)
              refine V_goto (tgt := 181) (dG D_X5_key 78 rfl) (by decide) ?_
              exact V_iret (dG D_X5_key 100 rfl) rfl (Nat.le_of_ble_eq_true rfl) (Nat.le_of_ble_eq_true rfl) ⟨by first | with_reducible rfl | rfl, rfl, by first | with_reducible rfl | rfl, rfl⟩
          · try rw [if_pos c_119]
            refine V_aload_n (dG D_X5_key 67 rfl) rfl ?_
            refine gf_X5_42 rfl (dG D_X5_key 68 rfl) ?_
            refine V_iload_n (dG D_X5_key 69 rfl) rfl ?_
            refine iald_M11 (dG D_X5_key 70 rfl) (inr_of hx) ?_
            refine V_goto (tgt := 181) (dG D_X5_key 71 rfl) (by decide) ?_
            exact V_iret (dG D_X5_key 100 rfl) rfl (Nat.le_of_ble_eq_true rfl) (Nat.le_of_ble_eq_true rfl) ⟨by first | with_reducible rfl | rfl, rfl, by first | with_reducible rfl | rfl, rfl⟩
        · try rw [if_pos c_105]
          refine V_aload_n (dG D_X5_key 59 rfl) rfl ?_
          refine gf_X5_39 rfl (dG D_X5_key 60 rfl) ?_
          refine V_iload_n (dG D_X5_key 61 rfl) rfl ?_
          refine iald_M10 (dG D_X5_key 62 rfl) (inr_of hx) ?_
          refine V_goto (tgt := 181) (dG D_X5_key 63 rfl) (by decide) ?_
          exact V_iret (dG D_X5_key 100 rfl) rfl (Nat.le_of_ble_eq_true rfl) (Nat.le_of_ble_eq_true rfl) ⟨by first | with_reducible rfl | rfl, rfl, by first | with_reducible rfl | rfl, rfl⟩
      · try rw [if_pos c_91]
        refine V_aload_n (dG D_X5_key 51 rfl) rfl ?_
        refine gf_X5_30 rfl (dG D_X5_key 52 rfl) ?_
        refine V_iload_n (dG D_X5_key 53 rfl) rfl ?_
        refine iald_M7 (dG D_X5_key 54 rfl) (inr_of hx) ?_
        refine V_goto (tgt := 181) (dG D_X5_key 55 rfl) (by decide) ?_
        exact V_iret (dG D_X5_key 100 rfl) rfl (Nat.le_of_ble_eq_true rfl) (Nat.le_of_ble_eq_true rfl) ⟨by first | with_reducible rfl | rfl, rfl, by first | with_reducible rfl | rfl, rfl⟩
    · try rw [if_pos c_82]
      refine V_iload_n (dG D_X5_key 46 rfl) rfl ?_
      refine V_goto (tgt := 181) (dG D_X5_key 47 rfl) (by decide) ?_
      exact V_iret (dG D_X5_key 100 rfl) rfl (Nat.le_of_ble_eq_true rfl) (Nat.le_of_ble_eq_true rfl) ⟨by first | with_reducible rfl | rfl, rfl, by first | with_reducible rfl | rfl, rfl⟩
  | succ n ih =>
    intro c i M hi hV hR hx h
    unfold s_key_47
    refine V_iload (dG D_X5_key 26 rfl) rfl ?_
    refine V_aload_n (dG D_X5_key 27 rfl) rfl ?_
    refine gf_X5_135 rfl (dG D_X5_key 28 rfl) ?_
    refine V_icmp_ge (tgt := 81) (dG D_X5_key 29 rfl) (by decide) (fun c_53 => absurd c_53 (by rw [hV]; exact nI_ge (by omega) (by omega))) (fun c_53 => ?_)
    refine V_iload_n (dG D_X5_key 30 rfl) rfl ?_
    refine V_aload_n (dG D_X5_key 31 rfl) rfl ?_
    refine gf_X5_45 rfl (dG D_X5_key 32 rfl) ?_
    refine V_iload (dG D_X5_key 33 rfl) rfl ?_
    refine iald_M13 (dG D_X5_key 34 rfl) (inr_nI (by omega) (by decide)) ?_
    refine V_iload_n (dG D_X5_key 35 rfl) rfl ?_
    refine V_icmp_ne (tgt := 72) (dG D_X5_key 36 rfl) (by decide) (fun c_65 => ?_) (fun c_65 => ?_)
    · try rw [if_neg c_65]
      refine V_iconst (v := 0) (dG D_X5_key 39 rfl) (by decide) ?_
      refine V_iadd (dG D_X5_key 40 rfl) ?_
      refine V_istore_n (dG D_X5_key 41 rfl) (Nat.le_of_ble_eq_true rfl) ?_
      refine V_iinc (dG D_X5_key 42 rfl) rfl (inc1 _) (Nat.le_of_ble_eq_true rfl) ?_
      refine V_goto (tgt := 47) (dG D_X5_key 43 rfl) (by decide) ?_
      refine V_sub [0, 1, 2, 3, 4] rfl ?_
      exact ih (c + (0 : Int32)) (i + 1) M (by omega) hV hR hx h
    · try rw [if_pos c_65]
      refine V_iconst (v := 1) (dG D_X5_key 37 rfl) (by decide) ?_
      refine V_goto (tgt := 73) (dG D_X5_key 38 rfl) (by decide) ?_
      refine V_iadd (dG D_X5_key 40 rfl) ?_
      refine V_istore_n (dG D_X5_key 41 rfl) (Nat.le_of_ble_eq_true rfl) ?_
      refine V_iinc (dG D_X5_key 42 rfl) rfl (inc1 _) (Nat.le_of_ble_eq_true rfl) ?_
      refine V_goto (tgt := 47) (dG D_X5_key 43 rfl) (by decide) ?_
      refine V_sub [0, 1, 2, 3, 4] rfl ?_
      exact ih (c + (1 : Int32)) (i + 1) M (by omega) hV hR hx h
def s_key (x : Int32) (w : Int32) (M : St) : Int32 × St := (if (s_in x (0 : Int32) (31 : Int32)) = (0 : Int32) then ((0 : Int32), (up M 31 0 (1 : Int32))) else (if (s_in w (0 : Int32) (6 : Int32)) = (0 : Int32) then ((0 : Int32), (up M 31 0 (2 : Int32))) else (s_key_47 x w (((up M 31 0 (0 : Int32)) 12 0).toNatClampNeg) (0 : Int32) 0 (up M 31 0 (0 : Int32)))))
theorem om_key {g : GT} {nt : Nat} {C : St} {o : Int64} {x : Int32} {w : Int32} {M : St} {vn R : Nat} (hVb : vn ≤ 1300) (hR1 : 1 ≤ R) (hR2 : R ≤ 32) (hV : M 12 0 = nI vn) (hR : M 4 0 = nI R) : RET g K_X5_key 0 0 [.ref (ad g 10), .int x, .int w] nt C M o (some (.int (s_key x w M).1)) C (s_key x w M).2 o := by
  refine MT_of (by decide +kernel) rfl rfl (Nat.le_of_ble_eq_true rfl) (by simp [cat_rf, cat_int, cat_ref]) (fun h => ?_)
  unfold s_key
  refine V_aload_n (dG D_X5_key 0 rfl) rfl ?_
  refine V_iload_n (dG D_X5_key 1 rfl) rfl ?_
  refine V_iconst (v := 0) (dG D_X5_key 2 rfl) (by decide) ?_
  refine V_bipush (v := 31) (dG D_X5_key 3 rfl) (by decide) ?_
  refine R_vs3 om_in lk_X5_96 (dG D_X5_key 4 rfl) ⟨Nat.le_of_ble_eq_true rfl, Nat.le_of_ble_eq_true rfl⟩ ⟨(Nat.le_of_ble_eq_true rfl), (Nat.le_of_ble_eq_true rfl)⟩ (by first | exact Nat.le_of_ble_eq_true rfl | simp [cat_rf, cat_int, cat_ref]) (fun h => ?_)
  refine V_if_ne (tgt := 15) (dG D_X5_key 5 rfl) (by decide) (fun c_8 => ?_) (fun c_8 => ?_)
  · try rw [if_neg c_8]
    refine V_iload_n (dG D_X5_key 8 rfl) rfl ?_
    refine V_iconst (v := 0) (dG D_X5_key 9 rfl) (by decide) ?_
    refine V_bipush (v := 6) (dG D_X5_key 10 rfl) (by decide) ?_
    refine R_vs3 om_in lk_X5_96 (dG D_X5_key 11 rfl) ⟨Nat.le_of_ble_eq_true rfl, Nat.le_of_ble_eq_true rfl⟩ ⟨(Nat.le_of_ble_eq_true rfl), (Nat.le_of_ble_eq_true rfl)⟩ (by first | exact Nat.le_of_ble_eq_true rfl | simp [cat_rf, cat_int, cat_ref]) (fun h => ?_)
    refine V_if_ne (tgt := 29) (dG D_X5_key 12 rfl) (by decide) (fun c_22 => ?_) (fun c_22 => ?_)
    · try rw [if_neg c_22]
      refine V_iconst (v := 0) (dG D_X5_key 15 rfl) (by decide) ?_
      refine pf_X5_93 rfl (dG D_X5_key 16 rfl) ?_
      refine V_aload_n (dG D_X5_key 17 rfl) rfl ?_
      refine gf_X5_93 rfl (dG D_X5_key 18 rfl) ?_
      rw [up_eq]
      refine V_if_le (tgt := 42) (dG D_X5_key 19 rfl) (by decide) (fun c_37 => ?_) (fun c_37 => absurd c_37 (by decide))
      refine V_iconst (v := 0) (dG D_X5_key 22 rfl) (by decide) ?_
      refine V_istore_n (dG D_X5_key 23 rfl) (Nat.le_of_ble_eq_true rfl) ?_
      refine V_iconst (v := 0) (dG D_X5_key 24 rfl) (by decide) ?_
      refine V_istore (dG D_X5_key 25 rfl) (Nat.le_of_ble_eq_true rfl) ?_
      refine V_sub [0, 1, 2, 3, 4] rfl ?_
      exact bm_key_47 hVb hR1 hR2  (((up M 31 0 (0 : Int32)) 12 0).toNatClampNeg) (0 : Int32) 0 (up M 31 0 (0 : Int32)) (by rw [up_row (by decide), hV, nI_clamp (by omega)]; omega) (by rw [up_row (by decide)]; exact hV) (by rw [up_row (by decide)]; exact hR) (in31 c_8) h
    · try rw [if_pos c_22]
      refine V_iconst (v := 2) (dG D_X5_key 13 rfl) (by decide) ?_
      refine V_goto (tgt := 30) (dG D_X5_key 14 rfl) (by decide) ?_
      refine pf_X5_93 rfl (dG D_X5_key 16 rfl) ?_
      refine V_aload_n (dG D_X5_key 17 rfl) rfl ?_
      refine gf_X5_93 rfl (dG D_X5_key 18 rfl) ?_
      rw [up_eq]
      refine V_if_le (tgt := 42) (dG D_X5_key 19 rfl) (by decide) (fun c_37 => absurd c_37 (by decide)) (fun c_37 => ?_)
      refine V_iconst (v := 0) (dG D_X5_key 20 rfl) (by decide) ?_
      exact V_iret (dG D_X5_key 21 rfl) rfl (Nat.le_of_ble_eq_true rfl) (Nat.le_of_ble_eq_true rfl) ⟨by first | with_reducible rfl | rfl, rfl, by first | with_reducible rfl | rfl, rfl⟩
  · try rw [if_pos c_8]
    refine V_iconst (v := 1) (dG D_X5_key 6 rfl) (by decide) ?_
    refine V_goto (tgt := 30) (dG D_X5_key 7 rfl) (by decide) ?_
    refine pf_X5_93 rfl (dG D_X5_key 16 rfl) ?_
    refine V_aload_n (dG D_X5_key 17 rfl) rfl ?_
    refine gf_X5_93 rfl (dG D_X5_key 18 rfl) ?_
    rw [up_eq]
    refine V_if_le (tgt := 42) (dG D_X5_key 19 rfl) (by decide) (fun c_37 => absurd c_37 (by decide)) (fun c_37 => ?_)
    refine V_iconst (v := 0) (dG D_X5_key 20 rfl) (by decide) ?_
    exact V_iret (dG D_X5_key 21 rfl) rfl (Nat.le_of_ble_eq_true rfl) (Nat.le_of_ble_eq_true rfl) ⟨by first | with_reducible rfl | rfl, rfl, by first | with_reducible rfl | rfl, rfl⟩
def s_asOf (x : Int32) (w : Int32) (M : St) : Int32 × St := (if (s_in x (0 : Int32) (31 : Int32)) = (0 : Int32) then ((0 : Int32), (up M 31 0 (1 : Int32))) else (if (s_in w (0 : Int32) (s_closedNow M)) = (0 : Int32) then ((0 : Int32), (up M 31 0 (2 : Int32))) else (if (M 7 x.toNatClampNeg) = (-1 : Int32) then ((s_valueAt x w (up M 31 0 (0 : Int32))), (up M 31 0 (0 : Int32))) else (if (M 23 ((M 7 x.toNatClampNeg).toNatClampNeg)) = (1 : Int32) then (if w < (M 20 ((M 7 x.toNatClampNeg).toNatClampNeg)) then ((s_valueAt x w (up M 31 0 (0 : Int32))), (up M 31 0 (0 : Int32))) else ((-11 : Int32), (up M 31 0 (0 : Int32)))) else ((s_valueAt x w (up M 31 0 (0 : Int32))), (up M 31 0 (0 : Int32)))))))
theorem om_asOf {g : GT} {nt : Nat} {C : St} {o : Int64} {x : Int32} {w : Int32} {M : St} {vn : Nat} (hVb : vn ≤ 1300) (hV : M 12 0 = nI vn) (ho : ∀ k, k < 32 → ¬ M 7 k = (-1 : Int32) → vp_in (M 7 k) 40) : RET g K_X5_asOf 0 0 [.ref (ad g 10), .int x, .int w] nt C M o (some (.int (s_asOf x w M).1)) C (s_asOf x w M).2 o := by
  refine MT_of (by decide +kernel) rfl rfl (Nat.le_of_ble_eq_true rfl) (by simp [cat_rf, cat_int, cat_ref]) (fun h => ?_)
  unfold s_asOf
  refine V_aload_n (dG D_X5_asOf 0 rfl) rfl ?_
  refine V_iload_n (dG D_X5_asOf 1 rfl) rfl ?_
  refine V_iconst (v := 0) (dG D_X5_asOf 2 rfl) (by decide) ?_
  refine V_bipush (v := 31) (dG D_X5_asOf 3 rfl) (by decide) ?_
  refine R_vs3 om_in lk_X5_96 (dG D_X5_asOf 4 rfl) ⟨Nat.le_of_ble_eq_true rfl, Nat.le_of_ble_eq_true rfl⟩ ⟨(Nat.le_of_ble_eq_true rfl), (Nat.le_of_ble_eq_true rfl)⟩ (by first | exact Nat.le_of_ble_eq_true rfl | simp [cat_rf, cat_int, cat_ref]) (fun h => ?_)
  refine V_if_ne (tgt := 15) (dG D_X5_asOf 5 rfl) (by decide) (fun c_8 => ?_) (fun c_8 => ?_)
  · try rw [if_neg c_8]
    refine V_iload_n (dG D_X5_asOf 8 rfl) rfl ?_
    refine V_iconst (v := 0) (dG D_X5_asOf 9 rfl) (by decide) ?_
    refine V_aload_n (dG D_X5_asOf 10 rfl) rfl ?_
    refine R_vb0 om_closedNow lk_X5_111 (dG D_X5_asOf 11 rfl) rcv_5 ⟨Nat.le_of_ble_eq_true rfl, Nat.le_of_ble_eq_true rfl⟩ ⟨(Nat.le_of_ble_eq_true rfl), (Nat.le_of_ble_eq_true rfl)⟩ (by first | exact Nat.le_of_ble_eq_true rfl | simp [cat_rf, cat_int, cat_ref]) (fun h => ?_)
    refine R_vs3 om_in lk_X5_96 (dG D_X5_asOf 12 rfl) ⟨Nat.le_of_ble_eq_true rfl, Nat.le_of_ble_eq_true rfl⟩ ⟨(Nat.le_of_ble_eq_true rfl), (Nat.le_of_ble_eq_true rfl)⟩ (by first | exact Nat.le_of_ble_eq_true rfl | simp [cat_rf, cat_int, cat_ref]) (fun h => ?_)
    refine V_if_ne (tgt := 31) (dG D_X5_asOf 13 rfl) (by decide) (fun c_24 => ?_) (fun c_24 => ?_)
    · try rw [if_neg c_24]
      refine V_iconst (v := 0) (dG D_X5_asOf 16 rfl) (by decide) ?_
      refine pf_X5_93 rfl (dG D_X5_asOf 17 rfl) ?_
      refine V_aload_n (dG D_X5_asOf 18 rfl) rfl ?_
      refine gf_X5_93 rfl (dG D_X5_asOf 19 rfl) ?_
      rw [up_eq]
      refine V_if_le (tgt := 44) (dG D_X5_asOf 20 rfl) (by decide) (fun c_39 => ?_) (fun c_39 => absurd c_39 (by decide))
      refine V_aload_n (dG D_X5_asOf 23 rfl) rfl ?_
      refine gf_X5_30 rfl (dG D_X5_asOf 24 rfl) ?_
      refine V_iload_n (dG D_X5_asOf 25 rfl) rfl ?_
      refine iald_M7 (dG D_X5_asOf 26 rfl) (inr_of (in31 c_8)) ?_
      rw [up_row (v := 31) (w := 7) (by decide)]
      refine V_istore_n (dG D_X5_asOf 27 rfl) (Nat.le_of_ble_eq_true rfl) ?_
      refine V_iload_n (dG D_X5_asOf 28 rfl) rfl ?_
      refine V_iconst (v := -1) (dG D_X5_asOf 29 rfl) (by decide) ?_
      refine V_icmp_eq (tgt := 81) (dG D_X5_asOf 30 rfl) (by decide) (fun c_53 => ?_) (fun c_53 => ?_)
      · try rw [if_pos c_53]
        refine V_aload_n (dG D_X5_asOf 45 rfl) rfl ?_
        refine V_iload_n (dG D_X5_asOf 46 rfl) rfl ?_
        refine V_iload_n (dG D_X5_asOf 47 rfl) rfl ?_
        refine R_vb2 (om_valueAt hVb (by rw [up_row (by decide)]; exact hV)) lk_X5_182 (dG D_X5_asOf 48 rfl) rcv_5 ⟨Nat.le_of_ble_eq_true rfl, Nat.le_of_ble_eq_true rfl⟩ ⟨(Nat.le_of_ble_eq_true rfl), (Nat.le_of_ble_eq_true rfl)⟩ (by first | exact Nat.le_of_ble_eq_true rfl | simp [cat_rf, cat_int, cat_ref]) (fun h => ?_)
        exact V_iret (dG D_X5_asOf 49 rfl) rfl (Nat.le_of_ble_eq_true rfl) (Nat.le_of_ble_eq_true rfl) ⟨by first | with_reducible rfl | rfl, rfl, by first | with_reducible rfl | rfl, rfl⟩
      · try rw [if_neg c_53]
        refine V_aload_n (dG D_X5_asOf 31 rfl) rfl ?_
        refine gf_X5_72 rfl (dG D_X5_asOf 32 rfl) ?_
        refine V_iload_n (dG D_X5_asOf 33 rfl) rfl ?_
        refine iald_M23 (dG D_X5_asOf 34 rfl) (inr_of (ho _ (vin_lt (in31 c_8)) c_53)) ?_
        rw [up_row (v := 31) (w := 23) (by decide)]
        refine V_iconst (v := 1) (dG D_X5_asOf 35 rfl) (by decide) ?_
        refine V_icmp_ne (tgt := 81) (dG D_X5_asOf 36 rfl) (by decide) (fun c_63 => ?_) (fun c_63 => ?_)
        · try rw [if_neg c_63]
          refine V_aload_n (dG D_X5_asOf 45 rfl) rfl ?_
          refine V_iload_n (dG D_X5_asOf 46 rfl) rfl ?_
          refine V_iload_n (dG D_X5_asOf 47 rfl) rfl ?_
          refine R_vb2 (om_valueAt hVb (by rw [up_row (by decide)]; exact hV)) lk_X5_182 (dG D_X5_asOf 48 rfl) rcv_5 ⟨Nat.le_of_ble_eq_true rfl, Nat.le_of_ble_eq_true rfl⟩ ⟨(Nat.le_of_ble_eq_true rfl), (Nat.le_of_ble_eq_true rfl)⟩ (by first | exact Nat.le_of_ble_eq_true rfl | simp [cat_rf, cat_int, cat_ref]) (fun h => ?_)
          exact V_iret (dG D_X5_asOf 49 rfl) rfl (Nat.le_of_ble_eq_true rfl) (Nat.le_of_ble_eq_true rfl) ⟨by first | with_reducible rfl | rfl, rfl, by first | with_reducible rfl | rfl, rfl⟩
        · try rw [if_pos c_63]
          refine V_aload_n (dG D_X5_asOf 37 rfl) rfl ?_
          refine gf_X5_63 rfl (dG D_X5_asOf 38 rfl) ?_
          refine V_iload_n (dG D_X5_asOf 39 rfl) rfl ?_
          refine iald_M20 (dG D_X5_asOf 40 rfl) (inr_of (ho _ (vin_lt (in31 c_8)) c_53)) ?_
          rw [up_row (v := 31) (w := 20) (by decide)]
          refine V_iload_n (dG D_X5_asOf 41 rfl) rfl ?_
          refine V_icmp_gt (tgt := 81) (dG D_X5_asOf 42 rfl) (by decide) (fun c_73 => ?_) (fun c_73 => ?_)
          · try rw [if_pos c_73]
            refine V_aload_n (dG D_X5_asOf 45 rfl) rfl ?_
            refine V_iload_n (dG D_X5_asOf 46 rfl) rfl ?_
            refine V_iload_n (dG D_X5_asOf 47 rfl) rfl ?_
            refine R_vb2 (om_valueAt hVb (by rw [up_row (by decide)]; exact hV)) lk_X5_182 (dG D_X5_asOf 48 rfl) rcv_5 ⟨Nat.le_of_ble_eq_true rfl, Nat.le_of_ble_eq_true rfl⟩ ⟨(Nat.le_of_ble_eq_true rfl), (Nat.le_of_ble_eq_true rfl)⟩ (by first | exact Nat.le_of_ble_eq_true rfl | simp [cat_rf, cat_int, cat_ref]) (fun h => ?_)
            exact V_iret (dG D_X5_asOf 49 rfl) rfl (Nat.le_of_ble_eq_true rfl) (Nat.le_of_ble_eq_true rfl) ⟨by first | with_reducible rfl | rfl, rfl, by first | with_reducible rfl | rfl, rfl⟩
          · try rw [if_neg c_73]
            refine V_bipush (v := -11) (dG D_X5_asOf 43 rfl) (by decide) ?_
            refine V_goto (tgt := 87) (dG D_X5_asOf 44 rfl) (by decide) ?_
            exact V_iret (dG D_X5_asOf 49 rfl) rfl (Nat.le_of_ble_eq_true rfl) (Nat.le_of_ble_eq_true rfl) ⟨by first | with_reducible rfl | rfl, rfl, by first | with_reducible rfl | rfl, rfl⟩
    · try rw [if_pos c_24]
      refine V_iconst (v := 2) (dG D_X5_asOf 14 rfl) (by decide) ?_
      refine V_goto (tgt := 32) (dG D_X5_asOf 15 rfl) (by decide) ?_
      refine pf_X5_93 rfl (dG D_X5_asOf 17 rfl) ?_
      refine V_aload_n (dG D_X5_asOf 18 rfl) rfl ?_
      refine gf_X5_93 rfl (dG D_X5_asOf 19 rfl) ?_
      rw [up_eq]
      refine V_if_le (tgt := 44) (dG D_X5_asOf 20 rfl) (by decide) (fun c_39 => absurd c_39 (by decide)) (fun c_39 => ?_)
      refine V_iconst (v := 0) (dG D_X5_asOf 21 rfl) (by decide) ?_
      exact V_iret (dG D_X5_asOf 22 rfl) rfl (Nat.le_of_ble_eq_true rfl) (Nat.le_of_ble_eq_true rfl) ⟨by first | with_reducible rfl | rfl, rfl, by first | with_reducible rfl | rfl, rfl⟩
  · try rw [if_pos c_8]
    refine V_iconst (v := 1) (dG D_X5_asOf 6 rfl) (by decide) ?_
    refine V_goto (tgt := 32) (dG D_X5_asOf 7 rfl) (by decide) ?_
    refine pf_X5_93 rfl (dG D_X5_asOf 17 rfl) ?_
    refine V_aload_n (dG D_X5_asOf 18 rfl) rfl ?_
    refine gf_X5_93 rfl (dG D_X5_asOf 19 rfl) ?_
    rw [up_eq]
    refine V_if_le (tgt := 44) (dG D_X5_asOf 20 rfl) (by decide) (fun c_39 => absurd c_39 (by decide)) (fun c_39 => ?_)
    refine V_iconst (v := 0) (dG D_X5_asOf 21 rfl) (by decide) ?_
    exact V_iret (dG D_X5_asOf 22 rfl) rfl (Nat.le_of_ble_eq_true rfl) (Nat.le_of_ble_eq_true rfl) ⟨by first | with_reducible rfl | rfl, rfl, by first | with_reducible rfl | rfl, rfl⟩
def s_order_32 (x : Int32) : Nat → Int32 → Nat → St → Int32 × St
  | 0, z, i, M => (if (M 31 0) = (0 : Int32) then (z, M) else ((0 : Int32), M))
  | n + 1, z, i, M => (if z = (-1 : Int32) then (if (M 31 0) = (0 : Int32) then (z, M) else ((0 : Int32), M)) else (s_order_32 x n (s_next z M) (i + 1) M))
theorem bm_order_32 {g : GT} {nt : Nat} {C : St} {o : Int64}  {x : Int32} {N : Nat} (hN : N ≤ 40) : ∀ (n : Nat) (z : Int32) (i : Nat) (M : St) (hi : i + n = x.toNatClampNeg) (hm : M 16 0 = nI N) (hz : ¬ z = (-1 : Int32) → vp_in z 40) (h : Nat × Nat), V g K_X5_order (kR K_X5_order 0 0) (qM g 0 0 nt (fun v9 C9 M9 o9 => v9 = some (.int (s_order_32 x n z i M).1) ∧ C9 = C ∧ M9 = (s_order_32 x n z i M).2 ∧ o9 = o) (fun _ _ _ _ => False)) 0 0 nt h C M o 32 [(0, .ref (ad g 10)), (1, .int x), (2, .int z), (3, .int (nI i))] [] := by
  intro n
  induction n with
  | zero =>
    intro z i M hi hm hz h
    unfold s_order_32
    refine V_iload_n (dG D_X5_order 18 rfl) rfl ?_
    refine V_iload_n (dG D_X5_order 19 rfl) rfl ?_
    refine V_icmp_ge (tgt := 54) (dG D_X5_order 20 rfl) (by decide) (fun c_34 => ?_) (fun c_34 => absurd (by rw [show i = x.toNatClampNeg by omega]; exact le_clamp) c_34)
    refine V_aload_n (dG D_X5_order 30 rfl) rfl ?_
    refine gf_X5_93 rfl (dG D_X5_order 31 rfl) ?_
    refine V_if_ne (tgt := 65) (dG D_X5_order 32 rfl) (by decide) (fun c_58 => ?_) (fun c_58 => ?_)
    · try rw [if_neg c_58]
      refine V_iconst (v := 0) (dG D_X5_order 35 rfl) (by decide) ?_
      exact V_iret (dG D_X5_order 36 rfl) rfl (Nat.le_of_ble_eq_true rfl) (Nat.le_of_ble_eq_true rfl) ⟨by first | with_reducible rfl | rfl, rfl, by first | with_reducible rfl | rfl, rfl⟩
    · try rw [if_pos c_58]
      refine V_iload_n (dG D_X5_order 33 rfl) rfl ?_
      refine V_goto (tgt := 66) (dG D_X5_order 34 rfl) (by decide) ?_
      exact V_iret (dG D_X5_order 36 rfl) rfl (Nat.le_of_ble_eq_true rfl) (Nat.le_of_ble_eq_true rfl) ⟨by first | with_reducible rfl | rfl, rfl, by first | with_reducible rfl | rfl, rfl⟩
  | succ n ih =>
    intro z i M hi hm hz h
    unfold s_order_32
    refine V_iload_n (dG D_X5_order 18 rfl) rfl ?_
    refine V_iload_n (dG D_X5_order 19 rfl) rfl ?_
    refine V_icmp_ge (tgt := 54) (dG D_X5_order 20 rfl) (by decide) (fun c_34 => absurd c_34 (nle_clamp (by omega))) (fun c_34 => ?_)
    refine V_iload_n (dG D_X5_order 21 rfl) rfl ?_
    refine V_iconst (v := -1) (dG D_X5_order 22 rfl) (by decide) ?_
    refine V_icmp_eq (tgt := 54) (dG D_X5_order 23 rfl) (by decide) (fun c_39 => ?_) (fun c_39 => ?_)
    · try rw [if_pos c_39]
      refine V_aload_n (dG D_X5_order 30 rfl) rfl ?_
      refine gf_X5_93 rfl (dG D_X5_order 31 rfl) ?_
      refine V_if_ne (tgt := 65) (dG D_X5_order 32 rfl) (by decide) (fun c_58 => ?_) (fun c_58 => ?_)
      · try rw [if_neg c_58]
        refine V_iconst (v := 0) (dG D_X5_order 35 rfl) (by decide) ?_
        exact V_iret (dG D_X5_order 36 rfl) rfl (Nat.le_of_ble_eq_true rfl) (Nat.le_of_ble_eq_true rfl) ⟨by first | with_reducible rfl | rfl, rfl, by first | with_reducible rfl | rfl, rfl⟩
      · try rw [if_pos c_58]
        refine V_iload_n (dG D_X5_order 33 rfl) rfl ?_
        refine V_goto (tgt := 66) (dG D_X5_order 34 rfl) (by decide) ?_
        exact V_iret (dG D_X5_order 36 rfl) rfl (Nat.le_of_ble_eq_true rfl) (Nat.le_of_ble_eq_true rfl) ⟨by first | with_reducible rfl | rfl, rfl, by first | with_reducible rfl | rfl, rfl⟩
    · try rw [if_neg c_39]
      refine V_aload_n (dG D_X5_order 24 rfl) rfl ?_
      refine V_iload_n (dG D_X5_order 25 rfl) rfl ?_
      refine R_vb1 (om_next hN hm hz) lk_X5_199 (dG D_X5_order 26 rfl) rcv_5 ⟨Nat.le_of_ble_eq_true rfl, Nat.le_of_ble_eq_true rfl⟩ ⟨(Nat.le_of_ble_eq_true rfl), (Nat.le_of_ble_eq_true rfl)⟩ (by first | exact Nat.le_of_ble_eq_true rfl | simp [cat_rf, cat_int, cat_ref]) (fun h => ?_)
      refine V_istore_n (dG D_X5_order 27 rfl) (Nat.le_of_ble_eq_true rfl) ?_
      refine V_iinc (dG D_X5_order 28 rfl) rfl (inc1 _) (Nat.le_of_ble_eq_true rfl) ?_
      refine V_goto (tgt := 32) (dG D_X5_order 29 rfl) (by decide) ?_
      refine V_sub [0, 1, 2, 3] rfl ?_
      exact ih (s_next z M) (i + 1) M (by omega) hm (fun q => next_vp hN hm q) h
def s_order (x : Int32) (M : St) : Int32 × St := (if (0 : Int32) ≤ x then (s_order_32 x x.toNatClampNeg (s_next (-1 : Int32) (up M 31 0 (0 : Int32))) 0 (up M 31 0 (0 : Int32))) else (s_order_32 x x.toNatClampNeg (-1 : Int32) 0 (up M 31 0 (1 : Int32))))
theorem om_order {g : GT} {nt : Nat} {C : St} {o : Int64} {x : Int32} {M : St} {N : Nat} (hN : N ≤ 40) (hm : M 16 0 = nI N) : RET g K_X5_order 0 0 [.ref (ad g 10), .int x] nt C M o (some (.int (s_order x M).1)) C (s_order x M).2 o := by
  refine MT_of (by decide +kernel) rfl rfl (Nat.le_of_ble_eq_true rfl) (by simp [cat_rf, cat_int, cat_ref]) (fun h => ?_)
  unfold s_order
  refine V_aload_n (dG D_X5_order 0 rfl) rfl ?_
  refine V_iload_n (dG D_X5_order 1 rfl) rfl ?_
  refine V_if_ge (tgt := 9) (dG D_X5_order 2 rfl) (by decide) (fun c_2 => ?_) (fun c_2 => ?_)
  · try rw [if_pos c_2]
    refine V_iconst (v := 0) (dG D_X5_order 5 rfl) (by decide) ?_
    refine pf_X5_93 rfl (dG D_X5_order 6 rfl) ?_
    refine V_aload_n (dG D_X5_order 7 rfl) rfl ?_
    refine gf_X5_93 rfl (dG D_X5_order 8 rfl) ?_
    rw [up_eq]
    refine V_if_ne (tgt := 28) (dG D_X5_order 9 rfl) (by decide) (fun c_17 => absurd c_17 (by decide)) (fun c_17 => ?_)
    refine V_aload_n (dG D_X5_order 10 rfl) rfl ?_
    refine V_iconst (v := -1) (dG D_X5_order 11 rfl) (by decide) ?_
    refine R_vb1 (om_next hN (by rw [up_row (by decide)]; exact hm) (fun q => absurd rfl q)) lk_X5_199 (dG D_X5_order 12 rfl) rcv_5 ⟨Nat.le_of_ble_eq_true rfl, Nat.le_of_ble_eq_true rfl⟩ ⟨(Nat.le_of_ble_eq_true rfl), (Nat.le_of_ble_eq_true rfl)⟩ (by first | exact Nat.le_of_ble_eq_true rfl | simp [cat_rf, cat_int, cat_ref]) (fun h => ?_)
    refine V_goto (tgt := 29) (dG D_X5_order 13 rfl) (by decide) ?_
    refine V_istore_n (dG D_X5_order 15 rfl) (Nat.le_of_ble_eq_true rfl) ?_
    refine V_iconst (v := 0) (dG D_X5_order 16 rfl) (by decide) ?_
    refine V_istore_n (dG D_X5_order 17 rfl) (Nat.le_of_ble_eq_true rfl) ?_
    refine V_sub [0, 1, 2, 3] rfl ?_
    exact bm_order_32 hN  x.toNatClampNeg (s_next (-1 : Int32) (up M 31 0 (0 : Int32))) 0 (up M 31 0 (0 : Int32)) (Nat.zero_add _) (by rw [up_row (by decide)]; exact hm) (by first | exact fun q => absurd rfl q | exact fun q => next_vp hN (by rw [up_row (by decide)]; exact hm) q) h
  · try rw [if_neg c_2]
    refine V_iconst (v := 1) (dG D_X5_order 3 rfl) (by decide) ?_
    refine V_goto (tgt := 10) (dG D_X5_order 4 rfl) (by decide) ?_
    refine pf_X5_93 rfl (dG D_X5_order 6 rfl) ?_
    refine V_aload_n (dG D_X5_order 7 rfl) rfl ?_
    refine gf_X5_93 rfl (dG D_X5_order 8 rfl) ?_
    rw [up_eq]
    refine V_if_ne (tgt := 28) (dG D_X5_order 9 rfl) (by decide) (fun c_17 => ?_) (fun c_17 => absurd c_17 (by decide))
    refine V_iconst (v := -1) (dG D_X5_order 14 rfl) (by decide) ?_
    refine V_istore_n (dG D_X5_order 15 rfl) (Nat.le_of_ble_eq_true rfl) ?_
    refine V_iconst (v := 0) (dG D_X5_order 16 rfl) (by decide) ?_
    refine V_istore_n (dG D_X5_order 17 rfl) (Nat.le_of_ble_eq_true rfl) ?_
    refine V_sub [0, 1, 2, 3] rfl ?_
    exact bm_order_32 hN  x.toNatClampNeg (-1 : Int32) 0 (up M 31 0 (1 : Int32)) (Nat.zero_add _) (by rw [up_row (by decide)]; exact hm) (by first | exact fun q => absurd rfl q | exact fun q => next_vp hN (by rw [up_row (by decide)]; exact hm) q) h
def s_opens (t : Nat) (key : Int32) (M : St) : Int32 × St := (if (M 23 t) = (0 : Int32) then (if (M 3 ((M 17 t).toNatClampNeg)) = (0 : Int32) then (if (M 3 ((s_nodeOf key M).toNatClampNeg)) = (0 : Int32) then (if (M 27 (4 * t + (s_nodeOf key M).toNatClampNeg)) = (-1 : Int32) then (if ((s_asks (s_nodeOf key M).toNatClampNeg (up (up M 24 t (-1 : Int32)) 2 (s_nodeOf key M).toNatClampNeg (s_greater (M 2 ((s_nodeOf key M).toNatClampNeg)) (M 19 t)))).2 21 t) ≤ ((s_asks (s_nodeOf key M).toNatClampNeg (up (up M 24 t (-1 : Int32)) 2 (s_nodeOf key M).toNatClampNeg (s_greater (M 2 ((s_nodeOf key M).toNatClampNeg)) (M 19 t)))).1) then ((0 : Int32), (up (s_asks (s_nodeOf key M).toNatClampNeg (up (up M 24 t (-1 : Int32)) 2 (s_nodeOf key M).toNatClampNeg (s_greater (M 2 ((s_nodeOf key M).toNatClampNeg)) (M 19 t)))).2 27 (4 * t + (s_nodeOf key M).toNatClampNeg) ((s_asks (s_nodeOf key M).toNatClampNeg (up (up M 24 t (-1 : Int32)) 2 (s_nodeOf key M).toNatClampNeg (s_greater (M 2 ((s_nodeOf key M).toNatClampNeg)) (M 19 t)))).2 21 t))) else ((0 : Int32), (up (s_asks (s_nodeOf key M).toNatClampNeg (up (up M 24 t (-1 : Int32)) 2 (s_nodeOf key M).toNatClampNeg (s_greater (M 2 ((s_nodeOf key M).toNatClampNeg)) (M 19 t)))).2 27 (4 * t + (s_nodeOf key M).toNatClampNeg) ((s_asks (s_nodeOf key M).toNatClampNeg (up (up M 24 t (-1 : Int32)) 2 (s_nodeOf key M).toNatClampNeg (s_greater (M 2 ((s_nodeOf key M).toNatClampNeg)) (M 19 t)))).1)))) else ((0 : Int32), (up (up M 24 t (-1 : Int32)) 2 (s_nodeOf key M).toNatClampNeg (s_greater (M 2 ((s_nodeOf key M).toNatClampNeg)) (M 19 t))))) else ((-14 : Int32), M)) else ((-14 : Int32), M)) else ((-13 : Int32), M))
theorem om_opens {g : GT} {nt : Nat} {C : St} {o : Int64} {t : Nat} {key : Int32} {M : St} (ht : t < 40) {R : Nat} (hR1 : 1 ≤ R) (hR2 : R ≤ 32) (hR : M 4 0 = nI R) (hN : ∀ r, r < 32 → vp_in (M 6 r) 4) (hh : vp_in (M 17 t) 4) : RET g K_X5_opens 0 0 [.ref (ad g 10), .int (nI t), .int key] nt C M o (some (.int (s_opens t key M).1)) C (s_opens t key M).2 o := by
  have hvn := no_vp (key := key) hR1 hR2 hR hN
  refine MT_of (by decide +kernel) rfl rfl (Nat.le_of_ble_eq_true rfl) (by simp [cat_rf, cat_int, cat_ref]) (fun h => ?_)
  unfold s_opens
  refine V_aload_n (dG D_X5_opens 0 rfl) rfl ?_
  refine gf_X5_72 rfl (dG D_X5_opens 1 rfl) ?_
  refine V_iload_n (dG D_X5_opens 2 rfl) rfl ?_
  refine iald_M23 (dG D_X5_opens 3 rfl) (inr_nI (by omega) (by decide)) ?_
  refine V_if_eq (tgt := 12) (dG D_X5_opens 4 rfl) (by decide) (fun c_6 => ?_) (fun c_6 => ?_)
  · try rw [if_pos c_6]
    refine V_aload_n (dG D_X5_opens 7 rfl) rfl ?_
    refine V_iload_n (dG D_X5_opens 8 rfl) rfl ?_
    refine R_vb1 (om_nodeOf hR1 hR2 hR) lk_X5_118 (dG D_X5_opens 9 rfl) rcv_5 ⟨Nat.le_of_ble_eq_true rfl, Nat.le_of_ble_eq_true rfl⟩ ⟨(Nat.le_of_ble_eq_true rfl), (Nat.le_of_ble_eq_true rfl)⟩ (by first | exact Nat.le_of_ble_eq_true rfl | simp [cat_rf, cat_int, cat_ref]) (fun h => ?_)
    refine V_istore_n (dG D_X5_opens 10 rfl) (Nat.le_of_ble_eq_true rfl) ?_
    refine V_aload_n (dG D_X5_opens 11 rfl) rfl ?_
    refine gf_X5_16 rfl (dG D_X5_opens 12 rfl) ?_
    refine V_aload_n (dG D_X5_opens 13 rfl) rfl ?_
    refine gf_X5_54 rfl (dG D_X5_opens 14 rfl) ?_
    refine V_iload_n (dG D_X5_opens 15 rfl) rfl ?_
    refine iald_M17 (dG D_X5_opens 16 rfl) (inr_nI (by omega) (by decide)) ?_
    refine zald_M3 (dG D_X5_opens 17 rfl) (inr_of hh) ?_
    refine V_if_ne (tgt := 41) (dG D_X5_opens 18 rfl) (by decide) (fun c_29 => ?_) (fun c_29 => ?_)
    · try rw [if_neg c_29]
      refine V_bipush (v := -14) (dG D_X5_opens 24 rfl) (by decide) ?_
      exact V_iret (dG D_X5_opens 25 rfl) rfl (Nat.le_of_ble_eq_true rfl) (Nat.le_of_ble_eq_true rfl) ⟨by first | with_reducible rfl | rfl, rfl, by first | with_reducible rfl | rfl, rfl⟩
    · try rw [if_pos c_29]
      refine V_aload_n (dG D_X5_opens 19 rfl) rfl ?_
      refine gf_X5_16 rfl (dG D_X5_opens 20 rfl) ?_
      refine V_iload_n (dG D_X5_opens 21 rfl) rfl ?_
      refine zald_M3 (dG D_X5_opens 22 rfl) (inr_of hvn) ?_
      refine V_if_eq (tgt := 44) (dG D_X5_opens 23 rfl) (by decide) (fun c_38 => ?_) (fun c_38 => ?_)
      · try rw [if_pos c_38]
        refine V_aload_n (dG D_X5_opens 26 rfl) rfl ?_
        refine gf_X5_75 rfl (dG D_X5_opens 27 rfl) ?_
        refine V_iload_n (dG D_X5_opens 28 rfl) rfl ?_
        refine V_iconst (v := -1) (dG D_X5_opens 29 rfl) (by decide) ?_
        refine iast_M24 (dG D_X5_opens 30 rfl) (inr_nI (by omega) (by decide)) ?_
        refine V_aload_n (dG D_X5_opens 31 rfl) rfl ?_
        refine gf_X5_13 rfl (dG D_X5_opens 32 rfl) ?_
        refine V_iload_n (dG D_X5_opens 33 rfl) rfl ?_
        refine V_aload_n (dG D_X5_opens 34 rfl) rfl ?_
        refine gf_X5_13 rfl (dG D_X5_opens 35 rfl) ?_
        refine V_iload_n (dG D_X5_opens 36 rfl) rfl ?_
        refine iald_M2 (dG D_X5_opens 37 rfl) (inr_of hvn) ?_
        rw [up_row (v := 24) (w := 2) (by decide)]
        refine V_aload_n (dG D_X5_opens 38 rfl) rfl ?_
        refine gf_X5_60 rfl (dG D_X5_opens 39 rfl) ?_
        refine V_iload_n (dG D_X5_opens 40 rfl) rfl ?_
        refine iald_M19 (dG D_X5_opens 41 rfl) (inr_nI (by omega) (by decide)) ?_
        rw [up_row (v := 24) (w := 19) (by decide)]
        refine R_vs2 om_greater lk_X5_103 (dG D_X5_opens 42 rfl) ⟨Nat.le_of_ble_eq_true rfl, Nat.le_of_ble_eq_true rfl⟩ ⟨(Nat.le_of_ble_eq_true rfl), (Nat.le_of_ble_eq_true rfl)⟩ (by first | exact Nat.le_of_ble_eq_true rfl | simp [cat_rf, cat_int, cat_ref]) (fun h => ?_)
        refine iast_M2 (dG D_X5_opens 43 rfl) (inr_of hvn) ?_
        refine V_aload_n (dG D_X5_opens 44 rfl) rfl ?_
        refine gf_X5_81 rfl (dG D_X5_opens 45 rfl) ?_
        refine V_iconst (v := 4) (dG D_X5_opens 46 rfl) (by decide) ?_
        refine V_iload_n (dG D_X5_opens 47 rfl) rfl ?_
        refine V_imul (dG D_X5_opens 48 rfl) ?_
        refine V_iload_n (dG D_X5_opens 49 rfl) rfl ?_
        refine V_iadd (dG D_X5_opens 50 rfl) ?_
        refine iald_M27 (dG D_X5_opens 51 rfl) (ix4v ht hvn) ?_
        rw [up_row (v := 2) (w := 27) (by decide)]
        rw [up_row (v := 24) (w := 27) (by decide)]
        refine V_iconst (v := -1) (dG D_X5_opens 52 rfl) (by decide) ?_
        refine V_icmp_ne (tgt := 125) (dG D_X5_opens 53 rfl) (by decide) (fun c_83 => ?_) (fun c_83 => ?_)
        · try rw [if_neg c_83]
          refine V_iconst (v := 0) (dG D_X5_opens 78 rfl) (by decide) ?_
          exact V_iret (dG D_X5_opens 79 rfl) rfl (Nat.le_of_ble_eq_true rfl) (Nat.le_of_ble_eq_true rfl) ⟨by first | with_reducible rfl | rfl, rfl, by first | with_reducible rfl | rfl, rfl⟩
        · try rw [if_pos c_83]
          refine V_aload_n (dG D_X5_opens 54 rfl) rfl ?_
          refine V_iload_n (dG D_X5_opens 55 rfl) rfl ?_
          refine R_vb1 (ox_asks_1 hvn ) lk_X5_107 (dG D_X5_opens 56 rfl) rcv_5 ⟨Nat.le_of_ble_eq_true rfl, Nat.le_of_ble_eq_true rfl⟩ ⟨(Nat.le_of_ble_eq_true rfl), (Nat.le_of_ble_eq_true rfl)⟩ (by first | exact Nat.le_of_ble_eq_true rfl | simp [cat_rf, cat_int, cat_ref]) (fun h => ?_)
          refine V_istore (dG D_X5_opens 57 rfl) (Nat.le_of_ble_eq_true rfl) ?_
          refine V_aload_n (dG D_X5_opens 58 rfl) rfl ?_
          refine gf_X5_81 rfl (dG D_X5_opens 59 rfl) ?_
          refine V_iconst (v := 4) (dG D_X5_opens 60 rfl) (by decide) ?_
          refine V_iload_n (dG D_X5_opens 61 rfl) rfl ?_
          refine V_imul (dG D_X5_opens 62 rfl) ?_
          refine V_iload_n (dG D_X5_opens 63 rfl) rfl ?_
          refine V_iadd (dG D_X5_opens 64 rfl) ?_
          refine V_iload (dG D_X5_opens 65 rfl) rfl ?_
          refine V_aload_n (dG D_X5_opens 66 rfl) rfl ?_
          refine gf_X5_66 rfl (dG D_X5_opens 67 rfl) ?_
          refine V_iload_n (dG D_X5_opens 68 rfl) rfl ?_
          refine iald_M21 (dG D_X5_opens 69 rfl) (inr_nI (by omega) (by decide)) ?_
          refine V_icmp_ge (tgt := 118) (dG D_X5_opens 70 rfl) (by decide) (fun c_110 => ?_) (fun c_110 => ?_)
          · try rw [if_pos c_110]
            refine V_aload_n (dG D_X5_opens 73 rfl) rfl ?_
            refine gf_X5_66 rfl (dG D_X5_opens 74 rfl) ?_
            refine V_iload_n (dG D_X5_opens 75 rfl) rfl ?_
            refine iald_M21 (dG D_X5_opens 76 rfl) (inr_nI (by omega) (by decide)) ?_
            refine iast_M27 (dG D_X5_opens 77 rfl) (ix4v ht hvn) ?_
            refine V_iconst (v := 0) (dG D_X5_opens 78 rfl) (by decide) ?_
            exact V_iret (dG D_X5_opens 79 rfl) rfl (Nat.le_of_ble_eq_true rfl) (Nat.le_of_ble_eq_true rfl) ⟨by first | with_reducible rfl | rfl, rfl, by first | with_reducible rfl | rfl, rfl⟩
          · try rw [if_neg c_110]
            refine V_iload (dG D_X5_opens 71 rfl) rfl ?_
            refine V_goto (tgt := 124) (dG D_X5_opens 72 rfl) (by decide) ?_
            refine iast_M27 (dG D_X5_opens 77 rfl) (ix4v ht hvn) ?_
            refine V_iconst (v := 0) (dG D_X5_opens 78 rfl) (by decide) ?_
            exact V_iret (dG D_X5_opens 79 rfl) rfl (Nat.le_of_ble_eq_true rfl) (Nat.le_of_ble_eq_true rfl) ⟨by first | with_reducible rfl | rfl, rfl, by first | with_reducible rfl | rfl, rfl⟩
      · try rw [if_neg c_38]
        refine V_bipush (v := -14) (dG D_X5_opens 24 rfl) (by decide) ?_
        exact V_iret (dG D_X5_opens 25 rfl) rfl (Nat.le_of_ble_eq_true rfl) (Nat.le_of_ble_eq_true rfl) ⟨by first | with_reducible rfl | rfl, rfl, by first | with_reducible rfl | rfl, rfl⟩
  · try rw [if_neg c_6]
    refine V_bipush (v := -13) (dG D_X5_opens 5 rfl) (by decide) ?_
    exact V_iret (dG D_X5_opens 6 rfl) rfl (Nat.le_of_ble_eq_true rfl) (Nat.le_of_ble_eq_true rfl) ⟨by first | with_reducible rfl | rfl, rfl, by first | with_reducible rfl | rfl, rfl⟩
theorem hw_up {M : St} {t : Nat} {u : Int32} (hu : vp_in u 40) (hw : ∀ i, i < 40 → ¬ M 24 i = (-1 : Int32) → vp_in (M 24 i) 40) : ∀ i, i < 40 → ¬ up M 24 t u 24 i = (-1 : Int32) → vp_in (up M 24 t u 24 i) 40 := by
  intro i hi q
  by_cases e : i = t
  · subst e
    rw [up_eq]
    exact hu
  · rw [up_ne (Or.inr e)] at q ⊢
    exact hw i hi q
def s_comesAnew_15 (t : Nat) (u : Int32) : Nat → Int32 → Int32 → Nat → St → Int32 × St
  | 0, v, z, i, M => (if z = (-1 : Int32) then (if z = (nI t) then (if v = (nI t) then ((0 : Int32), (up (up M 23 v.toNatClampNeg (3 : Int32)) 24 t (-1 : Int32))) else ((1 : Int32), (up (up M 23 v.toNatClampNeg (3 : Int32)) 24 t (-1 : Int32)))) else ((0 : Int32), M)) else (if z = (nI t) then (if z = (nI t) then (if v = (nI t) then ((0 : Int32), (up (up M 23 v.toNatClampNeg (3 : Int32)) 24 t (-1 : Int32))) else ((1 : Int32), (up (up M 23 v.toNatClampNeg (3 : Int32)) 24 t (-1 : Int32)))) else ((0 : Int32), M)) else (if z = (nI t) then (if v = (nI t) then ((0 : Int32), (up (up M 23 v.toNatClampNeg (3 : Int32)) 24 t (-1 : Int32))) else ((1 : Int32), (up (up M 23 v.toNatClampNeg (3 : Int32)) 24 t (-1 : Int32)))) else ((0 : Int32), M))))
  | n + 1, v, z, i, M => (if z = (-1 : Int32) then (if z = (nI t) then (if v = (nI t) then ((0 : Int32), (up (up M 23 v.toNatClampNeg (3 : Int32)) 24 t (-1 : Int32))) else ((1 : Int32), (up (up M 23 v.toNatClampNeg (3 : Int32)) 24 t (-1 : Int32)))) else ((0 : Int32), M)) else (if z = (nI t) then (if z = (nI t) then (if v = (nI t) then ((0 : Int32), (up (up M 23 v.toNatClampNeg (3 : Int32)) 24 t (-1 : Int32))) else ((1 : Int32), (up (up M 23 v.toNatClampNeg (3 : Int32)) 24 t (-1 : Int32)))) else ((0 : Int32), M)) else (if (M 18 z.toNatClampNeg) < (M 18 v.toNatClampNeg) then (s_comesAnew_15 t u n z (s_waitsFor z.toNatClampNeg M) (i + 1) M) else (if (M 18 z.toNatClampNeg) = (M 18 v.toNatClampNeg) then (if z ≤ v then (s_comesAnew_15 t u n v (s_waitsFor z.toNatClampNeg M) (i + 1) M) else (s_comesAnew_15 t u n z (s_waitsFor z.toNatClampNeg M) (i + 1) M)) else (s_comesAnew_15 t u n v (s_waitsFor z.toNatClampNeg M) (i + 1) M)))))
theorem bm_comesAnew_15 {g : GT} {nt : Nat} {C : St} {o : Int64}  {t : Nat} {u : Int32} (ht : t < 40) : ∀ (n : Nat) (v : Int32) (z : Int32) (i : Nat) (M : St) (hi : i + n = 40) (hz : ¬ z = (-1 : Int32) → vp_in z 40) (hv : vp_in v 40) (hw : ∀ i, i < 40 → ¬ M 24 i = (-1 : Int32) → vp_in (M 24 i) 40) (h : Nat × Nat), V g K_X5_comesAnew (kR K_X5_comesAnew 0 0) (qM g 0 0 nt (fun v9 C9 M9 o9 => v9 = some (.int (s_comesAnew_15 t u n v z i M).1) ∧ C9 = C ∧ M9 = (s_comesAnew_15 t u n v z i M).2 ∧ o9 = o) (fun _ _ _ _ => False)) 0 0 nt h C M o 15 [(0, .ref (ad g 10)), (1, .int (nI t)), (3, .int v), (4, .int z), (5, .int (nI i))] [] := by
  intro n
  induction n with
  | zero =>
    intro v z i M hi hz hv hw h
    unfold s_comesAnew_15
    refine V_iload (dG D_X5_comesAnew 11 rfl) rfl ?_
    refine V_iconst (v := -1) (dG D_X5_comesAnew 12 rfl) (by decide) ?_
    refine V_icmp_eq (tgt := 93) (dG D_X5_comesAnew 13 rfl) (by decide) (fun c_18 => ?_) (fun c_18 => ?_)
    · try rw [if_pos c_18]
      refine V_iload (dG D_X5_comesAnew 51 rfl) rfl ?_
      refine V_iload_n (dG D_X5_comesAnew 52 rfl) rfl ?_
      refine V_icmp_eq (tgt := 101) (dG D_X5_comesAnew 53 rfl) (by decide) (fun c_96 => ?_) (fun c_96 => ?_)
      · try rw [if_pos c_96]
        refine V_aload_n (dG D_X5_comesAnew 56 rfl) rfl ?_
        refine gf_X5_72 rfl (dG D_X5_comesAnew 57 rfl) ?_
        refine V_iload_n (dG D_X5_comesAnew 58 rfl) rfl ?_
        refine V_iconst (v := 3) (dG D_X5_comesAnew 59 rfl) (by decide) ?_
        refine iast_M23 (dG D_X5_comesAnew 60 rfl) (inr_of hv) ?_
        refine V_aload_n (dG D_X5_comesAnew 61 rfl) rfl ?_
        refine gf_X5_75 rfl (dG D_X5_comesAnew 62 rfl) ?_
        refine V_iload_n (dG D_X5_comesAnew 63 rfl) rfl ?_
        refine V_iconst (v := -1) (dG D_X5_comesAnew 64 rfl) (by decide) ?_
        refine iast_M24 (dG D_X5_comesAnew 65 rfl) (inr_nI (by omega) (by decide)) ?_
        refine V_iload_n (dG D_X5_comesAnew 66 rfl) rfl ?_
        refine V_iload_n (dG D_X5_comesAnew 67 rfl) rfl ?_
        refine V_icmp_eq (tgt := 124) (dG D_X5_comesAnew 68 rfl) (by decide) (fun c_117 => ?_) (fun c_117 => ?_)
        · try rw [if_pos c_117]
          refine V_iconst (v := 0) (dG D_X5_comesAnew 71 rfl) (by decide) ?_
          exact V_zret (dG D_X5_comesAnew 72 rfl) rfl (by first | rfl | assumption) (Nat.le_of_ble_eq_true rfl) (Nat.le_of_ble_eq_true rfl) ⟨by first | with_reducible rfl | rfl, rfl, by first | with_reducible rfl | rfl, rfl⟩
        · try rw [if_neg c_117]
          refine V_iconst (v := 1) (dG D_X5_comesAnew 69 rfl) (by decide) ?_
          refine V_goto (tgt := 125) (dG D_X5_comesAnew 70 rfl) (by decide) ?_
          exact V_zret (dG D_X5_comesAnew 72 rfl) rfl (by first | rfl | assumption) (Nat.le_of_ble_eq_true rfl) (Nat.le_of_ble_eq_true rfl) ⟨by first | with_reducible rfl | rfl, rfl, by first | with_reducible rfl | rfl, rfl⟩
      · try rw [if_neg c_96]
        refine V_iconst (v := 0) (dG D_X5_comesAnew 54 rfl) (by decide) ?_
        exact V_zret (dG D_X5_comesAnew 55 rfl) rfl (by first | rfl | assumption) (Nat.le_of_ble_eq_true rfl) (Nat.le_of_ble_eq_true rfl) ⟨by first | with_reducible rfl | rfl, rfl, by first | with_reducible rfl | rfl, rfl⟩
    · try rw [if_neg c_18]
      refine V_iload (dG D_X5_comesAnew 14 rfl) rfl ?_
      refine V_iload_n (dG D_X5_comesAnew 15 rfl) rfl ?_
      refine V_icmp_eq (tgt := 93) (dG D_X5_comesAnew 16 rfl) (by decide) (fun c_24 => ?_) (fun c_24 => ?_)
      · try rw [if_pos c_24]
        refine V_iload (dG D_X5_comesAnew 51 rfl) rfl ?_
        refine V_iload_n (dG D_X5_comesAnew 52 rfl) rfl ?_
        refine V_icmp_eq (tgt := 101) (dG D_X5_comesAnew 53 rfl) (by decide) (fun c_96 => ?_) (fun c_96 => ?_)
        · try rw [if_pos c_96]
          refine V_aload_n (dG D_X5_comesAnew 56 rfl) rfl ?_
          refine gf_X5_72 rfl (dG D_X5_comesAnew 57 rfl) ?_
          refine V_iload_n (dG D_X5_comesAnew 58 rfl) rfl ?_
          refine V_iconst (v := 3) (dG D_X5_comesAnew 59 rfl) (by decide) ?_
          refine iast_M23 (dG D_X5_comesAnew 60 rfl) (inr_of hv) ?_
          refine V_aload_n (dG D_X5_comesAnew 61 rfl) rfl ?_
          refine gf_X5_75 rfl (dG D_X5_comesAnew 62 rfl) ?_
          refine V_iload_n (dG D_X5_comesAnew 63 rfl) rfl ?_
          refine V_iconst (v := -1) (dG D_X5_comesAnew 64 rfl) (by decide) ?_
          refine iast_M24 (dG D_X5_comesAnew 65 rfl) (inr_nI (by omega) (by decide)) ?_
          refine V_iload_n (dG D_X5_comesAnew 66 rfl) rfl ?_
          refine V_iload_n (dG D_X5_comesAnew 67 rfl) rfl ?_
          refine V_icmp_eq (tgt := 124) (dG D_X5_comesAnew 68 rfl) (by decide) (fun c_117 => ?_) (fun c_117 => ?_)
          · try rw [if_pos c_117]
            refine V_iconst (v := 0) (dG D_X5_comesAnew 71 rfl) (by decide) ?_
            exact V_zret (dG D_X5_comesAnew 72 rfl) rfl (by first | rfl | assumption) (Nat.le_of_ble_eq_true rfl) (Nat.le_of_ble_eq_true rfl) ⟨by first | with_reducible rfl | rfl, rfl, by first | with_reducible rfl | rfl, rfl⟩
          · try rw [if_neg c_117]
            refine V_iconst (v := 1) (dG D_X5_comesAnew 69 rfl) (by decide) ?_
            refine V_goto (tgt := 125) (dG D_X5_comesAnew 70 rfl) (by decide) ?_
            exact V_zret (dG D_X5_comesAnew 72 rfl) rfl (by first | rfl | assumption) (Nat.le_of_ble_eq_true rfl) (Nat.le_of_ble_eq_true rfl) ⟨by first | with_reducible rfl | rfl, rfl, by first | with_reducible rfl | rfl, rfl⟩
        · try rw [if_neg c_96]
          refine V_iconst (v := 0) (dG D_X5_comesAnew 54 rfl) (by decide) ?_
          exact V_zret (dG D_X5_comesAnew 55 rfl) rfl (by first | rfl | assumption) (Nat.le_of_ble_eq_true rfl) (Nat.le_of_ble_eq_true rfl) ⟨by first | with_reducible rfl | rfl, rfl, by first | with_reducible rfl | rfl, rfl⟩
      · try rw [if_neg c_24]
        refine V_iload (dG D_X5_comesAnew 17 rfl) rfl ?_
        refine V_bipush (v := 40) (dG D_X5_comesAnew 18 rfl) (by decide) ?_
        refine V_icmp_ge (tgt := 93) (dG D_X5_comesAnew 19 rfl) (by decide) (fun c_31 => ?_) (fun c_31 => absurd (nI_le (a := 40) (by omega) (by omega)) c_31)
        refine V_iload (dG D_X5_comesAnew 51 rfl) rfl ?_
        refine V_iload_n (dG D_X5_comesAnew 52 rfl) rfl ?_
        refine V_icmp_eq (tgt := 101) (dG D_X5_comesAnew 53 rfl) (by decide) (fun c_96 => ?_) (fun c_96 => ?_)
        · try rw [if_pos c_96]
          refine V_aload_n (dG D_X5_comesAnew 56 rfl) rfl ?_
          refine gf_X5_72 rfl (dG D_X5_comesAnew 57 rfl) ?_
          refine V_iload_n (dG D_X5_comesAnew 58 rfl) rfl ?_
          refine V_iconst (v := 3) (dG D_X5_comesAnew 59 rfl) (by decide) ?_
          refine iast_M23 (dG D_X5_comesAnew 60 rfl) (inr_of hv) ?_
          refine V_aload_n (dG D_X5_comesAnew 61 rfl) rfl ?_
          refine gf_X5_75 rfl (dG D_X5_comesAnew 62 rfl) ?_
          refine V_iload_n (dG D_X5_comesAnew 63 rfl) rfl ?_
          refine V_iconst (v := -1) (dG D_X5_comesAnew 64 rfl) (by decide) ?_
          refine iast_M24 (dG D_X5_comesAnew 65 rfl) (inr_nI (by omega) (by decide)) ?_
          refine V_iload_n (dG D_X5_comesAnew 66 rfl) rfl ?_
          refine V_iload_n (dG D_X5_comesAnew 67 rfl) rfl ?_
          refine V_icmp_eq (tgt := 124) (dG D_X5_comesAnew 68 rfl) (by decide) (fun c_117 => ?_) (fun c_117 => ?_)
          · try rw [if_pos c_117]
            refine V_iconst (v := 0) (dG D_X5_comesAnew 71 rfl) (by decide) ?_
            exact V_zret (dG D_X5_comesAnew 72 rfl) rfl (by first | rfl | assumption) (Nat.le_of_ble_eq_true rfl) (Nat.le_of_ble_eq_true rfl) ⟨by first | with_reducible rfl | rfl, rfl, by first | with_reducible rfl | rfl, rfl⟩
          · try rw [if_neg c_117]
            refine V_iconst (v := 1) (dG D_X5_comesAnew 69 rfl) (by decide) ?_
            refine V_goto (tgt := 125) (dG D_X5_comesAnew 70 rfl) (by decide) ?_
            exact V_zret (dG D_X5_comesAnew 72 rfl) rfl (by first | rfl | assumption) (Nat.le_of_ble_eq_true rfl) (Nat.le_of_ble_eq_true rfl) ⟨by first | with_reducible rfl | rfl, rfl, by first | with_reducible rfl | rfl, rfl⟩
        · try rw [if_neg c_96]
          refine V_iconst (v := 0) (dG D_X5_comesAnew 54 rfl) (by decide) ?_
          exact V_zret (dG D_X5_comesAnew 55 rfl) rfl (by first | rfl | assumption) (Nat.le_of_ble_eq_true rfl) (Nat.le_of_ble_eq_true rfl) ⟨by first | with_reducible rfl | rfl, rfl, by first | with_reducible rfl | rfl, rfl⟩
  | succ n ih =>
    intro v z i M hi hz hv hw h
    unfold s_comesAnew_15
    refine V_iload (dG D_X5_comesAnew 11 rfl) rfl ?_
    refine V_iconst (v := -1) (dG D_X5_comesAnew 12 rfl) (by decide) ?_
    refine V_icmp_eq (tgt := 93) (dG D_X5_comesAnew 13 rfl) (by decide) (fun c_18 => ?_) (fun c_18 => ?_)
    · try rw [if_pos c_18]
      refine V_iload (dG D_X5_comesAnew 51 rfl) rfl ?_
      refine V_iload_n (dG D_X5_comesAnew 52 rfl) rfl ?_
      refine V_icmp_eq (tgt := 101) (dG D_X5_comesAnew 53 rfl) (by decide) (fun c_96 => ?_) (fun c_96 => ?_)
      · try rw [if_pos c_96]
        refine V_aload_n (dG D_X5_comesAnew 56 rfl) rfl ?_
        refine gf_X5_72 rfl (dG D_X5_comesAnew 57 rfl) ?_
        refine V_iload_n (dG D_X5_comesAnew 58 rfl) rfl ?_
        refine V_iconst (v := 3) (dG D_X5_comesAnew 59 rfl) (by decide) ?_
        refine iast_M23 (dG D_X5_comesAnew 60 rfl) (inr_of hv) ?_
        refine V_aload_n (dG D_X5_comesAnew 61 rfl) rfl ?_
        refine gf_X5_75 rfl (dG D_X5_comesAnew 62 rfl) ?_
        refine V_iload_n (dG D_X5_comesAnew 63 rfl) rfl ?_
        refine V_iconst (v := -1) (dG D_X5_comesAnew 64 rfl) (by decide) ?_
        refine iast_M24 (dG D_X5_comesAnew 65 rfl) (inr_nI (by omega) (by decide)) ?_
        refine V_iload_n (dG D_X5_comesAnew 66 rfl) rfl ?_
        refine V_iload_n (dG D_X5_comesAnew 67 rfl) rfl ?_
        refine V_icmp_eq (tgt := 124) (dG D_X5_comesAnew 68 rfl) (by decide) (fun c_117 => ?_) (fun c_117 => ?_)
        · try rw [if_pos c_117]
          refine V_iconst (v := 0) (dG D_X5_comesAnew 71 rfl) (by decide) ?_
          exact V_zret (dG D_X5_comesAnew 72 rfl) rfl (by first | rfl | assumption) (Nat.le_of_ble_eq_true rfl) (Nat.le_of_ble_eq_true rfl) ⟨by first | with_reducible rfl | rfl, rfl, by first | with_reducible rfl | rfl, rfl⟩
        · try rw [if_neg c_117]
          refine V_iconst (v := 1) (dG D_X5_comesAnew 69 rfl) (by decide) ?_
          refine V_goto (tgt := 125) (dG D_X5_comesAnew 70 rfl) (by decide) ?_
          exact V_zret (dG D_X5_comesAnew 72 rfl) rfl (by first | rfl | assumption) (Nat.le_of_ble_eq_true rfl) (Nat.le_of_ble_eq_true rfl) ⟨by first | with_reducible rfl | rfl, rfl, by first | with_reducible rfl | rfl, rfl⟩
      · try rw [if_neg c_96]
        refine V_iconst (v := 0) (dG D_X5_comesAnew 54 rfl) (by decide) ?_
        exact V_zret (dG D_X5_comesAnew 55 rfl) rfl (by first | rfl | assumption) (Nat.le_of_ble_eq_true rfl) (Nat.le_of_ble_eq_true rfl) ⟨by first | with_reducible rfl | rfl, rfl, by first | with_reducible rfl | rfl, rfl⟩
    · try rw [if_neg c_18]
      refine V_iload (dG D_X5_comesAnew 14 rfl) rfl ?_
      refine V_iload_n (dG D_X5_comesAnew 15 rfl) rfl ?_
      refine V_icmp_eq (tgt := 93) (dG D_X5_comesAnew 16 rfl) (by decide) (fun c_24 => ?_) (fun c_24 => ?_)
      · try rw [if_pos c_24]
        refine V_iload (dG D_X5_comesAnew 51 rfl) rfl ?_
        refine V_iload_n (dG D_X5_comesAnew 52 rfl) rfl ?_
        refine V_icmp_eq (tgt := 101) (dG D_X5_comesAnew 53 rfl) (by decide) (fun c_96 => ?_) (fun c_96 => ?_)
        · try rw [if_pos c_96]
          refine V_aload_n (dG D_X5_comesAnew 56 rfl) rfl ?_
          refine gf_X5_72 rfl (dG D_X5_comesAnew 57 rfl) ?_
          refine V_iload_n (dG D_X5_comesAnew 58 rfl) rfl ?_
          refine V_iconst (v := 3) (dG D_X5_comesAnew 59 rfl) (by decide) ?_
          refine iast_M23 (dG D_X5_comesAnew 60 rfl) (inr_of hv) ?_
          refine V_aload_n (dG D_X5_comesAnew 61 rfl) rfl ?_
          refine gf_X5_75 rfl (dG D_X5_comesAnew 62 rfl) ?_
          refine V_iload_n (dG D_X5_comesAnew 63 rfl) rfl ?_
          refine V_iconst (v := -1) (dG D_X5_comesAnew 64 rfl) (by decide) ?_
          refine iast_M24 (dG D_X5_comesAnew 65 rfl) (inr_nI (by omega) (by decide)) ?_
          refine V_iload_n (dG D_X5_comesAnew 66 rfl) rfl ?_
          refine V_iload_n (dG D_X5_comesAnew 67 rfl) rfl ?_
          refine V_icmp_eq (tgt := 124) (dG D_X5_comesAnew 68 rfl) (by decide) (fun c_117 => ?_) (fun c_117 => ?_)
          · try rw [if_pos c_117]
            refine V_iconst (v := 0) (dG D_X5_comesAnew 71 rfl) (by decide) ?_
            exact V_zret (dG D_X5_comesAnew 72 rfl) rfl (by first | rfl | assumption) (Nat.le_of_ble_eq_true rfl) (Nat.le_of_ble_eq_true rfl) ⟨by first | with_reducible rfl | rfl, rfl, by first | with_reducible rfl | rfl, rfl⟩
          · try rw [if_neg c_117]
            refine V_iconst (v := 1) (dG D_X5_comesAnew 69 rfl) (by decide) ?_
            refine V_goto (tgt := 125) (dG D_X5_comesAnew 70 rfl) (by decide) ?_
            exact V_zret (dG D_X5_comesAnew 72 rfl) rfl (by first | rfl | assumption) (Nat.le_of_ble_eq_true rfl) (Nat.le_of_ble_eq_true rfl) ⟨by first | with_reducible rfl | rfl, rfl, by first | with_reducible rfl | rfl, rfl⟩
        · try rw [if_neg c_96]
          refine V_iconst (v := 0) (dG D_X5_comesAnew 54 rfl) (by decide) ?_
          exact V_zret (dG D_X5_comesAnew 55 rfl) rfl (by first | rfl | assumption) (Nat.le_of_ble_eq_true rfl) (Nat.le_of_ble_eq_true rfl) ⟨by first | with_reducible rfl | rfl, rfl, by first | with_reducible rfl | rfl, rfl⟩
      · try rw [if_neg c_24]
        refine V_iload (dG D_X5_comesAnew 17 rfl) rfl ?_
        refine V_bipush (v := 40) (dG D_X5_comesAnew 18 rfl) (by decide) ?_
        refine V_icmp_ge (tgt := 93) (dG D_X5_comesAnew 19 rfl) (by decide) (fun c_31 => absurd c_31 (nI_ge (b := 40) (by omega) (by decide))) (fun c_31 => ?_)
        refine V_aload_n (dG D_X5_comesAnew 20 rfl) rfl ?_
        refine gf_X5_57 rfl (dG D_X5_comesAnew 21 rfl) ?_
        refine V_iload (dG D_X5_comesAnew 22 rfl) rfl ?_
        refine iald_M18 (dG D_X5_comesAnew 23 rfl) (inr_of (hz c_18)) ?_
        refine V_aload_n (dG D_X5_comesAnew 24 rfl) rfl ?_
        refine gf_X5_57 rfl (dG D_X5_comesAnew 25 rfl) ?_
        refine V_iload_n (dG D_X5_comesAnew 26 rfl) rfl ?_
        refine iald_M18 (dG D_X5_comesAnew 27 rfl) (inr_of hv) ?_
        refine V_icmp_lt (tgt := 72) (dG D_X5_comesAnew 28 rfl) (by decide) (fun c_47 => ?_) (fun c_47 => ?_)
        · try rw [if_pos c_47]
          refine V_iload (dG D_X5_comesAnew 41 rfl) rfl ?_
          refine V_goto (tgt := 78) (dG D_X5_comesAnew 42 rfl) (by decide) ?_
          refine V_istore_n (dG D_X5_comesAnew 44 rfl) (Nat.le_of_ble_eq_true rfl) ?_
          refine V_aload_n (dG D_X5_comesAnew 45 rfl) rfl ?_
          refine V_iload (dG D_X5_comesAnew 46 rfl) rfl ?_
          refine R_vb1 (ox_waitsFor_1 (hz c_18) (hw _ (vin_lt (hz c_18)))) lk_X5_160 (dG D_X5_comesAnew 47 rfl) rcv_5 ⟨Nat.le_of_ble_eq_true rfl, Nat.le_of_ble_eq_true rfl⟩ ⟨(Nat.le_of_ble_eq_true rfl), (Nat.le_of_ble_eq_true rfl)⟩ (by first | exact Nat.le_of_ble_eq_true rfl | simp [cat_rf, cat_int, cat_ref]) (fun h => ?_)
          refine V_istore (dG D_X5_comesAnew 48 rfl) (Nat.le_of_ble_eq_true rfl) ?_
          refine V_iinc (dG D_X5_comesAnew 49 rfl) rfl (inc1 _) (Nat.le_of_ble_eq_true rfl) ?_
          refine V_goto (tgt := 15) (dG D_X5_comesAnew 50 rfl) (by decide) ?_
          refine V_sub [0, 1, 3, 4, 5] rfl ?_
          exact ih z (s_waitsFor z.toNatClampNeg M) (i + 1) M (by omega) (fun q => wfm_vp (hw _ (vin_lt (hz c_18))) q) (by first | exact hz c_18 | exact hv) hw h
        · try rw [if_neg c_47]
          refine V_aload_n (dG D_X5_comesAnew 29 rfl) rfl ?_
          refine gf_X5_57 rfl (dG D_X5_comesAnew 30 rfl) ?_
          refine V_iload (dG D_X5_comesAnew 31 rfl) rfl ?_
          refine iald_M18 (dG D_X5_comesAnew 32 rfl) (inr_of (hz c_18)) ?_
          refine V_aload_n (dG D_X5_comesAnew 33 rfl) rfl ?_
          refine gf_X5_57 rfl (dG D_X5_comesAnew 34 rfl) ?_
          refine V_iload_n (dG D_X5_comesAnew 35 rfl) rfl ?_
          refine iald_M18 (dG D_X5_comesAnew 36 rfl) (inr_of hv) ?_
          refine V_icmp_ne (tgt := 77) (dG D_X5_comesAnew 37 rfl) (by decide) (fun c_63 => ?_) (fun c_63 => ?_)
          · try rw [if_neg c_63]
            refine V_iload_n (dG D_X5_comesAnew 43 rfl) rfl ?_
            refine V_istore_n (dG D_X5_comesAnew 44 rfl) (Nat.le_of_ble_eq_true rfl) ?_
            refine V_aload_n (dG D_X5_comesAnew 45 rfl) rfl ?_
            refine V_iload (dG D_X5_comesAnew 46 rfl) rfl ?_
            refine R_vb1 (ox_waitsFor_1 (hz c_18) (hw _ (vin_lt (hz c_18)))) lk_X5_160 (dG D_X5_comesAnew 47 rfl) rcv_5 ⟨Nat.le_of_ble_eq_true rfl, Nat.le_of_ble_eq_true rfl⟩ ⟨(Nat.le_of_ble_eq_true rfl), (Nat.le_of_ble_eq_true rfl)⟩ (by first | exact Nat.le_of_ble_eq_true rfl | simp [cat_rf, cat_int, cat_ref]) (fun h => ?_)
            refine V_istore (dG D_X5_comesAnew 48 rfl) (Nat.le_of_ble_eq_true rfl) ?_
            refine V_iinc (dG D_X5_comesAnew 49 rfl) rfl (inc1 _) (Nat.le_of_ble_eq_true rfl) ?_
            refine V_goto (tgt := 15) (dG D_X5_comesAnew 50 rfl) (by decide) ?_
            refine V_sub [0, 1, 3, 4, 5] rfl ?_
            exact ih v (s_waitsFor z.toNatClampNeg M) (i + 1) M (by omega) (fun q => wfm_vp (hw _ (vin_lt (hz c_18))) q) (by first | exact hz c_18 | exact hv) hw h
          · try rw [if_pos c_63]
            refine V_iload (dG D_X5_comesAnew 38 rfl) rfl ?_
            refine V_iload_n (dG D_X5_comesAnew 39 rfl) rfl ?_
            refine V_icmp_le (tgt := 77) (dG D_X5_comesAnew 40 rfl) (by decide) (fun c_69 => ?_) (fun c_69 => ?_)
            · try rw [if_pos c_69]
              refine V_iload_n (dG D_X5_comesAnew 43 rfl) rfl ?_
              refine V_istore_n (dG D_X5_comesAnew 44 rfl) (Nat.le_of_ble_eq_true rfl) ?_
              refine V_aload_n (dG D_X5_comesAnew 45 rfl) rfl ?_
              refine V_iload (dG D_X5_comesAnew 46 rfl) rfl ?_
              refine R_vb1 (ox_waitsFor_1 (hz c_18) (hw _ (vin_lt (hz c_18)))) lk_X5_160 (dG D_X5_comesAnew 47 rfl) rcv_5 ⟨Nat.le_of_ble_eq_true rfl, Nat.le_of_ble_eq_true rfl⟩ ⟨(Nat.le_of_ble_eq_true rfl), (Nat.le_of_ble_eq_true rfl)⟩ (by first | exact Nat.le_of_ble_eq_true rfl | simp [cat_rf, cat_int, cat_ref]) (fun h => ?_)
              refine V_istore (dG D_X5_comesAnew 48 rfl) (Nat.le_of_ble_eq_true rfl) ?_
              refine V_iinc (dG D_X5_comesAnew 49 rfl) rfl (inc1 _) (Nat.le_of_ble_eq_true rfl) ?_
              refine V_goto (tgt := 15) (dG D_X5_comesAnew 50 rfl) (by decide) ?_
              refine V_sub [0, 1, 3, 4, 5] rfl ?_
              exact ih v (s_waitsFor z.toNatClampNeg M) (i + 1) M (by omega) (fun q => wfm_vp (hw _ (vin_lt (hz c_18))) q) (by first | exact hz c_18 | exact hv) hw h
            · try rw [if_neg c_69]
              refine V_iload (dG D_X5_comesAnew 41 rfl) rfl ?_
              refine V_goto (tgt := 78) (dG D_X5_comesAnew 42 rfl) (by decide) ?_
              refine V_istore_n (dG D_X5_comesAnew 44 rfl) (Nat.le_of_ble_eq_true rfl) ?_
              refine V_aload_n (dG D_X5_comesAnew 45 rfl) rfl ?_
              refine V_iload (dG D_X5_comesAnew 46 rfl) rfl ?_
              refine R_vb1 (ox_waitsFor_1 (hz c_18) (hw _ (vin_lt (hz c_18)))) lk_X5_160 (dG D_X5_comesAnew 47 rfl) rcv_5 ⟨Nat.le_of_ble_eq_true rfl, Nat.le_of_ble_eq_true rfl⟩ ⟨(Nat.le_of_ble_eq_true rfl), (Nat.le_of_ble_eq_true rfl)⟩ (by first | exact Nat.le_of_ble_eq_true rfl | simp [cat_rf, cat_int, cat_ref]) (fun h => ?_)
              refine V_istore (dG D_X5_comesAnew 48 rfl) (Nat.le_of_ble_eq_true rfl) ?_
              refine V_iinc (dG D_X5_comesAnew 49 rfl) rfl (inc1 _) (Nat.le_of_ble_eq_true rfl) ?_
              refine V_goto (tgt := 15) (dG D_X5_comesAnew 50 rfl) (by decide) ?_
              refine V_sub [0, 1, 3, 4, 5] rfl ?_
              exact ih z (s_waitsFor z.toNatClampNeg M) (i + 1) M (by omega) (fun q => wfm_vp (hw _ (vin_lt (hz c_18))) q) (by first | exact hz c_18 | exact hv) hw h
def s_comesAnew (t : Nat) (u : Int32) (M : St) : Int32 × St := (s_comesAnew_15 t u 40 (nI t) u 0 (up M 24 t u))
theorem om_comesAnew {g : GT} {nt : Nat} {C : St} {o : Int64} {t : Nat} {u : Int32} {M : St} (ht : t < 40) (hu : vp_in u 40) (hw : ∀ i, i < 40 → ¬ M 24 i = (-1 : Int32) → vp_in (M 24 i) 40) : RET g K_X5_comesAnew 0 0 [.ref (ad g 10), .int (nI t), .int u] nt C M o (some (.int (s_comesAnew t u M).1)) C (s_comesAnew t u M).2 o := by
  refine MT_of (by decide +kernel) rfl rfl (Nat.le_of_ble_eq_true rfl) (by simp [cat_rf, cat_int, cat_ref]) (fun h => ?_)
  unfold s_comesAnew
  refine V_aload_n (dG D_X5_comesAnew 0 rfl) rfl ?_
  refine gf_X5_75 rfl (dG D_X5_comesAnew 1 rfl) ?_
  refine V_iload_n (dG D_X5_comesAnew 2 rfl) rfl ?_
  refine V_iload_n (dG D_X5_comesAnew 3 rfl) rfl ?_
  refine iast_M24 (dG D_X5_comesAnew 4 rfl) (inr_nI (by omega) (by decide)) ?_
  refine V_iload_n (dG D_X5_comesAnew 5 rfl) rfl ?_
  refine V_istore_n (dG D_X5_comesAnew 6 rfl) (Nat.le_of_ble_eq_true rfl) ?_
  refine V_iload_n (dG D_X5_comesAnew 7 rfl) rfl ?_
  refine V_istore (dG D_X5_comesAnew 8 rfl) (Nat.le_of_ble_eq_true rfl) ?_
  refine V_iconst (v := 0) (dG D_X5_comesAnew 9 rfl) (by decide) ?_
  refine V_istore (dG D_X5_comesAnew 10 rfl) (Nat.le_of_ble_eq_true rfl) ?_
  refine V_sub [0, 1, 3, 4, 5] rfl ?_
  exact bm_comesAnew_15 ht  40 (nI t) u 0 (up M 24 t u) (by omega) (fun _ => hu) (vp_in_nI ht (by decide)) (hw_up hu hw) h
def s_begin_157 (x : Int32) (y : Int32) : Nat → Int32 → Nat → St → Int32 × St
  | 0, z, i, M => (z, (s_forgets z.toNatClampNeg M))
  | n + 1, z, i, M => (s_begin_157 x y n z (i + 1) (up M 27 (4 * z.toNatClampNeg + i) (-1 : Int32)))
theorem bm_begin_157 {g : GT} {nt : Nat} {C : St} {o : Int64}  {x : Int32} {y : Int32} {N : Nat} (hN : N ≤ 40) : ∀ (n : Nat) (z : Int32) (i : Nat) (M : St) (hi : i + n = 4) (hz : vp_in z 40) (h : Nat × Nat), V g K_X5_begin (kR K_X5_begin 0 0) (qM g 0 0 nt (fun v9 C9 M9 o9 => v9 = some (.int (s_begin_157 x y n z i M).1) ∧ C9 = C ∧ M9 = (s_begin_157 x y n z i M).2 ∧ o9 = o) (fun _ _ _ _ => False)) 0 0 nt h C M o 157 [(0, .ref (ad g 10)), (3, .int z), (4, .int (nI i))] [] := by
  intro n
  induction n with
  | zero =>
    intro z i M hi hz h
    unfold s_begin_157
    refine V_iload (dG D_X5_begin 95 rfl) rfl ?_
    refine V_iconst (v := 4) (dG D_X5_begin 96 rfl) (by decide) ?_
    refine V_icmp_ge (tgt := 181) (dG D_X5_begin 97 rfl) (by decide) (fun c_160 => ?_) (fun c_160 => absurd (nI_le (a := 4) (by omega) (by omega)) c_160)
    refine V_aload_n (dG D_X5_begin 109 rfl) rfl ?_
    refine V_iload_n (dG D_X5_begin 110 rfl) rfl ?_
    refine R_nb1 (ox_forgets_1 hz ) lk_X5_128 (dG D_X5_begin 111 rfl) rcv_5 ⟨Nat.le_of_ble_eq_true rfl, Nat.le_of_ble_eq_true rfl⟩ ⟨(Nat.le_of_ble_eq_true rfl), (Nat.le_of_ble_eq_true rfl)⟩ (by first | exact Nat.le_of_ble_eq_true rfl | simp [cat_rf, cat_int, cat_ref]) (fun h => ?_)
    refine V_iload_n (dG D_X5_begin 112 rfl) rfl ?_
    exact V_iret (dG D_X5_begin 113 rfl) rfl (Nat.le_of_ble_eq_true rfl) (Nat.le_of_ble_eq_true rfl) ⟨by first | with_reducible rfl | rfl, rfl, by first | with_reducible rfl | rfl, rfl⟩
  | succ n ih =>
    intro z i M hi hz h
    unfold s_begin_157
    refine V_iload (dG D_X5_begin 95 rfl) rfl ?_
    refine V_iconst (v := 4) (dG D_X5_begin 96 rfl) (by decide) ?_
    refine V_icmp_ge (tgt := 181) (dG D_X5_begin 97 rfl) (by decide) (fun c_160 => absurd c_160 (g4 (by omega))) (fun c_160 => ?_)
    refine V_aload_n (dG D_X5_begin 98 rfl) rfl ?_
    refine gf_X5_81 rfl (dG D_X5_begin 99 rfl) ?_
    refine V_iconst (v := 4) (dG D_X5_begin 100 rfl) (by decide) ?_
    refine V_iload_n (dG D_X5_begin 101 rfl) rfl ?_
    refine V_imul (dG D_X5_begin 102 rfl) ?_
    refine V_iload (dG D_X5_begin 103 rfl) rfl ?_
    refine V_iadd (dG D_X5_begin 104 rfl) ?_
    refine V_iconst (v := -1) (dG D_X5_begin 105 rfl) (by decide) ?_
    refine iast_M27 (dG D_X5_begin 106 rfl) (ix4w hz (by omega)) ?_
    refine V_iinc (dG D_X5_begin 107 rfl) rfl (inc1 _) (Nat.le_of_ble_eq_true rfl) ?_
    refine V_goto (tgt := 157) (dG D_X5_begin 108 rfl) (by decide) ?_
    refine V_sub [0, 3, 4] rfl ?_
    exact ih z (i + 1) (up M 27 (4 * z.toNatClampNeg + i) (-1 : Int32)) (by omega) hz h
def s_begin (x : Int32) (y : Int32) (M : St) : Int32 × St := (if (s_in x (0 : Int32) (3 : Int32)) = (0 : Int32) then ((0 : Int32), (up M 31 0 (1 : Int32))) else (if (s_in y (0 : Int32) (9 : Int32)) = (0 : Int32) then ((0 : Int32), (up M 31 0 (2 : Int32))) else (if (M 3 x.toNatClampNeg) = (0 : Int32) then (if (M 16 0) = (40 : Int32) then ((0 : Int32), (up M 31 0 (3 : Int32))) else (s_begin_157 x y 4 (M 16 0) 0 (up (up (up (up (up (up (s_asks x.toNatClampNeg (up (up (up (up M 31 0 (0 : Int32)) 16 0 ((M 16 0) + (1 : Int32))) 17 (M 16 0).toNatClampNeg x) 18 (M 16 0).toNatClampNeg y)).2 19 (M 16 0).toNatClampNeg ((s_asks x.toNatClampNeg (up (up (up (up M 31 0 (0 : Int32)) 16 0 ((M 16 0) + (1 : Int32))) 17 (M 16 0).toNatClampNeg x) 18 (M 16 0).toNatClampNeg y)).1)) 20 (M 16 0).toNatClampNeg ((s_asks x.toNatClampNeg (up (up (up (up M 31 0 (0 : Int32)) 16 0 ((M 16 0) + (1 : Int32))) 17 (M 16 0).toNatClampNeg x) 18 (M 16 0).toNatClampNeg y)).1)) 21 (M 16 0).toNatClampNeg (((s_asks x.toNatClampNeg (up (up (up (up M 31 0 (0 : Int32)) 16 0 ((M 16 0) + (1 : Int32))) 17 (M 16 0).toNatClampNeg x) 18 (M 16 0).toNatClampNeg y)).1) + (100 : Int32))) 22 (M 16 0).toNatClampNeg ((s_asks x.toNatClampNeg (up (up (up (up M 31 0 (0 : Int32)) 16 0 ((M 16 0) + (1 : Int32))) 17 (M 16 0).toNatClampNeg x) 18 (M 16 0).toNatClampNeg y)).2 0 0)) 23 (M 16 0).toNatClampNeg (0 : Int32)) 24 (M 16 0).toNatClampNeg (-1 : Int32)))) else ((0 : Int32), (up M 31 0 (3 : Int32))))))
theorem om_begin {g : GT} {nt : Nat} {C : St} {o : Int64} {x : Int32} {y : Int32} {M : St} {N : Nat} (hN : N ≤ 40) (hm : M 16 0 = nI N) : RET g K_X5_begin 0 0 [.ref (ad g 10), .int x, .int y] nt C M o (some (.int (s_begin x y M).1)) C (s_begin x y M).2 o := by
  refine MT_of (by decide +kernel) rfl rfl (Nat.le_of_ble_eq_true rfl) (by simp [cat_rf, cat_int, cat_ref]) (fun h => ?_)
  unfold s_begin
  refine V_aload_n (dG D_X5_begin 0 rfl) rfl ?_
  refine V_iload_n (dG D_X5_begin 1 rfl) rfl ?_
  refine V_iconst (v := 0) (dG D_X5_begin 2 rfl) (by decide) ?_
  refine V_iconst (v := 3) (dG D_X5_begin 3 rfl) (by decide) ?_
  refine R_vs3 om_in lk_X5_96 (dG D_X5_begin 4 rfl) ⟨Nat.le_of_ble_eq_true rfl, Nat.le_of_ble_eq_true rfl⟩ ⟨(Nat.le_of_ble_eq_true rfl), (Nat.le_of_ble_eq_true rfl)⟩ (by first | exact Nat.le_of_ble_eq_true rfl | simp [cat_rf, cat_int, cat_ref]) (fun h => ?_)
  refine V_if_ne (tgt := 14) (dG D_X5_begin 5 rfl) (by decide) (fun c_7 => ?_) (fun c_7 => ?_)
  · try rw [if_neg c_7]
    refine V_iload_n (dG D_X5_begin 8 rfl) rfl ?_
    refine V_iconst (v := 0) (dG D_X5_begin 9 rfl) (by decide) ?_
    refine V_bipush (v := 9) (dG D_X5_begin 10 rfl) (by decide) ?_
    refine R_vs3 om_in lk_X5_96 (dG D_X5_begin 11 rfl) ⟨Nat.le_of_ble_eq_true rfl, Nat.le_of_ble_eq_true rfl⟩ ⟨(Nat.le_of_ble_eq_true rfl), (Nat.le_of_ble_eq_true rfl)⟩ (by first | exact Nat.le_of_ble_eq_true rfl | simp [cat_rf, cat_int, cat_ref]) (fun h => ?_)
    refine V_if_ne (tgt := 28) (dG D_X5_begin 12 rfl) (by decide) (fun c_21 => ?_) (fun c_21 => ?_)
    · try rw [if_neg c_21]
      refine V_aload_n (dG D_X5_begin 15 rfl) rfl ?_
      refine gf_X5_16 rfl (dG D_X5_begin 16 rfl) ?_
      refine V_iload_n (dG D_X5_begin 17 rfl) rfl ?_
      refine zald_M3 (dG D_X5_begin 18 rfl) (inr_of (in03 c_7)) ?_
      refine V_if_ne (tgt := 46) (dG D_X5_begin 19 rfl) (by decide) (fun c_34 => ?_) (fun c_34 => ?_)
      · try rw [if_neg c_34]
        refine V_iconst (v := 3) (dG D_X5_begin 24 rfl) (by decide) ?_
        refine V_goto (tgt := 51) (dG D_X5_begin 25 rfl) (by decide) ?_
        refine pf_X5_93 rfl (dG D_X5_begin 27 rfl) ?_
        refine V_aload_n (dG D_X5_begin 28 rfl) rfl ?_
        refine gf_X5_93 rfl (dG D_X5_begin 29 rfl) ?_
        rw [up_eq]
        refine V_if_le (tgt := 63) (dG D_X5_begin 30 rfl) (by decide) (fun c_58 => absurd c_58 (by decide)) (fun c_58 => ?_)
        refine V_iconst (v := 0) (dG D_X5_begin 31 rfl) (by decide) ?_
        exact V_iret (dG D_X5_begin 32 rfl) rfl (Nat.le_of_ble_eq_true rfl) (Nat.le_of_ble_eq_true rfl) ⟨by first | with_reducible rfl | rfl, rfl, by first | with_reducible rfl | rfl, rfl⟩
      · try rw [if_pos c_34]
        refine V_aload_n (dG D_X5_begin 20 rfl) rfl ?_
        refine gf_X5_125 rfl (dG D_X5_begin 21 rfl) ?_
        refine V_bipush (v := 40) (dG D_X5_begin 22 rfl) (by decide) ?_
        refine V_icmp_ne (tgt := 50) (dG D_X5_begin 23 rfl) (by decide) (fun c_43 => ?_) (fun c_43 => ?_)
        · try rw [if_neg c_43]
          have hvt : vp_in (M 16 0) 40 := by rw [hm] at c_43 ⊢; exact vp_in_nI (by have h40 : N ≠ 40 := fun q => c_43 (by rw [q]; rfl); omega) (by decide)
          refine V_iconst (v := 0) (dG D_X5_begin 26 rfl) (by decide) ?_
          refine pf_X5_93 rfl (dG D_X5_begin 27 rfl) ?_
          refine V_aload_n (dG D_X5_begin 28 rfl) rfl ?_
          refine gf_X5_93 rfl (dG D_X5_begin 29 rfl) ?_
          rw [up_eq]
          refine V_if_le (tgt := 63) (dG D_X5_begin 30 rfl) (by decide) (fun c_58 => ?_) (fun c_58 => absurd c_58 (by decide))
          refine V_aload_n (dG D_X5_begin 33 rfl) rfl ?_
          refine gf_X5_125 rfl (dG D_X5_begin 34 rfl) ?_
          rw [up_row (v := 31) (w := 16) (by decide)]
          refine V_istore_n (dG D_X5_begin 35 rfl) (Nat.le_of_ble_eq_true rfl) ?_
          refine V_aload_n (dG D_X5_begin 36 rfl) rfl ?_
          refine V_dup (dG D_X5_begin 37 rfl) rfl ?_
          refine gf_X5_125 rfl (dG D_X5_begin 38 rfl) ?_
          rw [up_row (v := 31) (w := 16) (by decide)]
          refine V_iconst (v := 1) (dG D_X5_begin 39 rfl) (by decide) ?_
          refine V_iadd (dG D_X5_begin 40 rfl) ?_
          refine pf_X5_125 rfl (dG D_X5_begin 41 rfl) ?_
          refine V_aload_n (dG D_X5_begin 42 rfl) rfl ?_
          refine gf_X5_54 rfl (dG D_X5_begin 43 rfl) ?_
          refine V_iload_n (dG D_X5_begin 44 rfl) rfl ?_
          refine V_iload_n (dG D_X5_begin 45 rfl) rfl ?_
          refine iast_M17 (dG D_X5_begin 46 rfl) (inr_of hvt) ?_
          refine V_aload_n (dG D_X5_begin 47 rfl) rfl ?_
          refine gf_X5_57 rfl (dG D_X5_begin 48 rfl) ?_
          refine V_iload_n (dG D_X5_begin 49 rfl) rfl ?_
          refine V_iload_n (dG D_X5_begin 50 rfl) rfl ?_
          refine iast_M18 (dG D_X5_begin 51 rfl) (inr_of hvt) ?_
          refine V_aload_n (dG D_X5_begin 52 rfl) rfl ?_
          refine gf_X5_60 rfl (dG D_X5_begin 53 rfl) ?_
          refine V_iload_n (dG D_X5_begin 54 rfl) rfl ?_
          refine V_aload_n (dG D_X5_begin 55 rfl) rfl ?_
          refine V_iload_n (dG D_X5_begin 56 rfl) rfl ?_
          refine R_vb1 (ox_asks_1 (in03 c_7) ) lk_X5_107 (dG D_X5_begin 57 rfl) rcv_5 ⟨Nat.le_of_ble_eq_true rfl, Nat.le_of_ble_eq_true rfl⟩ ⟨(Nat.le_of_ble_eq_true rfl), (Nat.le_of_ble_eq_true rfl)⟩ (by first | exact Nat.le_of_ble_eq_true rfl | simp [cat_rf, cat_int, cat_ref]) (fun h => ?_)
          refine iast_M19 (dG D_X5_begin 58 rfl) (inr_of hvt) ?_
          refine V_aload_n (dG D_X5_begin 59 rfl) rfl ?_
          refine gf_X5_63 rfl (dG D_X5_begin 60 rfl) ?_
          refine V_iload_n (dG D_X5_begin 61 rfl) rfl ?_
          refine V_aload_n (dG D_X5_begin 62 rfl) rfl ?_
          refine gf_X5_60 rfl (dG D_X5_begin 63 rfl) ?_
          refine V_iload_n (dG D_X5_begin 64 rfl) rfl ?_
          refine iald_M19 (dG D_X5_begin 65 rfl) (inr_of hvt) ?_
          rw [up_eq]
          refine iast_M20 (dG D_X5_begin 66 rfl) (inr_of hvt) ?_
          refine V_aload_n (dG D_X5_begin 67 rfl) rfl ?_
          refine gf_X5_66 rfl (dG D_X5_begin 68 rfl) ?_
          refine V_iload_n (dG D_X5_begin 69 rfl) rfl ?_
          refine V_aload_n (dG D_X5_begin 70 rfl) rfl ?_
          refine gf_X5_60 rfl (dG D_X5_begin 71 rfl) ?_
          refine V_iload_n (dG D_X5_begin 72 rfl) rfl ?_
          refine iald_M19 (dG D_X5_begin 73 rfl) (inr_of hvt) ?_
          rw [up_row (v := 20) (w := 19) (by decide)]
          rw [up_eq]
          refine V_bipush (v := 100) (dG D_X5_begin 74 rfl) (by decide) ?_
          refine V_iadd (dG D_X5_begin 75 rfl) ?_
          refine iast_M21 (dG D_X5_begin 76 rfl) (inr_of hvt) ?_
          refine V_aload_n (dG D_X5_begin 77 rfl) rfl ?_
          refine gf_X5_69 rfl (dG D_X5_begin 78 rfl) ?_
          refine V_iload_n (dG D_X5_begin 79 rfl) rfl ?_
          refine V_aload_n (dG D_X5_begin 80 rfl) rfl ?_
          refine gf_X5_100 rfl (dG D_X5_begin 81 rfl) ?_
          rw [up_row (v := 21) (w := 0) (by decide)]
          rw [up_row (v := 20) (w := 0) (by decide)]
          rw [up_row (v := 19) (w := 0) (by decide)]
          refine iast_M22 (dG D_X5_begin 82 rfl) (inr_of hvt) ?_
          refine V_aload_n (dG D_X5_begin 83 rfl) rfl ?_
          refine gf_X5_72 rfl (dG D_X5_begin 84 rfl) ?_
          refine V_iload_n (dG D_X5_begin 85 rfl) rfl ?_
          refine V_iconst (v := 0) (dG D_X5_begin 86 rfl) (by decide) ?_
          refine iast_M23 (dG D_X5_begin 87 rfl) (inr_of hvt) ?_
          refine V_aload_n (dG D_X5_begin 88 rfl) rfl ?_
          refine gf_X5_75 rfl (dG D_X5_begin 89 rfl) ?_
          refine V_iload_n (dG D_X5_begin 90 rfl) rfl ?_
          refine V_iconst (v := -1) (dG D_X5_begin 91 rfl) (by decide) ?_
          refine iast_M24 (dG D_X5_begin 92 rfl) (inr_of hvt) ?_
          refine V_iconst (v := 0) (dG D_X5_begin 93 rfl) (by decide) ?_
          refine V_istore (dG D_X5_begin 94 rfl) (Nat.le_of_ble_eq_true rfl) ?_
          refine V_sub [0, 3, 4] rfl ?_
          exact bm_begin_157 hN  4 (M 16 0) 0 (up (up (up (up (up (up (s_asks x.toNatClampNeg (up (up (up (up M 31 0 (0 : Int32)) 16 0 ((M 16 0) + (1 : Int32))) 17 (M 16 0).toNatClampNeg x) 18 (M 16 0).toNatClampNeg y)).2 19 (M 16 0).toNatClampNeg ((s_asks x.toNatClampNeg (up (up (up (up M 31 0 (0 : Int32)) 16 0 ((M 16 0) + (1 : Int32))) 17 (M 16 0).toNatClampNeg x) 18 (M 16 0).toNatClampNeg y)).1)) 20 (M 16 0).toNatClampNeg ((s_asks x.toNatClampNeg (up (up (up (up M 31 0 (0 : Int32)) 16 0 ((M 16 0) + (1 : Int32))) 17 (M 16 0).toNatClampNeg x) 18 (M 16 0).toNatClampNeg y)).1)) 21 (M 16 0).toNatClampNeg (((s_asks x.toNatClampNeg (up (up (up (up M 31 0 (0 : Int32)) 16 0 ((M 16 0) + (1 : Int32))) 17 (M 16 0).toNatClampNeg x) 18 (M 16 0).toNatClampNeg y)).1) + (100 : Int32))) 22 (M 16 0).toNatClampNeg ((s_asks x.toNatClampNeg (up (up (up (up M 31 0 (0 : Int32)) 16 0 ((M 16 0) + (1 : Int32))) 17 (M 16 0).toNatClampNeg x) 18 (M 16 0).toNatClampNeg y)).2 0 0)) 23 (M 16 0).toNatClampNeg (0 : Int32)) 24 (M 16 0).toNatClampNeg (-1 : Int32)) (by omega) hvt h
        · try rw [if_pos c_43]
          refine V_iconst (v := 3) (dG D_X5_begin 24 rfl) (by decide) ?_
          refine V_goto (tgt := 51) (dG D_X5_begin 25 rfl) (by decide) ?_
          refine pf_X5_93 rfl (dG D_X5_begin 27 rfl) ?_
          refine V_aload_n (dG D_X5_begin 28 rfl) rfl ?_
          refine gf_X5_93 rfl (dG D_X5_begin 29 rfl) ?_
          rw [up_eq]
          refine V_if_le (tgt := 63) (dG D_X5_begin 30 rfl) (by decide) (fun c_58 => absurd c_58 (by decide)) (fun c_58 => ?_)
          refine V_iconst (v := 0) (dG D_X5_begin 31 rfl) (by decide) ?_
          exact V_iret (dG D_X5_begin 32 rfl) rfl (Nat.le_of_ble_eq_true rfl) (Nat.le_of_ble_eq_true rfl) ⟨by first | with_reducible rfl | rfl, rfl, by first | with_reducible rfl | rfl, rfl⟩
    · try rw [if_pos c_21]
      refine V_iconst (v := 2) (dG D_X5_begin 13 rfl) (by decide) ?_
      refine V_goto (tgt := 51) (dG D_X5_begin 14 rfl) (by decide) ?_
      refine pf_X5_93 rfl (dG D_X5_begin 27 rfl) ?_
      refine V_aload_n (dG D_X5_begin 28 rfl) rfl ?_
      refine gf_X5_93 rfl (dG D_X5_begin 29 rfl) ?_
      rw [up_eq]
      refine V_if_le (tgt := 63) (dG D_X5_begin 30 rfl) (by decide) (fun c_58 => absurd c_58 (by decide)) (fun c_58 => ?_)
      refine V_iconst (v := 0) (dG D_X5_begin 31 rfl) (by decide) ?_
      exact V_iret (dG D_X5_begin 32 rfl) rfl (Nat.le_of_ble_eq_true rfl) (Nat.le_of_ble_eq_true rfl) ⟨by first | with_reducible rfl | rfl, rfl, by first | with_reducible rfl | rfl, rfl⟩
  · try rw [if_pos c_7]
    refine V_iconst (v := 1) (dG D_X5_begin 6 rfl) (by decide) ?_
    refine V_goto (tgt := 51) (dG D_X5_begin 7 rfl) (by decide) ?_
    refine pf_X5_93 rfl (dG D_X5_begin 27 rfl) ?_
    refine V_aload_n (dG D_X5_begin 28 rfl) rfl ?_
    refine gf_X5_93 rfl (dG D_X5_begin 29 rfl) ?_
    rw [up_eq]
    refine V_if_le (tgt := 63) (dG D_X5_begin 30 rfl) (by decide) (fun c_58 => absurd c_58 (by decide)) (fun c_58 => ?_)
    refine V_iconst (v := 0) (dG D_X5_begin 31 rfl) (by decide) ?_
    exact V_iret (dG D_X5_begin 32 rfl) rfl (Nat.le_of_ble_eq_true rfl) (Nat.le_of_ble_eq_true rfl) ⟨by first | with_reducible rfl | rfl, rfl, by first | with_reducible rfl | rfl, rfl⟩
