/-! the law, case by case -/
theorem lc_pass {g : GT} {nt B R : Nat} {C M : St} {o : Int64} {h : Nat × Nat} {kb nb j b L : Nat} {xs : Nat → Int32} (hj : 4 * j + 4 ≤ L) (hL : L ≤ 2048)  (hCF : CF g K_X4_pass K_X5_pass [.int (xs (4 * j + 1))] [(1, IAE), (2, ISE)] nt B R C M) (kont : ∀ (C' M' : St) (R' : Nat) (o' : Int64) (h' : Nat × Nat) (kb' nb' : Nat), Inv nt (B + 100) R' C' M' → kb' + cap C ≤ kb + cap C' + 1 → nb' + 4 * cap C ≤ nb + 4 * cap C' + 6 → V g K_law room_1 (lawQ g b L xs) kb' nb' nt h' C' M' o' 1499 [(0, .ref b), (1, .ref (ad g 0)), (2, .ref (ad g 10)), (3, .ref (ad g 9)), (4, .int (nI (4 * j)))] []) (hk : kb + 5000 ≤ 601024) (hn : nb + 20000 ≤ 7293034) : V g K_law room_1 (lawQ g b L xs) kb nb nt h C M o 148 [(0, .ref b), (1, .ref (ad g 0)), (2, .ref (ad g 10)), (3, .ref (ad g 9)), (4, .int (nI (4 * j)))] [] := by
  obtain ⟨k, v, C', r, R', hO, hM, hI, h31, hv⟩ := hCF
  have hc25 := hI.cap25
  obtain ⟨mc, ms, m1, m2, hC⟩ := ow_pass hO
  refine V_aload_n (dG D_L_law_0 25 rfl) rfl ?_
  refine V_aload_n (dG D_L_law_0 26 rfl) rfl ?_
  refine V_iload (dG D_L_law_0 27 rfl) rfl ?_
  refine V_iconst (v := 1) (dG D_L_law_0 28 rfl) (by decide) ?_
  refine V_iadd (dG D_L_law_0 29 rfl) ?_
  refine V_sld (j := 4 * j + 1) (dG D_L_law_0 30 rfl) (by rw [show nI (4 * j) + 1 = nI (4 * j + 1) from nI_add _ 1]; exact inr_nI (by omega) (by omega)) ?_
  refine V_aload_n (dG D_L_law_0 31 rfl) rfl ?_
  refine RH_call (hC o) lh_pass (dG D_L_law_0 32 rfl) rfl ⟨Nat.le_of_ble_eq_true rfl, Nat.le_of_ble_eq_true rfl⟩ ⟨by show kb + mc ≤ 601024; omega, by show nb + ms ≤ 7293034; omega⟩ (by simp [cat_int, cat_ref]) (fun h1 => ?_) rfl
  refine V_istore (dG D_L_law_0 33 rfl) (by decide) ?_
  refine V_aload_n (dG D_L_law_0 34 rfl) rfl ?_
  refine V_aload_n (dG D_L_law_0 35 rfl) rfl ?_
  refine V_iload (dG D_L_law_0 36 rfl) rfl ?_
  refine V_iconst (v := 1) (dG D_L_law_0 37 rfl) (by decide) ?_
  refine V_iadd (dG D_L_law_0 38 rfl) ?_
  refine V_sld (j := 4 * j + 1) (dG D_L_law_0 39 rfl) (by rw [show nI (4 * j) + 1 = nI (4 * j + 1) from nI_add _ 1]; exact inr_nI (by omega) (by omega)) ?_
  refine R_vb1 (hM _) lk_L_91 (dG D_L_law_0 40 rfl) rcv_5 ⟨Nat.le_of_ble_eq_true rfl, Nat.le_of_ble_eq_true rfl⟩ ⟨by show kb + mc + 0 ≤ 601024; omega, by show nb + ms + 0 ≤ 7293034; omega⟩ (by simp [cat_int, cat_ref]) (fun h2 => ?_)
  refine V_istore (dG D_L_law_0 41 rfl) (by decide) ?_
  refine V_aload_n (dG D_L_law_0 42 rfl) rfl ?_
  refine R_vb0 om_thrown lk_L_92 (dG D_L_law_0 43 rfl) rcv_5 ⟨Nat.le_of_ble_eq_true rfl, Nat.le_of_ble_eq_true rfl⟩ ⟨by show kb + mc + 0 + 0 ≤ 601024; omega, by show nb + ms + 0 + 0 ≤ 7293034; omega⟩ (by simp [cat_int, cat_ref]) (fun h3 => ?_)
  refine V_iload (dG D_L_law_0 44 rfl) rfl ?_
  refine V_icmp_eq (tgt := 184) (dG D_L_law_0 45 rfl) (by decide) (fun _ => ?_) (fun z => absurd h31 z)
  refine V_iload (dG D_L_law_1 0 rfl) rfl ?_
  refine V_if_ne (tgt := 201) (dG D_L_law_1 1 rfl) (by decide) (fun _ => ?_) (fun hk0 => ?_)
  · refine V_goto (tgt := 1499) (dG D_L_law_1 11 rfl) (by decide) ?_
    exact V_sub [0, 1, 2, 3, 4] rfl (kont C' r.2 R' _ h3 _ _ hI (by omega) (by omega))
  · refine V_aload_n (dG D_L_law_1 2 rfl) rfl ?_
    refine V_iconst (v := 0) (dG D_L_law_1 3 rfl) (by decide) ?_
    refine V_lald0 (dG D_L_law_1 4 rfl) ?_
    refine V_iload (dG D_L_law_1 5 rfl) rfl ?_
    refine V_i2l (dG D_L_law_1 6 rfl) ?_
    refine V_lcmp (dG D_L_law_1 7 rfl) ?_
    refine V_if_eq (tgt := 201) (dG D_L_law_1 8 rfl) (by decide) (fun _ => ?_) (fun z => absurd (by rw [if_pos hk0, hv hk0]; exact lg_self _) z)
    refine V_goto (tgt := 1499) (dG D_L_law_1 11 rfl) (by decide) ?_
    exact V_sub [0, 1, 2, 3, 4] rfl (kont C' r.2 R' _ h3 _ _ hI (by omega) (by omega))
theorem lc_skew {g : GT} {nt B R : Nat} {C M : St} {o : Int64} {h : Nat × Nat} {kb nb j b L : Nat} {xs : Nat → Int32} (hj : 4 * j + 4 ≤ L) (hL : L ≤ 2048)  (hCF : CF g K_X4_skew K_X5_skew [.int (xs (4 * j + 1)), .int (xs (4 * j + 2))] [(1, IOE), (2, IAE)] nt B R C M) (kont : ∀ (C' M' : St) (R' : Nat) (o' : Int64) (h' : Nat × Nat) (kb' nb' : Nat), Inv nt (B + 100) R' C' M' → kb' + cap C ≤ kb + cap C' + 1 → nb' + 4 * cap C ≤ nb + 4 * cap C' + 6 → V g K_law room_1 (lawQ g b L xs) kb' nb' nt h' C' M' o' 1499 [(0, .ref b), (1, .ref (ad g 0)), (2, .ref (ad g 10)), (3, .ref (ad g 9)), (4, .int (nI (4 * j)))] []) (hk : kb + 5000 ≤ 601024) (hn : nb + 20000 ≤ 7293034) : V g K_law room_1 (lawQ g b L xs) kb nb nt h C M o 204 [(0, .ref b), (1, .ref (ad g 0)), (2, .ref (ad g 10)), (3, .ref (ad g 9)), (4, .int (nI (4 * j)))] [] := by
  obtain ⟨k, v, C', r, R', hO, hM, hI, h31, hv⟩ := hCF
  have hc25 := hI.cap25
  obtain ⟨mc, ms, m1, m2, hC⟩ := ow_skew hO
  refine V_aload_n (dG D_L_law_1 12 rfl) rfl ?_
  refine V_aload_n (dG D_L_law_1 13 rfl) rfl ?_
  refine V_iload (dG D_L_law_1 14 rfl) rfl ?_
  refine V_iconst (v := 1) (dG D_L_law_1 15 rfl) (by decide) ?_
  refine V_iadd (dG D_L_law_1 16 rfl) ?_
  refine V_sld (j := 4 * j + 1) (dG D_L_law_1 17 rfl) (by rw [show nI (4 * j) + 1 = nI (4 * j + 1) from nI_add _ 1]; exact inr_nI (by omega) (by omega)) ?_
  refine V_aload_n (dG D_L_law_1 18 rfl) rfl ?_
  refine V_iload (dG D_L_law_1 19 rfl) rfl ?_
  refine V_iconst (v := 2) (dG D_L_law_1 20 rfl) (by decide) ?_
  refine V_iadd (dG D_L_law_1 21 rfl) ?_
  refine V_sld (j := 4 * j + 2) (dG D_L_law_1 22 rfl) (by rw [show nI (4 * j) + 2 = nI (4 * j + 2) from nI_add _ 2]; exact inr_nI (by omega) (by omega)) ?_
  refine V_aload_n (dG D_L_law_1 23 rfl) rfl ?_
  refine RH_call (hC o) lh_skew (dG D_L_law_1 24 rfl) rfl ⟨Nat.le_of_ble_eq_true rfl, Nat.le_of_ble_eq_true rfl⟩ ⟨by show kb + mc ≤ 601024; omega, by show nb + ms ≤ 7293034; omega⟩ (by simp [cat_int, cat_ref]) (fun h1 => ?_) rfl
  refine V_istore (dG D_L_law_1 25 rfl) (by decide) ?_
  refine V_aload_n (dG D_L_law_1 26 rfl) rfl ?_
  refine V_aload_n (dG D_L_law_1 27 rfl) rfl ?_
  refine V_iload (dG D_L_law_1 28 rfl) rfl ?_
  refine V_iconst (v := 1) (dG D_L_law_1 29 rfl) (by decide) ?_
  refine V_iadd (dG D_L_law_1 30 rfl) ?_
  refine V_sld (j := 4 * j + 1) (dG D_L_law_1 31 rfl) (by rw [show nI (4 * j) + 1 = nI (4 * j + 1) from nI_add _ 1]; exact inr_nI (by omega) (by omega)) ?_
  refine V_aload_n (dG D_L_law_1 32 rfl) rfl ?_
  refine V_iload (dG D_L_law_1 33 rfl) rfl ?_
  refine V_iconst (v := 2) (dG D_L_law_1 34 rfl) (by decide) ?_
  refine V_iadd (dG D_L_law_1 35 rfl) ?_
  refine V_sld (j := 4 * j + 2) (dG D_L_law_1 36 rfl) (by rw [show nI (4 * j) + 2 = nI (4 * j + 2) from nI_add _ 2]; exact inr_nI (by omega) (by omega)) ?_
  refine R_vb2 (hM _) lk_L_99 (dG D_L_law_1 37 rfl) rcv_5 ⟨Nat.le_of_ble_eq_true rfl, Nat.le_of_ble_eq_true rfl⟩ ⟨by show kb + mc + 0 ≤ 601024; omega, by show nb + ms + 0 ≤ 7293034; omega⟩ (by simp [cat_int, cat_ref]) (fun h2 => ?_)
  refine V_istore (dG D_L_law_1 38 rfl) (by decide) ?_
  refine V_aload_n (dG D_L_law_1 39 rfl) rfl ?_
  refine R_vb0 om_thrown lk_L_92 (dG D_L_law_1 40 rfl) rcv_5 ⟨Nat.le_of_ble_eq_true rfl, Nat.le_of_ble_eq_true rfl⟩ ⟨by show kb + mc + 0 + 0 ≤ 601024; omega, by show nb + ms + 0 + 0 ≤ 7293034; omega⟩ (by simp [cat_int, cat_ref]) (fun h3 => ?_)
  refine V_iload (dG D_L_law_1 41 rfl) rfl ?_
  refine V_icmp_eq (tgt := 252) (dG D_L_law_1 42 rfl) (by decide) (fun _ => ?_) (fun z => absurd h31 z)
  refine V_iload (dG D_L_law_1 45 rfl) rfl ?_
  refine V_if_ne (tgt := 269) (dG D_L_law_1 46 rfl) (by decide) (fun _ => ?_) (fun hk0 => ?_)
  · refine V_goto (tgt := 1499) (dG D_L_law_2 8 rfl) (by decide) ?_
    exact V_sub [0, 1, 2, 3, 4] rfl (kont C' r.2 R' _ h3 _ _ hI (by omega) (by omega))
  · refine V_aload_n (dG D_L_law_1 47 rfl) rfl ?_
    refine V_iconst (v := 0) (dG D_L_law_2 0 rfl) (by decide) ?_
    refine V_lald0 (dG D_L_law_2 1 rfl) ?_
    refine V_iload (dG D_L_law_2 2 rfl) rfl ?_
    refine V_i2l (dG D_L_law_2 3 rfl) ?_
    refine V_lcmp (dG D_L_law_2 4 rfl) ?_
    refine V_if_eq (tgt := 269) (dG D_L_law_2 5 rfl) (by decide) (fun _ => ?_) (fun z => absurd (by rw [if_pos hk0, hv hk0]; exact lg_self _) z)
    refine V_goto (tgt := 1499) (dG D_L_law_2 8 rfl) (by decide) ?_
    exact V_sub [0, 1, 2, 3, 4] rfl (kont C' r.2 R' _ h3 _ _ hI (by omega) (by omega))
theorem lc_clock {g : GT} {nt B R : Nat} {C M : St} {o : Int64} {h : Nat × Nat} {kb nb j b L : Nat} {xs : Nat → Int32} (hj : 4 * j + 4 ≤ L) (hL : L ≤ 2048)  (hCF : CF g K_X4_clock K_X5_clock [.int (xs (4 * j + 1))] [(1, IOE), (2, ISE)] nt B R C M) (kont : ∀ (C' M' : St) (R' : Nat) (o' : Int64) (h' : Nat × Nat) (kb' nb' : Nat), Inv nt (B + 100) R' C' M' → kb' + cap C ≤ kb + cap C' + 1 → nb' + 4 * cap C ≤ nb + 4 * cap C' + 6 → V g K_law room_1 (lawQ g b L xs) kb' nb' nt h' C' M' o' 1499 [(0, .ref b), (1, .ref (ad g 0)), (2, .ref (ad g 10)), (3, .ref (ad g 9)), (4, .int (nI (4 * j)))] []) (hk : kb + 5000 ≤ 601024) (hn : nb + 20000 ≤ 7293034) : V g K_law room_1 (lawQ g b L xs) kb nb nt h C M o 272 [(0, .ref b), (1, .ref (ad g 0)), (2, .ref (ad g 10)), (3, .ref (ad g 9)), (4, .int (nI (4 * j)))] [] := by
  obtain ⟨k, v, C', r, R', hO, hM, hI, h31, hv⟩ := hCF
  have hc25 := hI.cap25
  obtain ⟨mc, ms, m1, m2, hC⟩ := ow_clock hO
  refine V_aload_n (dG D_L_law_2 9 rfl) rfl ?_
  refine V_aload_n (dG D_L_law_2 10 rfl) rfl ?_
  refine V_iload (dG D_L_law_2 11 rfl) rfl ?_
  refine V_iconst (v := 1) (dG D_L_law_2 12 rfl) (by decide) ?_
  refine V_iadd (dG D_L_law_2 13 rfl) ?_
  refine V_sld (j := 4 * j + 1) (dG D_L_law_2 14 rfl) (by rw [show nI (4 * j) + 1 = nI (4 * j + 1) from nI_add _ 1]; exact inr_nI (by omega) (by omega)) ?_
  refine V_aload_n (dG D_L_law_2 15 rfl) rfl ?_
  refine RH_call (hC o) lh_clock (dG D_L_law_2 16 rfl) rfl ⟨Nat.le_of_ble_eq_true rfl, Nat.le_of_ble_eq_true rfl⟩ ⟨by show kb + mc ≤ 601024; omega, by show nb + ms ≤ 7293034; omega⟩ (by simp [cat_int, cat_ref]) (fun h1 => ?_) rfl
  refine V_istore (dG D_L_law_2 17 rfl) (by decide) ?_
  refine V_aload_n (dG D_L_law_2 18 rfl) rfl ?_
  refine V_aload_n (dG D_L_law_2 19 rfl) rfl ?_
  refine V_iload (dG D_L_law_2 20 rfl) rfl ?_
  refine V_iconst (v := 1) (dG D_L_law_2 21 rfl) (by decide) ?_
  refine V_iadd (dG D_L_law_2 22 rfl) ?_
  refine V_sld (j := 4 * j + 1) (dG D_L_law_2 23 rfl) (by rw [show nI (4 * j) + 1 = nI (4 * j + 1) from nI_add _ 1]; exact inr_nI (by omega) (by omega)) ?_
  refine R_vb1 (hM _) lk_L_102 (dG D_L_law_2 24 rfl) rcv_5 ⟨Nat.le_of_ble_eq_true rfl, Nat.le_of_ble_eq_true rfl⟩ ⟨by show kb + mc + 0 ≤ 601024; omega, by show nb + ms + 0 ≤ 7293034; omega⟩ (by simp [cat_int, cat_ref]) (fun h2 => ?_)
  refine V_istore (dG D_L_law_2 25 rfl) (by decide) ?_
  refine V_aload_n (dG D_L_law_2 26 rfl) rfl ?_
  refine R_vb0 om_thrown lk_L_92 (dG D_L_law_2 27 rfl) rcv_5 ⟨Nat.le_of_ble_eq_true rfl, Nat.le_of_ble_eq_true rfl⟩ ⟨by show kb + mc + 0 + 0 ≤ 601024; omega, by show nb + ms + 0 + 0 ≤ 7293034; omega⟩ (by simp [cat_int, cat_ref]) (fun h3 => ?_)
  refine V_iload (dG D_L_law_2 28 rfl) rfl ?_
  refine V_icmp_eq (tgt := 308) (dG D_L_law_2 29 rfl) (by decide) (fun _ => ?_) (fun z => absurd h31 z)
  refine V_iload (dG D_L_law_2 32 rfl) rfl ?_
  refine V_if_ne (tgt := 325) (dG D_L_law_2 33 rfl) (by decide) (fun _ => ?_) (fun hk0 => ?_)
  · refine V_goto (tgt := 1499) (dG D_L_law_2 43 rfl) (by decide) ?_
    exact V_sub [0, 1, 2, 3, 4] rfl (kont C' r.2 R' _ h3 _ _ hI (by omega) (by omega))
  · refine V_aload_n (dG D_L_law_2 34 rfl) rfl ?_
    refine V_iconst (v := 0) (dG D_L_law_2 35 rfl) (by decide) ?_
    refine V_lald0 (dG D_L_law_2 36 rfl) ?_
    refine V_iload (dG D_L_law_2 37 rfl) rfl ?_
    refine V_i2l (dG D_L_law_2 38 rfl) ?_
    refine V_lcmp (dG D_L_law_2 39 rfl) ?_
    refine V_if_eq (tgt := 325) (dG D_L_law_2 40 rfl) (by decide) (fun _ => ?_) (fun z => absurd (by rw [if_pos hk0, hv hk0]; exact lg_self _) z)
    refine V_goto (tgt := 1499) (dG D_L_law_2 43 rfl) (by decide) ?_
    exact V_sub [0, 1, 2, 3, 4] rfl (kont C' r.2 R' _ h3 _ _ hI (by omega) (by omega))
theorem lc_closed {g : GT} {nt B R : Nat} {C M : St} {o : Int64} {h : Nat × Nat} {kb nb j b L : Nat} {xs : Nat → Int32} (hj : 4 * j + 4 ≤ L) (hL : L ≤ 2048)  (hCF : CF g K_X4_closed K_X5_closed [] [] nt B R C M) (kont : ∀ (C' M' : St) (R' : Nat) (o' : Int64) (h' : Nat × Nat) (kb' nb' : Nat), Inv nt (B + 100) R' C' M' → kb' + cap C ≤ kb + cap C' + 1 → nb' + 4 * cap C ≤ nb + 4 * cap C' + 6 → V g K_law room_1 (lawQ g b L xs) kb' nb' nt h' C' M' o' 1499 [(0, .ref b), (1, .ref (ad g 0)), (2, .ref (ad g 10)), (3, .ref (ad g 9)), (4, .int (nI (4 * j)))] []) (hk : kb + 5000 ≤ 601024) (hn : nb + 20000 ≤ 7293034) : V g K_law room_1 (lawQ g b L xs) kb nb nt h C M o 328 [(0, .ref b), (1, .ref (ad g 0)), (2, .ref (ad g 10)), (3, .ref (ad g 9)), (4, .int (nI (4 * j)))] [] := by
  obtain ⟨k, v, C', r, R', hO, hM, hI, h31, hv⟩ := hCF
  have hc25 := hI.cap25
  obtain ⟨rfl, mc, ms, m1, m2, hC⟩ := hO.resolve_right (fun z => by obtain ⟨-, E, hE, -⟩ := z; cases hE)
  refine V_aload_n (dG D_L_law_2 44 rfl) rfl ?_
  refine R_vb0 (hC o) lk_L_103 (dG D_L_law_2 45 rfl) rcv_4 ⟨Nat.le_of_ble_eq_true rfl, Nat.le_of_ble_eq_true rfl⟩ ⟨by show kb + mc ≤ 601024; omega, by show nb + ms ≤ 7293034; omega⟩ (by simp [cat_int, cat_ref]) (fun h1 => ?_)
  refine V_aload_n (dG D_L_law_2 46 rfl) rfl ?_
  refine R_vb0 (hM o) lk_L_106 (dG D_L_law_2 47 rfl) rcv_5 ⟨Nat.le_of_ble_eq_true rfl, Nat.le_of_ble_eq_true rfl⟩ ⟨by show kb + mc + 0 ≤ 601024; omega, by show nb + ms + 0 ≤ 7293034; omega⟩ (by simp [cat_int, cat_ref]) (fun h2 => ?_)
  refine V_icmp_eq (tgt := 1499) (dG D_L_law_3 0 rfl) (by decide) (fun _ => ?_) (fun z => absurd (hv rfl).symm z)
  exact kont C' r.2 R' o h2 _ _ hI (by omega) (by omega)
theorem lc_down {g : GT} {nt B R : Nat} {C M : St} {o : Int64} {h : Nat × Nat} {kb nb j b L : Nat} {xs : Nat → Int32} (hj : 4 * j + 4 ≤ L) (hL : L ≤ 2048)  (hCF : CF g K_X4_down K_X5_down [.int (xs (4 * j + 1))] [(1, IOE), (2, ISE)] nt B R C M) (kont : ∀ (C' M' : St) (R' : Nat) (o' : Int64) (h' : Nat × Nat) (kb' nb' : Nat), Inv nt (B + 100) R' C' M' → kb' + cap C ≤ kb + cap C' + 1 → nb' + 4 * cap C ≤ nb + 4 * cap C' + 6 → V g K_law room_1 (lawQ g b L xs) kb' nb' nt h' C' M' o' 1499 [(0, .ref b), (1, .ref (ad g 0)), (2, .ref (ad g 10)), (3, .ref (ad g 9)), (4, .int (nI (4 * j)))] []) (hk : kb + 5000 ≤ 601024) (hn : nb + 20000 ≤ 7293034) : V g K_law room_1 (lawQ g b L xs) kb nb nt h C M o 341 [(0, .ref b), (1, .ref (ad g 0)), (2, .ref (ad g 10)), (3, .ref (ad g 9)), (4, .int (nI (4 * j)))] [] := by
  obtain ⟨k, v, C', r, R', hO, hM, hI, h31, hv⟩ := hCF
  have hc25 := hI.cap25
  obtain ⟨mc, ms, m1, m2, hC⟩ := ow_down hO
  refine V_aload_n (dG D_L_law_3 3 rfl) rfl ?_
  refine V_aload_n (dG D_L_law_3 4 rfl) rfl ?_
  refine V_iload (dG D_L_law_3 5 rfl) rfl ?_
  refine V_iconst (v := 1) (dG D_L_law_3 6 rfl) (by decide) ?_
  refine V_iadd (dG D_L_law_3 7 rfl) ?_
  refine V_sld (j := 4 * j + 1) (dG D_L_law_3 8 rfl) (by rw [show nI (4 * j) + 1 = nI (4 * j + 1) from nI_add _ 1]; exact inr_nI (by omega) (by omega)) ?_
  refine V_aload_n (dG D_L_law_3 9 rfl) rfl ?_
  refine RH_call (hC o) lh_down (dG D_L_law_3 10 rfl) rfl ⟨Nat.le_of_ble_eq_true rfl, Nat.le_of_ble_eq_true rfl⟩ ⟨by show kb + mc ≤ 601024; omega, by show nb + ms ≤ 7293034; omega⟩ (by simp [cat_int, cat_ref]) (fun h1 => ?_) rfl
  refine V_istore (dG D_L_law_3 11 rfl) (by decide) ?_
  refine V_aload_n (dG D_L_law_3 12 rfl) rfl ?_
  refine V_aload_n (dG D_L_law_3 13 rfl) rfl ?_
  refine V_iload (dG D_L_law_3 14 rfl) rfl ?_
  refine V_iconst (v := 1) (dG D_L_law_3 15 rfl) (by decide) ?_
  refine V_iadd (dG D_L_law_3 16 rfl) ?_
  refine V_sld (j := 4 * j + 1) (dG D_L_law_3 17 rfl) (by rw [show nI (4 * j) + 1 = nI (4 * j + 1) from nI_add _ 1]; exact inr_nI (by omega) (by omega)) ?_
  refine R_vb1 (hM _) lk_L_109 (dG D_L_law_3 18 rfl) rcv_5 ⟨Nat.le_of_ble_eq_true rfl, Nat.le_of_ble_eq_true rfl⟩ ⟨by show kb + mc + 0 ≤ 601024; omega, by show nb + ms + 0 ≤ 7293034; omega⟩ (by simp [cat_int, cat_ref]) (fun h2 => ?_)
  refine V_istore (dG D_L_law_3 19 rfl) (by decide) ?_
  refine V_aload_n (dG D_L_law_3 20 rfl) rfl ?_
  refine R_vb0 om_thrown lk_L_92 (dG D_L_law_3 21 rfl) rcv_5 ⟨Nat.le_of_ble_eq_true rfl, Nat.le_of_ble_eq_true rfl⟩ ⟨by show kb + mc + 0 + 0 ≤ 601024; omega, by show nb + ms + 0 + 0 ≤ 7293034; omega⟩ (by simp [cat_int, cat_ref]) (fun h3 => ?_)
  refine V_iload (dG D_L_law_3 22 rfl) rfl ?_
  refine V_icmp_eq (tgt := 377) (dG D_L_law_3 23 rfl) (by decide) (fun _ => ?_) (fun z => absurd h31 z)
  refine V_iload (dG D_L_law_3 26 rfl) rfl ?_
  refine V_if_ne (tgt := 394) (dG D_L_law_3 27 rfl) (by decide) (fun _ => ?_) (fun hk0 => ?_)
  · refine V_goto (tgt := 1499) (dG D_L_law_3 37 rfl) (by decide) ?_
    exact V_sub [0, 1, 2, 3, 4] rfl (kont C' r.2 R' _ h3 _ _ hI (by omega) (by omega))
  · refine V_aload_n (dG D_L_law_3 28 rfl) rfl ?_
    refine V_iconst (v := 0) (dG D_L_law_3 29 rfl) (by decide) ?_
    refine V_lald0 (dG D_L_law_3 30 rfl) ?_
    refine V_iload (dG D_L_law_3 31 rfl) rfl ?_
    refine V_i2l (dG D_L_law_3 32 rfl) ?_
    refine V_lcmp (dG D_L_law_3 33 rfl) ?_
    refine V_if_eq (tgt := 394) (dG D_L_law_3 34 rfl) (by decide) (fun _ => ?_) (fun z => absurd (by rw [if_pos hk0, hv hk0]; exact lg_self _) z)
    refine V_goto (tgt := 1499) (dG D_L_law_3 37 rfl) (by decide) ?_
    exact V_sub [0, 1, 2, 3, 4] rfl (kont C' r.2 R' _ h3 _ _ hI (by omega) (by omega))
theorem lc_up {g : GT} {nt B R : Nat} {C M : St} {o : Int64} {h : Nat × Nat} {kb nb j b L : Nat} {xs : Nat → Int32} (hj : 4 * j + 4 ≤ L) (hL : L ≤ 2048)  (hCF : CF g K_X4_up K_X5_up [.int (xs (4 * j + 1))] [(1, IOE), (2, ISE)] nt B R C M) (kont : ∀ (C' M' : St) (R' : Nat) (o' : Int64) (h' : Nat × Nat) (kb' nb' : Nat), Inv nt (B + 100) R' C' M' → kb' + cap C ≤ kb + cap C' + 1 → nb' + 4 * cap C ≤ nb + 4 * cap C' + 6 → V g K_law room_1 (lawQ g b L xs) kb' nb' nt h' C' M' o' 1499 [(0, .ref b), (1, .ref (ad g 0)), (2, .ref (ad g 10)), (3, .ref (ad g 9)), (4, .int (nI (4 * j)))] []) (hk : kb + 5000 ≤ 601024) (hn : nb + 20000 ≤ 7293034) : V g K_law room_1 (lawQ g b L xs) kb nb nt h C M o 397 [(0, .ref b), (1, .ref (ad g 0)), (2, .ref (ad g 10)), (3, .ref (ad g 9)), (4, .int (nI (4 * j)))] [] := by
  obtain ⟨k, v, C', r, R', hO, hM, hI, h31, hv⟩ := hCF
  have hc25 := hI.cap25
  obtain ⟨mc, ms, m1, m2, hC⟩ := ow_up hO
  refine V_aload_n (dG D_L_law_3 38 rfl) rfl ?_
  refine V_aload_n (dG D_L_law_3 39 rfl) rfl ?_
  refine V_iload (dG D_L_law_3 40 rfl) rfl ?_
  refine V_iconst (v := 1) (dG D_L_law_3 41 rfl) (by decide) ?_
  refine V_iadd (dG D_L_law_3 42 rfl) ?_
  refine V_sld (j := 4 * j + 1) (dG D_L_law_3 43 rfl) (by rw [show nI (4 * j) + 1 = nI (4 * j + 1) from nI_add _ 1]; exact inr_nI (by omega) (by omega)) ?_
  refine V_aload_n (dG D_L_law_3 44 rfl) rfl ?_
  refine RH_call (hC o) lh_up (dG D_L_law_3 45 rfl) rfl ⟨Nat.le_of_ble_eq_true rfl, Nat.le_of_ble_eq_true rfl⟩ ⟨by show kb + mc ≤ 601024; omega, by show nb + ms ≤ 7293034; omega⟩ (by simp [cat_int, cat_ref]) (fun h1 => ?_) rfl
  refine V_istore (dG D_L_law_3 46 rfl) (by decide) ?_
  refine V_aload_n (dG D_L_law_3 47 rfl) rfl ?_
  refine V_aload_n (dG D_L_law_4 0 rfl) rfl ?_
  refine V_iload (dG D_L_law_4 1 rfl) rfl ?_
  refine V_iconst (v := 1) (dG D_L_law_4 2 rfl) (by decide) ?_
  refine V_iadd (dG D_L_law_4 3 rfl) ?_
  refine V_sld (j := 4 * j + 1) (dG D_L_law_4 4 rfl) (by rw [show nI (4 * j) + 1 = nI (4 * j + 1) from nI_add _ 1]; exact inr_nI (by omega) (by omega)) ?_
  refine R_vb1 (hM _) lk_L_112 (dG D_L_law_4 5 rfl) rcv_5 ⟨Nat.le_of_ble_eq_true rfl, Nat.le_of_ble_eq_true rfl⟩ ⟨by show kb + mc + 0 ≤ 601024; omega, by show nb + ms + 0 ≤ 7293034; omega⟩ (by simp [cat_int, cat_ref]) (fun h2 => ?_)
  refine V_istore (dG D_L_law_4 6 rfl) (by decide) ?_
  refine V_aload_n (dG D_L_law_4 7 rfl) rfl ?_
  refine R_vb0 om_thrown lk_L_92 (dG D_L_law_4 8 rfl) rcv_5 ⟨Nat.le_of_ble_eq_true rfl, Nat.le_of_ble_eq_true rfl⟩ ⟨by show kb + mc + 0 + 0 ≤ 601024; omega, by show nb + ms + 0 + 0 ≤ 7293034; omega⟩ (by simp [cat_int, cat_ref]) (fun h3 => ?_)
  refine V_iload (dG D_L_law_4 9 rfl) rfl ?_
  refine V_icmp_eq (tgt := 433) (dG D_L_law_4 10 rfl) (by decide) (fun _ => ?_) (fun z => absurd h31 z)
  refine V_iload (dG D_L_law_4 13 rfl) rfl ?_
  refine V_if_ne (tgt := 450) (dG D_L_law_4 14 rfl) (by decide) (fun _ => ?_) (fun hk0 => ?_)
  · refine V_goto (tgt := 1499) (dG D_L_law_4 24 rfl) (by decide) ?_
    exact V_sub [0, 1, 2, 3, 4] rfl (kont C' r.2 R' _ h3 _ _ hI (by omega) (by omega))
  · refine V_aload_n (dG D_L_law_4 15 rfl) rfl ?_
    refine V_iconst (v := 0) (dG D_L_law_4 16 rfl) (by decide) ?_
    refine V_lald0 (dG D_L_law_4 17 rfl) ?_
    refine V_iload (dG D_L_law_4 18 rfl) rfl ?_
    refine V_i2l (dG D_L_law_4 19 rfl) ?_
    refine V_lcmp (dG D_L_law_4 20 rfl) ?_
    refine V_if_eq (tgt := 450) (dG D_L_law_4 21 rfl) (by decide) (fun _ => ?_) (fun z => absurd (by rw [if_pos hk0, hv hk0]; exact lg_self _) z)
    refine V_goto (tgt := 1499) (dG D_L_law_4 24 rfl) (by decide) ?_
    exact V_sub [0, 1, 2, 3, 4] rfl (kont C' r.2 R' _ h3 _ _ hI (by omega) (by omega))
theorem lc_sync {g : GT} {nt B R : Nat} {C M : St} {o : Int64} {h : Nat × Nat} {kb nb j b L : Nat} {xs : Nat → Int32} (hj : 4 * j + 4 ≤ L) (hL : L ≤ 2048)  (hCF : CF g K_X4_sync K_X5_sync [.int (xs (4 * j + 1))] [(1, IOE), (2, ISE)] nt B R C M) (kont : ∀ (C' M' : St) (R' : Nat) (o' : Int64) (h' : Nat × Nat) (kb' nb' : Nat), Inv nt (B + 100) R' C' M' → kb' + cap C ≤ kb + cap C' + 1 → nb' + 4 * cap C ≤ nb + 4 * cap C' + 6 → V g K_law room_1 (lawQ g b L xs) kb' nb' nt h' C' M' o' 1499 [(0, .ref b), (1, .ref (ad g 0)), (2, .ref (ad g 10)), (3, .ref (ad g 9)), (4, .int (nI (4 * j)))] []) (hk : kb + 5000 ≤ 601024) (hn : nb + 20000 ≤ 7293034) : V g K_law room_1 (lawQ g b L xs) kb nb nt h C M o 453 [(0, .ref b), (1, .ref (ad g 0)), (2, .ref (ad g 10)), (3, .ref (ad g 9)), (4, .int (nI (4 * j)))] [] := by
  obtain ⟨k, v, C', r, R', hO, hM, hI, h31, hv⟩ := hCF
  have hc25 := hI.cap25
  obtain ⟨mc, ms, m1, m2, hC⟩ := ow_sync hO
  refine V_aload_n (dG D_L_law_4 25 rfl) rfl ?_
  refine V_aload_n (dG D_L_law_4 26 rfl) rfl ?_
  refine V_iload (dG D_L_law_4 27 rfl) rfl ?_
  refine V_iconst (v := 1) (dG D_L_law_4 28 rfl) (by decide) ?_
  refine V_iadd (dG D_L_law_4 29 rfl) ?_
  refine V_sld (j := 4 * j + 1) (dG D_L_law_4 30 rfl) (by rw [show nI (4 * j) + 1 = nI (4 * j + 1) from nI_add _ 1]; exact inr_nI (by omega) (by omega)) ?_
  refine V_aload_n (dG D_L_law_4 31 rfl) rfl ?_
  refine RH_call (hC o) lh_sync (dG D_L_law_4 32 rfl) rfl ⟨Nat.le_of_ble_eq_true rfl, Nat.le_of_ble_eq_true rfl⟩ ⟨by show kb + mc ≤ 601024; omega, by show nb + ms ≤ 7293034; omega⟩ (by simp [cat_int, cat_ref]) (fun h1 => ?_) rfl
  refine V_istore (dG D_L_law_4 33 rfl) (by decide) ?_
  refine V_aload_n (dG D_L_law_4 34 rfl) rfl ?_
  refine V_aload_n (dG D_L_law_4 35 rfl) rfl ?_
  refine V_iload (dG D_L_law_4 36 rfl) rfl ?_
  refine V_iconst (v := 1) (dG D_L_law_4 37 rfl) (by decide) ?_
  refine V_iadd (dG D_L_law_4 38 rfl) ?_
  refine V_sld (j := 4 * j + 1) (dG D_L_law_4 39 rfl) (by rw [show nI (4 * j) + 1 = nI (4 * j + 1) from nI_add _ 1]; exact inr_nI (by omega) (by omega)) ?_
  refine R_vb1 (hM _) lk_L_115 (dG D_L_law_4 40 rfl) rcv_5 ⟨Nat.le_of_ble_eq_true rfl, Nat.le_of_ble_eq_true rfl⟩ ⟨by show kb + mc + 0 ≤ 601024; omega, by show nb + ms + 0 ≤ 7293034; omega⟩ (by simp [cat_int, cat_ref]) (fun h2 => ?_)
  refine V_istore (dG D_L_law_4 41 rfl) (by decide) ?_
  refine V_aload_n (dG D_L_law_4 42 rfl) rfl ?_
  refine R_vb0 om_thrown lk_L_92 (dG D_L_law_4 43 rfl) rcv_5 ⟨Nat.le_of_ble_eq_true rfl, Nat.le_of_ble_eq_true rfl⟩ ⟨by show kb + mc + 0 + 0 ≤ 601024; omega, by show nb + ms + 0 + 0 ≤ 7293034; omega⟩ (by simp [cat_int, cat_ref]) (fun h3 => ?_)
  refine V_iload (dG D_L_law_4 44 rfl) rfl ?_
  refine V_icmp_eq (tgt := 489) (dG D_L_law_4 45 rfl) (by decide) (fun _ => ?_) (fun z => absurd h31 z)
  refine V_iload (dG D_L_law_5 0 rfl) rfl ?_
  refine V_if_ne (tgt := 506) (dG D_L_law_5 1 rfl) (by decide) (fun _ => ?_) (fun hk0 => ?_)
  · refine V_goto (tgt := 1499) (dG D_L_law_5 11 rfl) (by decide) ?_
    exact V_sub [0, 1, 2, 3, 4] rfl (kont C' r.2 R' _ h3 _ _ hI (by omega) (by omega))
  · refine V_aload_n (dG D_L_law_5 2 rfl) rfl ?_
    refine V_iconst (v := 0) (dG D_L_law_5 3 rfl) (by decide) ?_
    refine V_lald0 (dG D_L_law_5 4 rfl) ?_
    refine V_iload (dG D_L_law_5 5 rfl) rfl ?_
    refine V_i2l (dG D_L_law_5 6 rfl) ?_
    refine V_lcmp (dG D_L_law_5 7 rfl) ?_
    refine V_if_eq (tgt := 506) (dG D_L_law_5 8 rfl) (by decide) (fun _ => ?_) (fun z => absurd (by rw [if_pos hk0, hv hk0]; exact lg_self _) z)
    refine V_goto (tgt := 1499) (dG D_L_law_5 11 rfl) (by decide) ?_
    exact V_sub [0, 1, 2, 3, 4] rfl (kont C' r.2 R' _ h3 _ _ hI (by omega) (by omega))
theorem lc_split {g : GT} {nt B R : Nat} {C M : St} {o : Int64} {h : Nat × Nat} {kb nb j b L : Nat} {xs : Nat → Int32} (hj : 4 * j + 4 ≤ L) (hL : L ≤ 2048)  (hCF : CF g K_X4_split K_X5_split [.int (xs (4 * j + 1))] [(1, IOE), (2, ISE)] nt B R C M) (kont : ∀ (C' M' : St) (R' : Nat) (o' : Int64) (h' : Nat × Nat) (kb' nb' : Nat), Inv nt (B + 100) R' C' M' → kb' + cap C ≤ kb + cap C' + 1 → nb' + 4 * cap C ≤ nb + 4 * cap C' + 6 → V g K_law room_1 (lawQ g b L xs) kb' nb' nt h' C' M' o' 1499 [(0, .ref b), (1, .ref (ad g 0)), (2, .ref (ad g 10)), (3, .ref (ad g 9)), (4, .int (nI (4 * j)))] []) (hk : kb + 5000 ≤ 601024) (hn : nb + 20000 ≤ 7293034) : V g K_law room_1 (lawQ g b L xs) kb nb nt h C M o 509 [(0, .ref b), (1, .ref (ad g 0)), (2, .ref (ad g 10)), (3, .ref (ad g 9)), (4, .int (nI (4 * j)))] [] := by
  obtain ⟨k, v, C', r, R', hO, hM, hI, h31, hv⟩ := hCF
  have hc25 := hI.cap25
  obtain ⟨mc, ms, m1, m2, hC⟩ := ow_split hO
  refine V_aload_n (dG D_L_law_5 12 rfl) rfl ?_
  refine V_aload_n (dG D_L_law_5 13 rfl) rfl ?_
  refine V_iload (dG D_L_law_5 14 rfl) rfl ?_
  refine V_iconst (v := 1) (dG D_L_law_5 15 rfl) (by decide) ?_
  refine V_iadd (dG D_L_law_5 16 rfl) ?_
  refine V_sld (j := 4 * j + 1) (dG D_L_law_5 17 rfl) (by rw [show nI (4 * j) + 1 = nI (4 * j + 1) from nI_add _ 1]; exact inr_nI (by omega) (by omega)) ?_
  refine V_aload_n (dG D_L_law_5 18 rfl) rfl ?_
  refine RH_call (hC o) lh_split (dG D_L_law_5 19 rfl) rfl ⟨Nat.le_of_ble_eq_true rfl, Nat.le_of_ble_eq_true rfl⟩ ⟨by show kb + mc ≤ 601024; omega, by show nb + ms ≤ 7293034; omega⟩ (by simp [cat_int, cat_ref]) (fun h1 => ?_) rfl
  refine V_istore (dG D_L_law_5 20 rfl) (by decide) ?_
  refine V_aload_n (dG D_L_law_5 21 rfl) rfl ?_
  refine V_aload_n (dG D_L_law_5 22 rfl) rfl ?_
  refine V_iload (dG D_L_law_5 23 rfl) rfl ?_
  refine V_iconst (v := 1) (dG D_L_law_5 24 rfl) (by decide) ?_
  refine V_iadd (dG D_L_law_5 25 rfl) ?_
  refine V_sld (j := 4 * j + 1) (dG D_L_law_5 26 rfl) (by rw [show nI (4 * j) + 1 = nI (4 * j + 1) from nI_add _ 1]; exact inr_nI (by omega) (by omega)) ?_
  refine R_vb1 (hM _) lk_L_118 (dG D_L_law_5 27 rfl) rcv_5 ⟨Nat.le_of_ble_eq_true rfl, Nat.le_of_ble_eq_true rfl⟩ ⟨by show kb + mc + 0 ≤ 601024; omega, by show nb + ms + 0 ≤ 7293034; omega⟩ (by simp [cat_int, cat_ref]) (fun h2 => ?_)
  refine V_istore (dG D_L_law_5 28 rfl) (by decide) ?_
  refine V_aload_n (dG D_L_law_5 29 rfl) rfl ?_
  refine R_vb0 om_thrown lk_L_92 (dG D_L_law_5 30 rfl) rcv_5 ⟨Nat.le_of_ble_eq_true rfl, Nat.le_of_ble_eq_true rfl⟩ ⟨by show kb + mc + 0 + 0 ≤ 601024; omega, by show nb + ms + 0 + 0 ≤ 7293034; omega⟩ (by simp [cat_int, cat_ref]) (fun h3 => ?_)
  refine V_iload (dG D_L_law_5 31 rfl) rfl ?_
  refine V_icmp_eq (tgt := 545) (dG D_L_law_5 32 rfl) (by decide) (fun _ => ?_) (fun z => absurd h31 z)
  refine V_iload (dG D_L_law_5 35 rfl) rfl ?_
  refine V_if_ne (tgt := 562) (dG D_L_law_5 36 rfl) (by decide) (fun _ => ?_) (fun hk0 => ?_)
  · refine V_goto (tgt := 1499) (dG D_L_law_5 46 rfl) (by decide) ?_
    exact V_sub [0, 1, 2, 3, 4] rfl (kont C' r.2 R' _ h3 _ _ hI (by omega) (by omega))
  · refine V_aload_n (dG D_L_law_5 37 rfl) rfl ?_
    refine V_iconst (v := 0) (dG D_L_law_5 38 rfl) (by decide) ?_
    refine V_lald0 (dG D_L_law_5 39 rfl) ?_
    refine V_iload (dG D_L_law_5 40 rfl) rfl ?_
    refine V_i2l (dG D_L_law_5 41 rfl) ?_
    refine V_lcmp (dG D_L_law_5 42 rfl) ?_
    refine V_if_eq (tgt := 562) (dG D_L_law_5 43 rfl) (by decide) (fun _ => ?_) (fun z => absurd (by rw [if_pos hk0, hv hk0]; exact lg_self _) z)
    refine V_goto (tgt := 1499) (dG D_L_law_5 46 rfl) (by decide) ?_
    exact V_sub [0, 1, 2, 3, 4] rfl (kont C' r.2 R' _ h3 _ _ hI (by omega) (by omega))
theorem lc_merge {g : GT} {nt B R : Nat} {C M : St} {o : Int64} {h : Nat × Nat} {kb nb j b L : Nat} {xs : Nat → Int32} (hj : 4 * j + 4 ≤ L) (hL : L ≤ 2048)  (hCF : CF g K_X4_merge K_X5_merge [.int (xs (4 * j + 1))] [(1, IOE), (2, ISE)] nt B R C M) (kont : ∀ (C' M' : St) (R' : Nat) (o' : Int64) (h' : Nat × Nat) (kb' nb' : Nat), Inv nt (B + 100) R' C' M' → kb' + cap C ≤ kb + cap C' + 1 → nb' + 4 * cap C ≤ nb + 4 * cap C' + 6 → V g K_law room_1 (lawQ g b L xs) kb' nb' nt h' C' M' o' 1499 [(0, .ref b), (1, .ref (ad g 0)), (2, .ref (ad g 10)), (3, .ref (ad g 9)), (4, .int (nI (4 * j)))] []) (hk : kb + 5000 ≤ 601024) (hn : nb + 20000 ≤ 7293034) : V g K_law room_1 (lawQ g b L xs) kb nb nt h C M o 565 [(0, .ref b), (1, .ref (ad g 0)), (2, .ref (ad g 10)), (3, .ref (ad g 9)), (4, .int (nI (4 * j)))] [] := by
  obtain ⟨k, v, C', r, R', hO, hM, hI, h31, hv⟩ := hCF
  have hc25 := hI.cap25
  obtain ⟨mc, ms, m1, m2, hC⟩ := ow_merge hO
  refine V_aload_n (dG D_L_law_5 47 rfl) rfl ?_
  refine V_aload_n (dG D_L_law_6 0 rfl) rfl ?_
  refine V_iload (dG D_L_law_6 1 rfl) rfl ?_
  refine V_iconst (v := 1) (dG D_L_law_6 2 rfl) (by decide) ?_
  refine V_iadd (dG D_L_law_6 3 rfl) ?_
  refine V_sld (j := 4 * j + 1) (dG D_L_law_6 4 rfl) (by rw [show nI (4 * j) + 1 = nI (4 * j + 1) from nI_add _ 1]; exact inr_nI (by omega) (by omega)) ?_
  refine V_aload_n (dG D_L_law_6 5 rfl) rfl ?_
  refine RH_call (hC o) lh_merge (dG D_L_law_6 6 rfl) rfl ⟨Nat.le_of_ble_eq_true rfl, Nat.le_of_ble_eq_true rfl⟩ ⟨by show kb + mc ≤ 601024; omega, by show nb + ms ≤ 7293034; omega⟩ (by simp [cat_int, cat_ref]) (fun h1 => ?_) rfl
  refine V_istore (dG D_L_law_6 7 rfl) (by decide) ?_
  refine V_aload_n (dG D_L_law_6 8 rfl) rfl ?_
  refine V_aload_n (dG D_L_law_6 9 rfl) rfl ?_
  refine V_iload (dG D_L_law_6 10 rfl) rfl ?_
  refine V_iconst (v := 1) (dG D_L_law_6 11 rfl) (by decide) ?_
  refine V_iadd (dG D_L_law_6 12 rfl) ?_
  refine V_sld (j := 4 * j + 1) (dG D_L_law_6 13 rfl) (by rw [show nI (4 * j) + 1 = nI (4 * j + 1) from nI_add _ 1]; exact inr_nI (by omega) (by omega)) ?_
  refine R_vb1 (hM _) lk_L_121 (dG D_L_law_6 14 rfl) rcv_5 ⟨Nat.le_of_ble_eq_true rfl, Nat.le_of_ble_eq_true rfl⟩ ⟨by show kb + mc + 0 ≤ 601024; omega, by show nb + ms + 0 ≤ 7293034; omega⟩ (by simp [cat_int, cat_ref]) (fun h2 => ?_)
  refine V_istore (dG D_L_law_6 15 rfl) (by decide) ?_
  refine V_aload_n (dG D_L_law_6 16 rfl) rfl ?_
  refine R_vb0 om_thrown lk_L_92 (dG D_L_law_6 17 rfl) rcv_5 ⟨Nat.le_of_ble_eq_true rfl, Nat.le_of_ble_eq_true rfl⟩ ⟨by show kb + mc + 0 + 0 ≤ 601024; omega, by show nb + ms + 0 + 0 ≤ 7293034; omega⟩ (by simp [cat_int, cat_ref]) (fun h3 => ?_)
  refine V_iload (dG D_L_law_6 18 rfl) rfl ?_
  refine V_icmp_eq (tgt := 601) (dG D_L_law_6 19 rfl) (by decide) (fun _ => ?_) (fun z => absurd h31 z)
  refine V_iload (dG D_L_law_6 22 rfl) rfl ?_
  refine V_if_ne (tgt := 618) (dG D_L_law_6 23 rfl) (by decide) (fun _ => ?_) (fun hk0 => ?_)
  · refine V_goto (tgt := 1499) (dG D_L_law_6 33 rfl) (by decide) ?_
    exact V_sub [0, 1, 2, 3, 4] rfl (kont C' r.2 R' _ h3 _ _ hI (by omega) (by omega))
  · refine V_aload_n (dG D_L_law_6 24 rfl) rfl ?_
    refine V_iconst (v := 0) (dG D_L_law_6 25 rfl) (by decide) ?_
    refine V_lald0 (dG D_L_law_6 26 rfl) ?_
    refine V_iload (dG D_L_law_6 27 rfl) rfl ?_
    refine V_i2l (dG D_L_law_6 28 rfl) ?_
    refine V_lcmp (dG D_L_law_6 29 rfl) ?_
    refine V_if_eq (tgt := 618) (dG D_L_law_6 30 rfl) (by decide) (fun _ => ?_) (fun z => absurd (by rw [if_pos hk0, hv hk0]; exact lg_self _) z)
    refine V_goto (tgt := 1499) (dG D_L_law_6 33 rfl) (by decide) ?_
    exact V_sub [0, 1, 2, 3, 4] rfl (kont C' r.2 R' _ h3 _ _ hI (by omega) (by omega))
theorem lc_move {g : GT} {nt B R : Nat} {C M : St} {o : Int64} {h : Nat × Nat} {kb nb j b L : Nat} {xs : Nat → Int32} (hj : 4 * j + 4 ≤ L) (hL : L ≤ 2048)  (hCF : CF g K_X4_move K_X5_move [.int (xs (4 * j + 1)), .int (xs (4 * j + 2))] [(1, IOE), (2, ISE)] nt B R C M) (kont : ∀ (C' M' : St) (R' : Nat) (o' : Int64) (h' : Nat × Nat) (kb' nb' : Nat), Inv nt (B + 100) R' C' M' → kb' + cap C ≤ kb + cap C' + 1 → nb' + 4 * cap C ≤ nb + 4 * cap C' + 6 → V g K_law room_1 (lawQ g b L xs) kb' nb' nt h' C' M' o' 1499 [(0, .ref b), (1, .ref (ad g 0)), (2, .ref (ad g 10)), (3, .ref (ad g 9)), (4, .int (nI (4 * j)))] []) (hk : kb + 5000 ≤ 601024) (hn : nb + 20000 ≤ 7293034) : V g K_law room_1 (lawQ g b L xs) kb nb nt h C M o 621 [(0, .ref b), (1, .ref (ad g 0)), (2, .ref (ad g 10)), (3, .ref (ad g 9)), (4, .int (nI (4 * j)))] [] := by
  obtain ⟨k, v, C', r, R', hO, hM, hI, h31, hv⟩ := hCF
  have hc25 := hI.cap25
  obtain ⟨mc, ms, m1, m2, hC⟩ := ow_move hO
  refine V_aload_n (dG D_L_law_6 34 rfl) rfl ?_
  refine V_aload_n (dG D_L_law_6 35 rfl) rfl ?_
  refine V_iload (dG D_L_law_6 36 rfl) rfl ?_
  refine V_iconst (v := 1) (dG D_L_law_6 37 rfl) (by decide) ?_
  refine V_iadd (dG D_L_law_6 38 rfl) ?_
  refine V_sld (j := 4 * j + 1) (dG D_L_law_6 39 rfl) (by rw [show nI (4 * j) + 1 = nI (4 * j + 1) from nI_add _ 1]; exact inr_nI (by omega) (by omega)) ?_
  refine V_aload_n (dG D_L_law_6 40 rfl) rfl ?_
  refine V_iload (dG D_L_law_6 41 rfl) rfl ?_
  refine V_iconst (v := 2) (dG D_L_law_6 42 rfl) (by decide) ?_
  refine V_iadd (dG D_L_law_6 43 rfl) ?_
  refine V_sld (j := 4 * j + 2) (dG D_L_law_6 44 rfl) (by rw [show nI (4 * j) + 2 = nI (4 * j + 2) from nI_add _ 2]; exact inr_nI (by omega) (by omega)) ?_
  refine V_aload_n (dG D_L_law_6 45 rfl) rfl ?_
  refine RH_call (hC o) lh_move (dG D_L_law_6 46 rfl) rfl ⟨Nat.le_of_ble_eq_true rfl, Nat.le_of_ble_eq_true rfl⟩ ⟨by show kb + mc ≤ 601024; omega, by show nb + ms ≤ 7293034; omega⟩ (by simp [cat_int, cat_ref]) (fun h1 => ?_) rfl
  refine V_istore (dG D_L_law_6 47 rfl) (by decide) ?_
  refine V_aload_n (dG D_L_law_7 0 rfl) rfl ?_
  refine V_aload_n (dG D_L_law_7 1 rfl) rfl ?_
  refine V_iload (dG D_L_law_7 2 rfl) rfl ?_
  refine V_iconst (v := 1) (dG D_L_law_7 3 rfl) (by decide) ?_
  refine V_iadd (dG D_L_law_7 4 rfl) ?_
  refine V_sld (j := 4 * j + 1) (dG D_L_law_7 5 rfl) (by rw [show nI (4 * j) + 1 = nI (4 * j + 1) from nI_add _ 1]; exact inr_nI (by omega) (by omega)) ?_
  refine V_aload_n (dG D_L_law_7 6 rfl) rfl ?_
  refine V_iload (dG D_L_law_7 7 rfl) rfl ?_
  refine V_iconst (v := 2) (dG D_L_law_7 8 rfl) (by decide) ?_
  refine V_iadd (dG D_L_law_7 9 rfl) ?_
  refine V_sld (j := 4 * j + 2) (dG D_L_law_7 10 rfl) (by rw [show nI (4 * j) + 2 = nI (4 * j + 2) from nI_add _ 2]; exact inr_nI (by omega) (by omega)) ?_
  refine R_vb2 (hM _) lk_L_124 (dG D_L_law_7 11 rfl) rcv_5 ⟨Nat.le_of_ble_eq_true rfl, Nat.le_of_ble_eq_true rfl⟩ ⟨by show kb + mc + 0 ≤ 601024; omega, by show nb + ms + 0 ≤ 7293034; omega⟩ (by simp [cat_int, cat_ref]) (fun h2 => ?_)
  refine V_istore (dG D_L_law_7 12 rfl) (by decide) ?_
  refine V_aload_n (dG D_L_law_7 13 rfl) rfl ?_
  refine R_vb0 om_thrown lk_L_92 (dG D_L_law_7 14 rfl) rcv_5 ⟨Nat.le_of_ble_eq_true rfl, Nat.le_of_ble_eq_true rfl⟩ ⟨by show kb + mc + 0 + 0 ≤ 601024; omega, by show nb + ms + 0 + 0 ≤ 7293034; omega⟩ (by simp [cat_int, cat_ref]) (fun h3 => ?_)
  refine V_iload (dG D_L_law_7 15 rfl) rfl ?_
  refine V_icmp_eq (tgt := 669) (dG D_L_law_7 16 rfl) (by decide) (fun _ => ?_) (fun z => absurd h31 z)
  refine V_iload (dG D_L_law_7 19 rfl) rfl ?_
  refine V_if_ne (tgt := 686) (dG D_L_law_7 20 rfl) (by decide) (fun _ => ?_) (fun hk0 => ?_)
  · refine V_goto (tgt := 1499) (dG D_L_law_7 30 rfl) (by decide) ?_
    exact V_sub [0, 1, 2, 3, 4] rfl (kont C' r.2 R' _ h3 _ _ hI (by omega) (by omega))
  · refine V_aload_n (dG D_L_law_7 21 rfl) rfl ?_
    refine V_iconst (v := 0) (dG D_L_law_7 22 rfl) (by decide) ?_
    refine V_lald0 (dG D_L_law_7 23 rfl) ?_
    refine V_iload (dG D_L_law_7 24 rfl) rfl ?_
    refine V_i2l (dG D_L_law_7 25 rfl) ?_
    refine V_lcmp (dG D_L_law_7 26 rfl) ?_
    refine V_if_eq (tgt := 686) (dG D_L_law_7 27 rfl) (by decide) (fun _ => ?_) (fun z => absurd (by rw [if_pos hk0, hv hk0]; exact lg_self _) z)
    refine V_goto (tgt := 1499) (dG D_L_law_7 30 rfl) (by decide) ?_
    exact V_sub [0, 1, 2, 3, 4] rfl (kont C' r.2 R' _ h3 _ _ hI (by omega) (by omega))
theorem lc_get {g : GT} {nt B R : Nat} {C M : St} {o : Int64} {h : Nat × Nat} {kb nb j b L : Nat} {xs : Nat → Int32} (hj : 4 * j + 4 ≤ L) (hL : L ≤ 2048)  (hCF : CF g K_X4_get K_X5_get [.int (xs (4 * j + 1)), .int (xs (4 * j + 2))] [(1, IOE)] nt B R C M) (kont : ∀ (C' M' : St) (R' : Nat) (o' : Int64) (h' : Nat × Nat) (kb' nb' : Nat), Inv nt (B + 100) R' C' M' → kb' + cap C ≤ kb + cap C' + 1 → nb' + 4 * cap C ≤ nb + 4 * cap C' + 6 → V g K_law room_1 (lawQ g b L xs) kb' nb' nt h' C' M' o' 1499 [(0, .ref b), (1, .ref (ad g 0)), (2, .ref (ad g 10)), (3, .ref (ad g 9)), (4, .int (nI (4 * j)))] []) (hk : kb + 5000 ≤ 601024) (hn : nb + 20000 ≤ 7293034) : V g K_law room_1 (lawQ g b L xs) kb nb nt h C M o 757 [(0, .ref b), (1, .ref (ad g 0)), (2, .ref (ad g 10)), (3, .ref (ad g 9)), (4, .int (nI (4 * j)))] [] := by
  obtain ⟨k, v, C', r, R', hO, hM, hI, h31, hv⟩ := hCF
  have hc25 := hI.cap25
  obtain ⟨mc, ms, m1, m2, hC⟩ := ow_get hO
  refine V_aload_n (dG D_L_law_8 28 rfl) rfl ?_
  refine V_aload_n (dG D_L_law_8 29 rfl) rfl ?_
  refine V_iload (dG D_L_law_8 30 rfl) rfl ?_
  refine V_iconst (v := 1) (dG D_L_law_8 31 rfl) (by decide) ?_
  refine V_iadd (dG D_L_law_8 32 rfl) ?_
  refine V_sld (j := 4 * j + 1) (dG D_L_law_8 33 rfl) (by rw [show nI (4 * j) + 1 = nI (4 * j + 1) from nI_add _ 1]; exact inr_nI (by omega) (by omega)) ?_
  refine V_aload_n (dG D_L_law_8 34 rfl) rfl ?_
  refine V_iload (dG D_L_law_8 35 rfl) rfl ?_
  refine V_iconst (v := 2) (dG D_L_law_8 36 rfl) (by decide) ?_
  refine V_iadd (dG D_L_law_8 37 rfl) ?_
  refine V_sld (j := 4 * j + 2) (dG D_L_law_8 38 rfl) (by rw [show nI (4 * j) + 2 = nI (4 * j + 2) from nI_add _ 2]; exact inr_nI (by omega) (by omega)) ?_
  refine V_aload_n (dG D_L_law_8 39 rfl) rfl ?_
  refine RH_call (hC o) lh_get (dG D_L_law_8 40 rfl) rfl ⟨Nat.le_of_ble_eq_true rfl, Nat.le_of_ble_eq_true rfl⟩ ⟨by show kb + mc ≤ 601024; omega, by show nb + ms ≤ 7293034; omega⟩ (by simp [cat_int, cat_ref]) (fun h1 => ?_) rfl
  refine V_istore (dG D_L_law_8 41 rfl) (by decide) ?_
  refine V_aload_n (dG D_L_law_8 42 rfl) rfl ?_
  refine V_aload_n (dG D_L_law_8 43 rfl) rfl ?_
  refine V_iload (dG D_L_law_8 44 rfl) rfl ?_
  refine V_iconst (v := 1) (dG D_L_law_8 45 rfl) (by decide) ?_
  refine V_iadd (dG D_L_law_8 46 rfl) ?_
  refine V_sld (j := 4 * j + 1) (dG D_L_law_8 47 rfl) (by rw [show nI (4 * j) + 1 = nI (4 * j + 1) from nI_add _ 1]; exact inr_nI (by omega) (by omega)) ?_
  refine V_aload_n (dG D_L_law_9 0 rfl) rfl ?_
  refine V_iload (dG D_L_law_9 1 rfl) rfl ?_
  refine V_iconst (v := 2) (dG D_L_law_9 2 rfl) (by decide) ?_
  refine V_iadd (dG D_L_law_9 3 rfl) ?_
  refine V_sld (j := 4 * j + 2) (dG D_L_law_9 4 rfl) (by rw [show nI (4 * j) + 2 = nI (4 * j + 2) from nI_add _ 2]; exact inr_nI (by omega) (by omega)) ?_
  refine R_vb2 (hM _) lk_L_130 (dG D_L_law_9 5 rfl) rcv_5 ⟨Nat.le_of_ble_eq_true rfl, Nat.le_of_ble_eq_true rfl⟩ ⟨by show kb + mc + 0 ≤ 601024; omega, by show nb + ms + 0 ≤ 7293034; omega⟩ (by simp [cat_int, cat_ref]) (fun h2 => ?_)
  refine V_istore (dG D_L_law_9 6 rfl) (by decide) ?_
  refine V_aload_n (dG D_L_law_9 7 rfl) rfl ?_
  refine R_vb0 om_thrown lk_L_92 (dG D_L_law_9 8 rfl) rcv_5 ⟨Nat.le_of_ble_eq_true rfl, Nat.le_of_ble_eq_true rfl⟩ ⟨by show kb + mc + 0 + 0 ≤ 601024; omega, by show nb + ms + 0 + 0 ≤ 7293034; omega⟩ (by simp [cat_int, cat_ref]) (fun h3 => ?_)
  refine V_iload (dG D_L_law_9 9 rfl) rfl ?_
  refine V_icmp_eq (tgt := 805) (dG D_L_law_9 10 rfl) (by decide) (fun _ => ?_) (fun z => absurd h31 z)
  refine V_iload (dG D_L_law_9 13 rfl) rfl ?_
  refine V_if_ne (tgt := 822) (dG D_L_law_9 14 rfl) (by decide) (fun _ => ?_) (fun hk0 => ?_)
  · refine V_goto (tgt := 1499) (dG D_L_law_9 24 rfl) (by decide) ?_
    exact V_sub [0, 1, 2, 3, 4] rfl (kont C' r.2 R' _ h3 _ _ hI (by omega) (by omega))
  · refine V_aload_n (dG D_L_law_9 15 rfl) rfl ?_
    refine V_iconst (v := 0) (dG D_L_law_9 16 rfl) (by decide) ?_
    refine V_lald0 (dG D_L_law_9 17 rfl) ?_
    refine V_iload (dG D_L_law_9 18 rfl) rfl ?_
    refine V_i2l (dG D_L_law_9 19 rfl) ?_
    refine V_lcmp (dG D_L_law_9 20 rfl) ?_
    refine V_if_eq (tgt := 822) (dG D_L_law_9 21 rfl) (by decide) (fun _ => ?_) (fun z => absurd (by rw [if_pos hk0, hv hk0]; exact lg_self _) z)
    refine V_goto (tgt := 1499) (dG D_L_law_9 24 rfl) (by decide) ?_
    exact V_sub [0, 1, 2, 3, 4] rfl (kont C' r.2 R' _ h3 _ _ hI (by omega) (by omega))
theorem lc_put {g : GT} {nt B R : Nat} {C M : St} {o : Int64} {h : Nat × Nat} {kb nb j b L : Nat} {xs : Nat → Int32} (hj : 4 * j + 4 ≤ L) (hL : L ≤ 2048)  (hCF : CF g K_X4_put K_X5_put [.int (xs (4 * j + 1)), .int (xs (4 * j + 2)), .int (xs (4 * j + 3))] [(1, IOE), (2, IAE)] nt B R C M) (kont : ∀ (C' M' : St) (R' : Nat) (o' : Int64) (h' : Nat × Nat) (kb' nb' : Nat), Inv nt (B + 100) R' C' M' → kb' + cap C ≤ kb + cap C' + 1 → nb' + 4 * cap C ≤ nb + 4 * cap C' + 6 → V g K_law room_1 (lawQ g b L xs) kb' nb' nt h' C' M' o' 1499 [(0, .ref b), (1, .ref (ad g 0)), (2, .ref (ad g 10)), (3, .ref (ad g 9)), (4, .int (nI (4 * j)))] []) (hk : kb + 5000 ≤ 601024) (hn : nb + 20000 ≤ 7293034) : V g K_law room_1 (lawQ g b L xs) kb nb nt h C M o 825 [(0, .ref b), (1, .ref (ad g 0)), (2, .ref (ad g 10)), (3, .ref (ad g 9)), (4, .int (nI (4 * j)))] [] := by
  obtain ⟨k, v, C', r, R', hO, hM, hI, h31, hv⟩ := hCF
  have hc25 := hI.cap25
  obtain ⟨mc, ms, m1, m2, hC⟩ := ow_put hO
  refine V_aload_n (dG D_L_law_9 25 rfl) rfl ?_
  refine V_aload_n (dG D_L_law_9 26 rfl) rfl ?_
  refine V_iload (dG D_L_law_9 27 rfl) rfl ?_
  refine V_iconst (v := 1) (dG D_L_law_9 28 rfl) (by decide) ?_
  refine V_iadd (dG D_L_law_9 29 rfl) ?_
  refine V_sld (j := 4 * j + 1) (dG D_L_law_9 30 rfl) (by rw [show nI (4 * j) + 1 = nI (4 * j + 1) from nI_add _ 1]; exact inr_nI (by omega) (by omega)) ?_
  refine V_aload_n (dG D_L_law_9 31 rfl) rfl ?_
  refine V_iload (dG D_L_law_9 32 rfl) rfl ?_
  refine V_iconst (v := 2) (dG D_L_law_9 33 rfl) (by decide) ?_
  refine V_iadd (dG D_L_law_9 34 rfl) ?_
  refine V_sld (j := 4 * j + 2) (dG D_L_law_9 35 rfl) (by rw [show nI (4 * j) + 2 = nI (4 * j + 2) from nI_add _ 2]; exact inr_nI (by omega) (by omega)) ?_
  refine V_aload_n (dG D_L_law_9 36 rfl) rfl ?_
  refine V_iload (dG D_L_law_9 37 rfl) rfl ?_
  refine V_iconst (v := 3) (dG D_L_law_9 38 rfl) (by decide) ?_
  refine V_iadd (dG D_L_law_9 39 rfl) ?_
  refine V_sld (j := 4 * j + 3) (dG D_L_law_9 40 rfl) (by rw [show nI (4 * j) + 3 = nI (4 * j + 3) from nI_add _ 3]; exact inr_nI (by omega) (by omega)) ?_
  refine V_aload_n (dG D_L_law_9 41 rfl) rfl ?_
  refine RH_call (hC o) lh_put (dG D_L_law_9 42 rfl) rfl ⟨Nat.le_of_ble_eq_true rfl, Nat.le_of_ble_eq_true rfl⟩ ⟨by show kb + mc ≤ 601024; omega, by show nb + ms ≤ 7293034; omega⟩ (by simp [cat_int, cat_ref]) (fun h1 => ?_) rfl
  refine V_istore (dG D_L_law_9 43 rfl) (by decide) ?_
  refine V_aload_n (dG D_L_law_9 44 rfl) rfl ?_
  refine V_aload_n (dG D_L_law_9 45 rfl) rfl ?_
  refine V_iload (dG D_L_law_9 46 rfl) rfl ?_
  refine V_iconst (v := 1) (dG D_L_law_9 47 rfl) (by decide) ?_
  refine V_iadd (dG D_L_law_10 0 rfl) ?_
  refine V_sld (j := 4 * j + 1) (dG D_L_law_10 1 rfl) (by rw [show nI (4 * j) + 1 = nI (4 * j + 1) from nI_add _ 1]; exact inr_nI (by omega) (by omega)) ?_
  refine V_aload_n (dG D_L_law_10 2 rfl) rfl ?_
  refine V_iload (dG D_L_law_10 3 rfl) rfl ?_
  refine V_iconst (v := 2) (dG D_L_law_10 4 rfl) (by decide) ?_
  refine V_iadd (dG D_L_law_10 5 rfl) ?_
  refine V_sld (j := 4 * j + 2) (dG D_L_law_10 6 rfl) (by rw [show nI (4 * j) + 2 = nI (4 * j + 2) from nI_add _ 2]; exact inr_nI (by omega) (by omega)) ?_
  refine V_aload_n (dG D_L_law_10 7 rfl) rfl ?_
  refine V_iload (dG D_L_law_10 8 rfl) rfl ?_
  refine V_iconst (v := 3) (dG D_L_law_10 9 rfl) (by decide) ?_
  refine V_iadd (dG D_L_law_10 10 rfl) ?_
  refine V_sld (j := 4 * j + 3) (dG D_L_law_10 11 rfl) (by rw [show nI (4 * j) + 3 = nI (4 * j + 3) from nI_add _ 3]; exact inr_nI (by omega) (by omega)) ?_
  refine R_vb3 (hM _) lk_L_134 (dG D_L_law_10 12 rfl) rcv_5 ⟨Nat.le_of_ble_eq_true rfl, Nat.le_of_ble_eq_true rfl⟩ ⟨by show kb + mc + 0 ≤ 601024; omega, by show nb + ms + 0 ≤ 7293034; omega⟩ (by simp [cat_int, cat_ref]) (fun h2 => ?_)
  refine V_istore (dG D_L_law_10 13 rfl) (by decide) ?_
  refine V_aload_n (dG D_L_law_10 14 rfl) rfl ?_
  refine R_vb0 om_thrown lk_L_92 (dG D_L_law_10 15 rfl) rcv_5 ⟨Nat.le_of_ble_eq_true rfl, Nat.le_of_ble_eq_true rfl⟩ ⟨by show kb + mc + 0 + 0 ≤ 601024; omega, by show nb + ms + 0 + 0 ≤ 7293034; omega⟩ (by simp [cat_int, cat_ref]) (fun h3 => ?_)
  refine V_iload (dG D_L_law_10 16 rfl) rfl ?_
  refine V_icmp_eq (tgt := 885) (dG D_L_law_10 17 rfl) (by decide) (fun _ => ?_) (fun z => absurd h31 z)
  refine V_iload (dG D_L_law_10 20 rfl) rfl ?_
  refine V_if_ne (tgt := 902) (dG D_L_law_10 21 rfl) (by decide) (fun _ => ?_) (fun hk0 => ?_)
  · refine V_goto (tgt := 1499) (dG D_L_law_10 31 rfl) (by decide) ?_
    exact V_sub [0, 1, 2, 3, 4] rfl (kont C' r.2 R' _ h3 _ _ hI (by omega) (by omega))
  · refine V_aload_n (dG D_L_law_10 22 rfl) rfl ?_
    refine V_iconst (v := 0) (dG D_L_law_10 23 rfl) (by decide) ?_
    refine V_lald0 (dG D_L_law_10 24 rfl) ?_
    refine V_iload (dG D_L_law_10 25 rfl) rfl ?_
    refine V_i2l (dG D_L_law_10 26 rfl) ?_
    refine V_lcmp (dG D_L_law_10 27 rfl) ?_
    refine V_if_eq (tgt := 902) (dG D_L_law_10 28 rfl) (by decide) (fun _ => ?_) (fun z => absurd (by rw [if_pos hk0, hv hk0]; exact lg_self _) z)
    refine V_goto (tgt := 1499) (dG D_L_law_10 31 rfl) (by decide) ?_
    exact V_sub [0, 1, 2, 3, 4] rfl (kont C' r.2 R' _ h3 _ _ hI (by omega) (by omega))
theorem lc_commit0 {g : GT} {nt B R : Nat} {C M : St} {o : Int64} {h : Nat × Nat} {kb nb j b L : Nat} {xs : Nat → Int32} (hj : 4 * j + 4 ≤ L) (hL : L ≤ 2048) (hz : xs (4 * j + 2) = 0) (hCF : CF g K_X4_commit K_X5_commit [.int (xs (4 * j + 1)), .int 0] [(1, IOE)] nt B R C M) (kont : ∀ (C' M' : St) (R' : Nat) (o' : Int64) (h' : Nat × Nat) (kb' nb' : Nat), Inv nt (B + 100) R' C' M' → kb' + cap C ≤ kb + cap C' + 1 → nb' + 4 * cap C ≤ nb + 4 * cap C' + 6 → V g K_law room_1 (lawQ g b L xs) kb' nb' nt h' C' M' o' 1499 [(0, .ref b), (1, .ref (ad g 0)), (2, .ref (ad g 10)), (3, .ref (ad g 9)), (4, .int (nI (4 * j)))] []) (hk : kb + 5000 ≤ 601024) (hn : nb + 20000 ≤ 7293034) : V g K_law room_1 (lawQ g b L xs) kb nb nt h C M o 905 [(0, .ref b), (1, .ref (ad g 0)), (2, .ref (ad g 10)), (3, .ref (ad g 9)), (4, .int (nI (4 * j)))] [] := by
  obtain ⟨k, v, C', r, R', hO, hM, hI, h31, hv⟩ := hCF
  have hc25 := hI.cap25
  obtain ⟨mc, ms, m1, m2, hC⟩ := ow_commit hO
  refine V_aload_n (dG D_L_law_10 32 rfl) rfl ?_
  refine V_aload_n (dG D_L_law_10 33 rfl) rfl ?_
  refine V_iload (dG D_L_law_10 34 rfl) rfl ?_
  refine V_iconst (v := 1) (dG D_L_law_10 35 rfl) (by decide) ?_
  refine V_iadd (dG D_L_law_10 36 rfl) ?_
  refine V_sld (j := 4 * j + 1) (dG D_L_law_10 37 rfl) (by rw [show nI (4 * j) + 1 = nI (4 * j + 1) from nI_add _ 1]; exact inr_nI (by omega) (by omega)) ?_
  refine V_aload_n (dG D_L_law_10 38 rfl) rfl ?_
  refine V_iload (dG D_L_law_10 39 rfl) rfl ?_
  refine V_iconst (v := 2) (dG D_L_law_10 40 rfl) (by decide) ?_
  refine V_iadd (dG D_L_law_10 41 rfl) ?_
  refine V_sld (j := 4 * j + 2) (dG D_L_law_10 42 rfl) (by rw [show nI (4 * j) + 2 = nI (4 * j + 2) from nI_add _ 2]; exact inr_nI (by omega) (by omega)) ?_
  refine V_if_eq (tgt := 925) (dG D_L_law_10 43 rfl) (by decide) (fun _ => ?_) (fun z => absurd hz z)
  refine V_iconst (v := 0) (dG D_L_law_10 46 rfl) (by decide) ?_
  refine V_aload_n (dG D_L_law_10 47 rfl) rfl ?_
  refine RH_call (hC o) lh_commit (dG D_L_law_11 0 rfl) rfl ⟨Nat.le_of_ble_eq_true rfl, Nat.le_of_ble_eq_true rfl⟩ ⟨by show kb + mc ≤ 601024; omega, by show nb + ms ≤ 7293034; omega⟩ (by simp [cat_int, cat_ref]) (fun h1 => ?_) rfl
  refine V_istore (dG D_L_law_11 1 rfl) (by decide) ?_
  refine V_aload_n (dG D_L_law_11 2 rfl) rfl ?_
  refine V_aload_n (dG D_L_law_11 3 rfl) rfl ?_
  refine V_iload (dG D_L_law_11 4 rfl) rfl ?_
  refine V_iconst (v := 1) (dG D_L_law_11 5 rfl) (by decide) ?_
  refine V_iadd (dG D_L_law_11 6 rfl) ?_
  refine V_sld (j := 4 * j + 1) (dG D_L_law_11 7 rfl) (by rw [show nI (4 * j) + 1 = nI (4 * j + 1) from nI_add _ 1]; exact inr_nI (by omega) (by omega)) ?_
  refine V_aload_n (dG D_L_law_11 8 rfl) rfl ?_
  refine V_iload (dG D_L_law_11 9 rfl) rfl ?_
  refine V_iconst (v := 2) (dG D_L_law_11 10 rfl) (by decide) ?_
  refine V_iadd (dG D_L_law_11 11 rfl) ?_
  refine V_sld (j := 4 * j + 2) (dG D_L_law_11 12 rfl) (by rw [show nI (4 * j) + 2 = nI (4 * j + 2) from nI_add _ 2]; exact inr_nI (by omega) (by omega)) ?_
  refine V_if_eq (tgt := 952) (dG D_L_law_11 13 rfl) (by decide) (fun _ => ?_) (fun z => absurd hz z)
  refine V_iconst (v := 0) (dG D_L_law_11 16 rfl) (by decide) ?_
  refine R_vb2 (hM _) lk_L_138 (dG D_L_law_11 17 rfl) rcv_5 ⟨Nat.le_of_ble_eq_true rfl, Nat.le_of_ble_eq_true rfl⟩ ⟨by show kb + mc + 0 ≤ 601024; omega, by show nb + ms + 0 ≤ 7293034; omega⟩ (by simp [cat_int, cat_ref]) (fun h2 => ?_)
  refine V_istore (dG D_L_law_11 18 rfl) (by decide) ?_
  refine V_aload_n (dG D_L_law_11 19 rfl) rfl ?_
  refine R_vb0 om_thrown lk_L_92 (dG D_L_law_11 20 rfl) rcv_5 ⟨Nat.le_of_ble_eq_true rfl, Nat.le_of_ble_eq_true rfl⟩ ⟨by show kb + mc + 0 + 0 ≤ 601024; omega, by show nb + ms + 0 + 0 ≤ 7293034; omega⟩ (by simp [cat_int, cat_ref]) (fun h3 => ?_)
  refine V_iload (dG D_L_law_11 21 rfl) rfl ?_
  refine V_icmp_eq (tgt := 969) (dG D_L_law_11 22 rfl) (by decide) (fun _ => ?_) (fun z => absurd h31 z)
  refine V_iload (dG D_L_law_11 25 rfl) rfl ?_
  refine V_if_ne (tgt := 986) (dG D_L_law_11 26 rfl) (by decide) (fun _ => ?_) (fun hk0 => ?_)
  · refine V_goto (tgt := 1499) (dG D_L_law_11 36 rfl) (by decide) ?_
    exact V_sub [0, 1, 2, 3, 4] rfl (kont C' r.2 R' _ h3 _ _ hI (by omega) (by omega))
  · refine V_aload_n (dG D_L_law_11 27 rfl) rfl ?_
    refine V_iconst (v := 0) (dG D_L_law_11 28 rfl) (by decide) ?_
    refine V_lald0 (dG D_L_law_11 29 rfl) ?_
    refine V_iload (dG D_L_law_11 30 rfl) rfl ?_
    refine V_i2l (dG D_L_law_11 31 rfl) ?_
    refine V_lcmp (dG D_L_law_11 32 rfl) ?_
    refine V_if_eq (tgt := 986) (dG D_L_law_11 33 rfl) (by decide) (fun _ => ?_) (fun z => absurd (by rw [if_pos hk0, hv hk0]; exact lg_self _) z)
    refine V_goto (tgt := 1499) (dG D_L_law_11 36 rfl) (by decide) ?_
    exact V_sub [0, 1, 2, 3, 4] rfl (kont C' r.2 R' _ h3 _ _ hI (by omega) (by omega))
theorem lc_commit1 {g : GT} {nt B R : Nat} {C M : St} {o : Int64} {h : Nat × Nat} {kb nb j b L : Nat} {xs : Nat → Int32} (hj : 4 * j + 4 ≤ L) (hL : L ≤ 2048) (hz : ¬ xs (4 * j + 2) = 0) (hCF : CF g K_X4_commit K_X5_commit [.int (xs (4 * j + 1)), .int 1] [(1, IOE)] nt B R C M) (kont : ∀ (C' M' : St) (R' : Nat) (o' : Int64) (h' : Nat × Nat) (kb' nb' : Nat), Inv nt (B + 100) R' C' M' → kb' + cap C ≤ kb + cap C' + 1 → nb' + 4 * cap C ≤ nb + 4 * cap C' + 6 → V g K_law room_1 (lawQ g b L xs) kb' nb' nt h' C' M' o' 1499 [(0, .ref b), (1, .ref (ad g 0)), (2, .ref (ad g 10)), (3, .ref (ad g 9)), (4, .int (nI (4 * j)))] []) (hk : kb + 5000 ≤ 601024) (hn : nb + 20000 ≤ 7293034) : V g K_law room_1 (lawQ g b L xs) kb nb nt h C M o 905 [(0, .ref b), (1, .ref (ad g 0)), (2, .ref (ad g 10)), (3, .ref (ad g 9)), (4, .int (nI (4 * j)))] [] := by
  obtain ⟨k, v, C', r, R', hO, hM, hI, h31, hv⟩ := hCF
  have hc25 := hI.cap25
  obtain ⟨mc, ms, m1, m2, hC⟩ := ow_commit hO
  refine V_aload_n (dG D_L_law_10 32 rfl) rfl ?_
  refine V_aload_n (dG D_L_law_10 33 rfl) rfl ?_
  refine V_iload (dG D_L_law_10 34 rfl) rfl ?_
  refine V_iconst (v := 1) (dG D_L_law_10 35 rfl) (by decide) ?_
  refine V_iadd (dG D_L_law_10 36 rfl) ?_
  refine V_sld (j := 4 * j + 1) (dG D_L_law_10 37 rfl) (by rw [show nI (4 * j) + 1 = nI (4 * j + 1) from nI_add _ 1]; exact inr_nI (by omega) (by omega)) ?_
  refine V_aload_n (dG D_L_law_10 38 rfl) rfl ?_
  refine V_iload (dG D_L_law_10 39 rfl) rfl ?_
  refine V_iconst (v := 2) (dG D_L_law_10 40 rfl) (by decide) ?_
  refine V_iadd (dG D_L_law_10 41 rfl) ?_
  refine V_sld (j := 4 * j + 2) (dG D_L_law_10 42 rfl) (by rw [show nI (4 * j) + 2 = nI (4 * j + 2) from nI_add _ 2]; exact inr_nI (by omega) (by omega)) ?_
  refine V_if_eq (tgt := 925) (dG D_L_law_10 43 rfl) (by decide) (fun z => absurd z hz) (fun _ => ?_)
  refine V_iconst (v := 1) (dG D_L_law_10 44 rfl) (by decide) ?_
  refine V_goto (tgt := 926) (dG D_L_law_10 45 rfl) (by decide) ?_
  refine V_aload_n (dG D_L_law_10 47 rfl) rfl ?_
  refine RH_call (hC o) lh_commit (dG D_L_law_11 0 rfl) rfl ⟨Nat.le_of_ble_eq_true rfl, Nat.le_of_ble_eq_true rfl⟩ ⟨by show kb + mc ≤ 601024; omega, by show nb + ms ≤ 7293034; omega⟩ (by simp [cat_int, cat_ref]) (fun h1 => ?_) rfl
  refine V_istore (dG D_L_law_11 1 rfl) (by decide) ?_
  refine V_aload_n (dG D_L_law_11 2 rfl) rfl ?_
  refine V_aload_n (dG D_L_law_11 3 rfl) rfl ?_
  refine V_iload (dG D_L_law_11 4 rfl) rfl ?_
  refine V_iconst (v := 1) (dG D_L_law_11 5 rfl) (by decide) ?_
  refine V_iadd (dG D_L_law_11 6 rfl) ?_
  refine V_sld (j := 4 * j + 1) (dG D_L_law_11 7 rfl) (by rw [show nI (4 * j) + 1 = nI (4 * j + 1) from nI_add _ 1]; exact inr_nI (by omega) (by omega)) ?_
  refine V_aload_n (dG D_L_law_11 8 rfl) rfl ?_
  refine V_iload (dG D_L_law_11 9 rfl) rfl ?_
  refine V_iconst (v := 2) (dG D_L_law_11 10 rfl) (by decide) ?_
  refine V_iadd (dG D_L_law_11 11 rfl) ?_
  refine V_sld (j := 4 * j + 2) (dG D_L_law_11 12 rfl) (by rw [show nI (4 * j) + 2 = nI (4 * j + 2) from nI_add _ 2]; exact inr_nI (by omega) (by omega)) ?_
  refine V_if_eq (tgt := 952) (dG D_L_law_11 13 rfl) (by decide) (fun z => absurd z hz) (fun _ => ?_)
  refine V_iconst (v := 1) (dG D_L_law_11 14 rfl) (by decide) ?_
  refine V_goto (tgt := 953) (dG D_L_law_11 15 rfl) (by decide) ?_
  refine R_vb2 (hM _) lk_L_138 (dG D_L_law_11 17 rfl) rcv_5 ⟨Nat.le_of_ble_eq_true rfl, Nat.le_of_ble_eq_true rfl⟩ ⟨by show kb + mc + 0 ≤ 601024; omega, by show nb + ms + 0 ≤ 7293034; omega⟩ (by simp [cat_int, cat_ref]) (fun h2 => ?_)
  refine V_istore (dG D_L_law_11 18 rfl) (by decide) ?_
  refine V_aload_n (dG D_L_law_11 19 rfl) rfl ?_
  refine R_vb0 om_thrown lk_L_92 (dG D_L_law_11 20 rfl) rcv_5 ⟨Nat.le_of_ble_eq_true rfl, Nat.le_of_ble_eq_true rfl⟩ ⟨by show kb + mc + 0 + 0 ≤ 601024; omega, by show nb + ms + 0 + 0 ≤ 7293034; omega⟩ (by simp [cat_int, cat_ref]) (fun h3 => ?_)
  refine V_iload (dG D_L_law_11 21 rfl) rfl ?_
  refine V_icmp_eq (tgt := 969) (dG D_L_law_11 22 rfl) (by decide) (fun _ => ?_) (fun z => absurd h31 z)
  refine V_iload (dG D_L_law_11 25 rfl) rfl ?_
  refine V_if_ne (tgt := 986) (dG D_L_law_11 26 rfl) (by decide) (fun _ => ?_) (fun hk0 => ?_)
  · refine V_goto (tgt := 1499) (dG D_L_law_11 36 rfl) (by decide) ?_
    exact V_sub [0, 1, 2, 3, 4] rfl (kont C' r.2 R' _ h3 _ _ hI (by omega) (by omega))
  · refine V_aload_n (dG D_L_law_11 27 rfl) rfl ?_
    refine V_iconst (v := 0) (dG D_L_law_11 28 rfl) (by decide) ?_
    refine V_lald0 (dG D_L_law_11 29 rfl) ?_
    refine V_iload (dG D_L_law_11 30 rfl) rfl ?_
    refine V_i2l (dG D_L_law_11 31 rfl) ?_
    refine V_lcmp (dG D_L_law_11 32 rfl) ?_
    refine V_if_eq (tgt := 986) (dG D_L_law_11 33 rfl) (by decide) (fun _ => ?_) (fun z => absurd (by rw [if_pos hk0, hv hk0]; exact lg_self _) z)
    refine V_goto (tgt := 1499) (dG D_L_law_11 36 rfl) (by decide) ?_
    exact V_sub [0, 1, 2, 3, 4] rfl (kont C' r.2 R' _ h3 _ _ hI (by omega) (by omega))
theorem lc_abort {g : GT} {nt B R : Nat} {C M : St} {o : Int64} {h : Nat × Nat} {kb nb j b L : Nat} {xs : Nat → Int32} (hj : 4 * j + 4 ≤ L) (hL : L ≤ 2048)  (hCF : CF g K_X4_abort K_X5_abort [.int (xs (4 * j + 1))] [(1, IOE)] nt B R C M) (kont : ∀ (C' M' : St) (R' : Nat) (o' : Int64) (h' : Nat × Nat) (kb' nb' : Nat), Inv nt (B + 100) R' C' M' → kb' + cap C ≤ kb + cap C' + 1 → nb' + 4 * cap C ≤ nb + 4 * cap C' + 6 → V g K_law room_1 (lawQ g b L xs) kb' nb' nt h' C' M' o' 1499 [(0, .ref b), (1, .ref (ad g 0)), (2, .ref (ad g 10)), (3, .ref (ad g 9)), (4, .int (nI (4 * j)))] []) (hk : kb + 5000 ≤ 601024) (hn : nb + 20000 ≤ 7293034) : V g K_law room_1 (lawQ g b L xs) kb nb nt h C M o 989 [(0, .ref b), (1, .ref (ad g 0)), (2, .ref (ad g 10)), (3, .ref (ad g 9)), (4, .int (nI (4 * j)))] [] := by
  obtain ⟨k, v, C', r, R', hO, hM, hI, h31, hv⟩ := hCF
  have hc25 := hI.cap25
  obtain ⟨mc, ms, m1, m2, hC⟩ := ow_abort hO
  refine V_aload_n (dG D_L_law_11 37 rfl) rfl ?_
  refine V_aload_n (dG D_L_law_11 38 rfl) rfl ?_
  refine V_iload (dG D_L_law_11 39 rfl) rfl ?_
  refine V_iconst (v := 1) (dG D_L_law_11 40 rfl) (by decide) ?_
  refine V_iadd (dG D_L_law_11 41 rfl) ?_
  refine V_sld (j := 4 * j + 1) (dG D_L_law_11 42 rfl) (by rw [show nI (4 * j) + 1 = nI (4 * j + 1) from nI_add _ 1]; exact inr_nI (by omega) (by omega)) ?_
  refine V_aload_n (dG D_L_law_11 43 rfl) rfl ?_
  refine RH_call (hC o) lh_abort (dG D_L_law_11 44 rfl) rfl ⟨Nat.le_of_ble_eq_true rfl, Nat.le_of_ble_eq_true rfl⟩ ⟨by show kb + mc ≤ 601024; omega, by show nb + ms ≤ 7293034; omega⟩ (by simp [cat_int, cat_ref]) (fun h1 => ?_) rfl
  refine V_istore (dG D_L_law_11 45 rfl) (by decide) ?_
  refine V_aload_n (dG D_L_law_11 46 rfl) rfl ?_
  refine V_aload_n (dG D_L_law_11 47 rfl) rfl ?_
  refine V_iload (dG D_L_law_12 0 rfl) rfl ?_
  refine V_iconst (v := 1) (dG D_L_law_12 1 rfl) (by decide) ?_
  refine V_iadd (dG D_L_law_12 2 rfl) ?_
  refine V_sld (j := 4 * j + 1) (dG D_L_law_12 3 rfl) (by rw [show nI (4 * j) + 1 = nI (4 * j + 1) from nI_add _ 1]; exact inr_nI (by omega) (by omega)) ?_
  refine R_vb1 (hM _) lk_L_141 (dG D_L_law_12 4 rfl) rcv_5 ⟨Nat.le_of_ble_eq_true rfl, Nat.le_of_ble_eq_true rfl⟩ ⟨by show kb + mc + 0 ≤ 601024; omega, by show nb + ms + 0 ≤ 7293034; omega⟩ (by simp [cat_int, cat_ref]) (fun h2 => ?_)
  refine V_istore (dG D_L_law_12 5 rfl) (by decide) ?_
  refine V_aload_n (dG D_L_law_12 6 rfl) rfl ?_
  refine R_vb0 om_thrown lk_L_92 (dG D_L_law_12 7 rfl) rcv_5 ⟨Nat.le_of_ble_eq_true rfl, Nat.le_of_ble_eq_true rfl⟩ ⟨by show kb + mc + 0 + 0 ≤ 601024; omega, by show nb + ms + 0 + 0 ≤ 7293034; omega⟩ (by simp [cat_int, cat_ref]) (fun h3 => ?_)
  refine V_iload (dG D_L_law_12 8 rfl) rfl ?_
  refine V_icmp_eq (tgt := 1025) (dG D_L_law_12 9 rfl) (by decide) (fun _ => ?_) (fun z => absurd h31 z)
  refine V_iload (dG D_L_law_12 12 rfl) rfl ?_
  refine V_if_ne (tgt := 1042) (dG D_L_law_12 13 rfl) (by decide) (fun _ => ?_) (fun hk0 => ?_)
  · refine V_goto (tgt := 1499) (dG D_L_law_12 23 rfl) (by decide) ?_
    exact V_sub [0, 1, 2, 3, 4] rfl (kont C' r.2 R' _ h3 _ _ hI (by omega) (by omega))
  · refine V_aload_n (dG D_L_law_12 14 rfl) rfl ?_
    refine V_iconst (v := 0) (dG D_L_law_12 15 rfl) (by decide) ?_
    refine V_lald0 (dG D_L_law_12 16 rfl) ?_
    refine V_iload (dG D_L_law_12 17 rfl) rfl ?_
    refine V_i2l (dG D_L_law_12 18 rfl) ?_
    refine V_lcmp (dG D_L_law_12 19 rfl) ?_
    refine V_if_eq (tgt := 1042) (dG D_L_law_12 20 rfl) (by decide) (fun _ => ?_) (fun z => absurd (by rw [if_pos hk0, hv hk0]; exact lg_self _) z)
    refine V_goto (tgt := 1499) (dG D_L_law_12 23 rfl) (by decide) ?_
    exact V_sub [0, 1, 2, 3, 4] rfl (kont C' r.2 R' _ h3 _ _ hI (by omega) (by omega))
theorem lc_recover {g : GT} {nt B R : Nat} {C M : St} {o : Int64} {h : Nat × Nat} {kb nb j b L : Nat} {xs : Nat → Int32} (hj : 4 * j + 4 ≤ L) (hL : L ≤ 2048)  (hCF : CF g K_X4_recover K_X5_recover [.int (xs (4 * j + 1))] [(1, IOE)] nt B R C M) (kont : ∀ (C' M' : St) (R' : Nat) (o' : Int64) (h' : Nat × Nat) (kb' nb' : Nat), Inv nt (B + 100) R' C' M' → kb' + cap C ≤ kb + cap C' + 1 → nb' + 4 * cap C ≤ nb + 4 * cap C' + 6 → V g K_law room_1 (lawQ g b L xs) kb' nb' nt h' C' M' o' 1499 [(0, .ref b), (1, .ref (ad g 0)), (2, .ref (ad g 10)), (3, .ref (ad g 9)), (4, .int (nI (4 * j)))] []) (hk : kb + 5000 ≤ 601024) (hn : nb + 20000 ≤ 7293034) : V g K_law room_1 (lawQ g b L xs) kb nb nt h C M o 1045 [(0, .ref b), (1, .ref (ad g 0)), (2, .ref (ad g 10)), (3, .ref (ad g 9)), (4, .int (nI (4 * j)))] [] := by
  obtain ⟨k, v, C', r, R', hO, hM, hI, h31, hv⟩ := hCF
  have hc25 := hI.cap25
  obtain ⟨mc, ms, m1, m2, hC⟩ := ow_recover hO
  refine V_aload_n (dG D_L_law_12 24 rfl) rfl ?_
  refine V_aload_n (dG D_L_law_12 25 rfl) rfl ?_
  refine V_iload (dG D_L_law_12 26 rfl) rfl ?_
  refine V_iconst (v := 1) (dG D_L_law_12 27 rfl) (by decide) ?_
  refine V_iadd (dG D_L_law_12 28 rfl) ?_
  refine V_sld (j := 4 * j + 1) (dG D_L_law_12 29 rfl) (by rw [show nI (4 * j) + 1 = nI (4 * j + 1) from nI_add _ 1]; exact inr_nI (by omega) (by omega)) ?_
  refine V_aload_n (dG D_L_law_12 30 rfl) rfl ?_
  refine RH_call (hC o) lh_recover (dG D_L_law_12 31 rfl) rfl ⟨Nat.le_of_ble_eq_true rfl, Nat.le_of_ble_eq_true rfl⟩ ⟨by show kb + mc ≤ 601024; omega, by show nb + ms ≤ 7293034; omega⟩ (by simp [cat_int, cat_ref]) (fun h1 => ?_) rfl
  refine V_istore (dG D_L_law_12 32 rfl) (by decide) ?_
  refine V_aload_n (dG D_L_law_12 33 rfl) rfl ?_
  refine V_aload_n (dG D_L_law_12 34 rfl) rfl ?_
  refine V_iload (dG D_L_law_12 35 rfl) rfl ?_
  refine V_iconst (v := 1) (dG D_L_law_12 36 rfl) (by decide) ?_
  refine V_iadd (dG D_L_law_12 37 rfl) ?_
  refine V_sld (j := 4 * j + 1) (dG D_L_law_12 38 rfl) (by rw [show nI (4 * j) + 1 = nI (4 * j + 1) from nI_add _ 1]; exact inr_nI (by omega) (by omega)) ?_
  refine R_vb1 (hM _) lk_L_144 (dG D_L_law_12 39 rfl) rcv_5 ⟨Nat.le_of_ble_eq_true rfl, Nat.le_of_ble_eq_true rfl⟩ ⟨by show kb + mc + 0 ≤ 601024; omega, by show nb + ms + 0 ≤ 7293034; omega⟩ (by simp [cat_int, cat_ref]) (fun h2 => ?_)
  refine V_istore (dG D_L_law_12 40 rfl) (by decide) ?_
  refine V_aload_n (dG D_L_law_12 41 rfl) rfl ?_
  refine R_vb0 om_thrown lk_L_92 (dG D_L_law_12 42 rfl) rcv_5 ⟨Nat.le_of_ble_eq_true rfl, Nat.le_of_ble_eq_true rfl⟩ ⟨by show kb + mc + 0 + 0 ≤ 601024; omega, by show nb + ms + 0 + 0 ≤ 7293034; omega⟩ (by simp [cat_int, cat_ref]) (fun h3 => ?_)
  refine V_iload (dG D_L_law_12 43 rfl) rfl ?_
  refine V_icmp_eq (tgt := 1081) (dG D_L_law_12 44 rfl) (by decide) (fun _ => ?_) (fun z => absurd h31 z)
  refine V_iload (dG D_L_law_12 47 rfl) rfl ?_
  refine V_if_ne (tgt := 1098) (dG D_L_law_13 0 rfl) (by decide) (fun _ => ?_) (fun hk0 => ?_)
  · refine V_goto (tgt := 1499) (dG D_L_law_13 10 rfl) (by decide) ?_
    exact V_sub [0, 1, 2, 3, 4] rfl (kont C' r.2 R' _ h3 _ _ hI (by omega) (by omega))
  · refine V_aload_n (dG D_L_law_13 1 rfl) rfl ?_
    refine V_iconst (v := 0) (dG D_L_law_13 2 rfl) (by decide) ?_
    refine V_lald0 (dG D_L_law_13 3 rfl) ?_
    refine V_iload (dG D_L_law_13 4 rfl) rfl ?_
    refine V_i2l (dG D_L_law_13 5 rfl) ?_
    refine V_lcmp (dG D_L_law_13 6 rfl) ?_
    refine V_if_eq (tgt := 1098) (dG D_L_law_13 7 rfl) (by decide) (fun _ => ?_) (fun z => absurd (by rw [if_pos hk0, hv hk0]; exact lg_self _) z)
    refine V_goto (tgt := 1499) (dG D_L_law_13 10 rfl) (by decide) ?_
    exact V_sub [0, 1, 2, 3, 4] rfl (kont C' r.2 R' _ h3 _ _ hI (by omega) (by omega))
theorem lc_beat {g : GT} {nt B R : Nat} {C M : St} {o : Int64} {h : Nat × Nat} {kb nb j b L : Nat} {xs : Nat → Int32} (hj : 4 * j + 4 ≤ L) (hL : L ≤ 2048)  (hCF : CF g K_X4_beat K_X5_beat [.int (xs (4 * j + 1))] [(1, IOE)] nt B R C M) (kont : ∀ (C' M' : St) (R' : Nat) (o' : Int64) (h' : Nat × Nat) (kb' nb' : Nat), Inv nt (B + 100) R' C' M' → kb' + cap C ≤ kb + cap C' + 1 → nb' + 4 * cap C ≤ nb + 4 * cap C' + 6 → V g K_law room_1 (lawQ g b L xs) kb' nb' nt h' C' M' o' 1499 [(0, .ref b), (1, .ref (ad g 0)), (2, .ref (ad g 10)), (3, .ref (ad g 9)), (4, .int (nI (4 * j)))] []) (hk : kb + 5000 ≤ 601024) (hn : nb + 20000 ≤ 7293034) : V g K_law room_1 (lawQ g b L xs) kb nb nt h C M o 1101 [(0, .ref b), (1, .ref (ad g 0)), (2, .ref (ad g 10)), (3, .ref (ad g 9)), (4, .int (nI (4 * j)))] [] := by
  obtain ⟨k, v, C', r, R', hO, hM, hI, h31, hv⟩ := hCF
  have hc25 := hI.cap25
  obtain ⟨mc, ms, m1, m2, hC⟩ := ow_beat hO
  refine V_aload_n (dG D_L_law_13 11 rfl) rfl ?_
  refine V_aload_n (dG D_L_law_13 12 rfl) rfl ?_
  refine V_iload (dG D_L_law_13 13 rfl) rfl ?_
  refine V_iconst (v := 1) (dG D_L_law_13 14 rfl) (by decide) ?_
  refine V_iadd (dG D_L_law_13 15 rfl) ?_
  refine V_sld (j := 4 * j + 1) (dG D_L_law_13 16 rfl) (by rw [show nI (4 * j) + 1 = nI (4 * j + 1) from nI_add _ 1]; exact inr_nI (by omega) (by omega)) ?_
  refine V_aload_n (dG D_L_law_13 17 rfl) rfl ?_
  refine RH_call (hC o) lh_beat (dG D_L_law_13 18 rfl) rfl ⟨Nat.le_of_ble_eq_true rfl, Nat.le_of_ble_eq_true rfl⟩ ⟨by show kb + mc ≤ 601024; omega, by show nb + ms ≤ 7293034; omega⟩ (by simp [cat_int, cat_ref]) (fun h1 => ?_) rfl
  refine V_istore (dG D_L_law_13 19 rfl) (by decide) ?_
  refine V_aload_n (dG D_L_law_13 20 rfl) rfl ?_
  refine V_aload_n (dG D_L_law_13 21 rfl) rfl ?_
  refine V_iload (dG D_L_law_13 22 rfl) rfl ?_
  refine V_iconst (v := 1) (dG D_L_law_13 23 rfl) (by decide) ?_
  refine V_iadd (dG D_L_law_13 24 rfl) ?_
  refine V_sld (j := 4 * j + 1) (dG D_L_law_13 25 rfl) (by rw [show nI (4 * j) + 1 = nI (4 * j + 1) from nI_add _ 1]; exact inr_nI (by omega) (by omega)) ?_
  refine R_vb1 (hM _) lk_L_147 (dG D_L_law_13 26 rfl) rcv_5 ⟨Nat.le_of_ble_eq_true rfl, Nat.le_of_ble_eq_true rfl⟩ ⟨by show kb + mc + 0 ≤ 601024; omega, by show nb + ms + 0 ≤ 7293034; omega⟩ (by simp [cat_int, cat_ref]) (fun h2 => ?_)
  refine V_istore (dG D_L_law_13 27 rfl) (by decide) ?_
  refine V_aload_n (dG D_L_law_13 28 rfl) rfl ?_
  refine R_vb0 om_thrown lk_L_92 (dG D_L_law_13 29 rfl) rcv_5 ⟨Nat.le_of_ble_eq_true rfl, Nat.le_of_ble_eq_true rfl⟩ ⟨by show kb + mc + 0 + 0 ≤ 601024; omega, by show nb + ms + 0 + 0 ≤ 7293034; omega⟩ (by simp [cat_int, cat_ref]) (fun h3 => ?_)
  refine V_iload (dG D_L_law_13 30 rfl) rfl ?_
  refine V_icmp_eq (tgt := 1137) (dG D_L_law_13 31 rfl) (by decide) (fun _ => ?_) (fun z => absurd h31 z)
  refine V_iload (dG D_L_law_13 34 rfl) rfl ?_
  refine V_if_ne (tgt := 1154) (dG D_L_law_13 35 rfl) (by decide) (fun _ => ?_) (fun hk0 => ?_)
  · refine V_goto (tgt := 1499) (dG D_L_law_13 45 rfl) (by decide) ?_
    exact V_sub [0, 1, 2, 3, 4] rfl (kont C' r.2 R' _ h3 _ _ hI (by omega) (by omega))
  · refine V_aload_n (dG D_L_law_13 36 rfl) rfl ?_
    refine V_iconst (v := 0) (dG D_L_law_13 37 rfl) (by decide) ?_
    refine V_lald0 (dG D_L_law_13 38 rfl) ?_
    refine V_iload (dG D_L_law_13 39 rfl) rfl ?_
    refine V_i2l (dG D_L_law_13 40 rfl) ?_
    refine V_lcmp (dG D_L_law_13 41 rfl) ?_
    refine V_if_eq (tgt := 1154) (dG D_L_law_13 42 rfl) (by decide) (fun _ => ?_) (fun z => absurd (by rw [if_pos hk0, hv hk0]; exact lg_self _) z)
    refine V_goto (tgt := 1499) (dG D_L_law_13 45 rfl) (by decide) ?_
    exact V_sub [0, 1, 2, 3, 4] rfl (kont C' r.2 R' _ h3 _ _ hI (by omega) (by omega))
theorem lc_told {g : GT} {nt B R : Nat} {C M : St} {o : Int64} {h : Nat × Nat} {kb nb j b L : Nat} {xs : Nat → Int32} (hj : 4 * j + 4 ≤ L) (hL : L ≤ 2048)  (hCF : CF g K_X4_told K_X5_told [.int (xs (4 * j + 1)), .int (xs (4 * j + 2))] [(1, IOE), (2, IAE)] nt B R C M) (kont : ∀ (C' M' : St) (R' : Nat) (o' : Int64) (h' : Nat × Nat) (kb' nb' : Nat), Inv nt (B + 100) R' C' M' → kb' + cap C ≤ kb + cap C' + 1 → nb' + 4 * cap C ≤ nb + 4 * cap C' + 6 → V g K_law room_1 (lawQ g b L xs) kb' nb' nt h' C' M' o' 1499 [(0, .ref b), (1, .ref (ad g 0)), (2, .ref (ad g 10)), (3, .ref (ad g 9)), (4, .int (nI (4 * j)))] []) (hk : kb + 5000 ≤ 601024) (hn : nb + 20000 ≤ 7293034) : V g K_law room_1 (lawQ g b L xs) kb nb nt h C M o 1157 [(0, .ref b), (1, .ref (ad g 0)), (2, .ref (ad g 10)), (3, .ref (ad g 9)), (4, .int (nI (4 * j)))] [] := by
  obtain ⟨k, v, C', r, R', hO, hM, hI, h31, hv⟩ := hCF
  have hc25 := hI.cap25
  obtain ⟨mc, ms, m1, m2, hC⟩ := ow_told hO
  refine V_aload_n (dG D_L_law_13 46 rfl) rfl ?_
  refine V_aload_n (dG D_L_law_13 47 rfl) rfl ?_
  refine V_iload (dG D_L_law_14 0 rfl) rfl ?_
  refine V_iconst (v := 1) (dG D_L_law_14 1 rfl) (by decide) ?_
  refine V_iadd (dG D_L_law_14 2 rfl) ?_
  refine V_sld (j := 4 * j + 1) (dG D_L_law_14 3 rfl) (by rw [show nI (4 * j) + 1 = nI (4 * j + 1) from nI_add _ 1]; exact inr_nI (by omega) (by omega)) ?_
  refine V_aload_n (dG D_L_law_14 4 rfl) rfl ?_
  refine V_iload (dG D_L_law_14 5 rfl) rfl ?_
  refine V_iconst (v := 2) (dG D_L_law_14 6 rfl) (by decide) ?_
  refine V_iadd (dG D_L_law_14 7 rfl) ?_
  refine V_sld (j := 4 * j + 2) (dG D_L_law_14 8 rfl) (by rw [show nI (4 * j) + 2 = nI (4 * j + 2) from nI_add _ 2]; exact inr_nI (by omega) (by omega)) ?_
  refine V_aload_n (dG D_L_law_14 9 rfl) rfl ?_
  refine RH_call (hC o) lh_told (dG D_L_law_14 10 rfl) rfl ⟨Nat.le_of_ble_eq_true rfl, Nat.le_of_ble_eq_true rfl⟩ ⟨by show kb + mc ≤ 601024; omega, by show nb + ms ≤ 7293034; omega⟩ (by simp [cat_int, cat_ref]) (fun h1 => ?_) rfl
  refine V_istore (dG D_L_law_14 11 rfl) (by decide) ?_
  refine V_aload_n (dG D_L_law_14 12 rfl) rfl ?_
  refine V_aload_n (dG D_L_law_14 13 rfl) rfl ?_
  refine V_iload (dG D_L_law_14 14 rfl) rfl ?_
  refine V_iconst (v := 1) (dG D_L_law_14 15 rfl) (by decide) ?_
  refine V_iadd (dG D_L_law_14 16 rfl) ?_
  refine V_sld (j := 4 * j + 1) (dG D_L_law_14 17 rfl) (by rw [show nI (4 * j) + 1 = nI (4 * j + 1) from nI_add _ 1]; exact inr_nI (by omega) (by omega)) ?_
  refine V_aload_n (dG D_L_law_14 18 rfl) rfl ?_
  refine V_iload (dG D_L_law_14 19 rfl) rfl ?_
  refine V_iconst (v := 2) (dG D_L_law_14 20 rfl) (by decide) ?_
  refine V_iadd (dG D_L_law_14 21 rfl) ?_
  refine V_sld (j := 4 * j + 2) (dG D_L_law_14 22 rfl) (by rw [show nI (4 * j) + 2 = nI (4 * j + 2) from nI_add _ 2]; exact inr_nI (by omega) (by omega)) ?_
  refine R_vb2 (hM _) lk_L_150 (dG D_L_law_14 23 rfl) rcv_5 ⟨Nat.le_of_ble_eq_true rfl, Nat.le_of_ble_eq_true rfl⟩ ⟨by show kb + mc + 0 ≤ 601024; omega, by show nb + ms + 0 ≤ 7293034; omega⟩ (by simp [cat_int, cat_ref]) (fun h2 => ?_)
  refine V_istore (dG D_L_law_14 24 rfl) (by decide) ?_
  refine V_aload_n (dG D_L_law_14 25 rfl) rfl ?_
  refine R_vb0 om_thrown lk_L_92 (dG D_L_law_14 26 rfl) rcv_5 ⟨Nat.le_of_ble_eq_true rfl, Nat.le_of_ble_eq_true rfl⟩ ⟨by show kb + mc + 0 + 0 ≤ 601024; omega, by show nb + ms + 0 + 0 ≤ 7293034; omega⟩ (by simp [cat_int, cat_ref]) (fun h3 => ?_)
  refine V_iload (dG D_L_law_14 27 rfl) rfl ?_
  refine V_icmp_eq (tgt := 1205) (dG D_L_law_14 28 rfl) (by decide) (fun _ => ?_) (fun z => absurd h31 z)
  refine V_iload (dG D_L_law_14 31 rfl) rfl ?_
  refine V_if_ne (tgt := 1222) (dG D_L_law_14 32 rfl) (by decide) (fun _ => ?_) (fun hk0 => ?_)
  · refine V_goto (tgt := 1499) (dG D_L_law_14 42 rfl) (by decide) ?_
    exact V_sub [0, 1, 2, 3, 4] rfl (kont C' r.2 R' _ h3 _ _ hI (by omega) (by omega))
  · refine V_aload_n (dG D_L_law_14 33 rfl) rfl ?_
    refine V_iconst (v := 0) (dG D_L_law_14 34 rfl) (by decide) ?_
    refine V_lald0 (dG D_L_law_14 35 rfl) ?_
    refine V_iload (dG D_L_law_14 36 rfl) rfl ?_
    refine V_i2l (dG D_L_law_14 37 rfl) ?_
    refine V_lcmp (dG D_L_law_14 38 rfl) ?_
    refine V_if_eq (tgt := 1222) (dG D_L_law_14 39 rfl) (by decide) (fun _ => ?_) (fun z => absurd (by rw [if_pos hk0, hv hk0]; exact lg_self _) z)
    refine V_goto (tgt := 1499) (dG D_L_law_14 42 rfl) (by decide) ?_
    exact V_sub [0, 1, 2, 3, 4] rfl (kont C' r.2 R' _ h3 _ _ hI (by omega) (by omega))
theorem lc_key {g : GT} {nt B R : Nat} {C M : St} {o : Int64} {h : Nat × Nat} {kb nb j b L : Nat} {xs : Nat → Int32} (hj : 4 * j + 4 ≤ L) (hL : L ≤ 2048)  (hCF : CF g K_X4_key K_X5_key [.int (xs (4 * j + 1)), .int (xs (4 * j + 2))] [(1, IOE), (2, IAE)] nt B R C M) (kont : ∀ (C' M' : St) (R' : Nat) (o' : Int64) (h' : Nat × Nat) (kb' nb' : Nat), Inv nt (B + 100) R' C' M' → kb' + cap C ≤ kb + cap C' + 1 → nb' + 4 * cap C ≤ nb + 4 * cap C' + 6 → V g K_law room_1 (lawQ g b L xs) kb' nb' nt h' C' M' o' 1499 [(0, .ref b), (1, .ref (ad g 0)), (2, .ref (ad g 10)), (3, .ref (ad g 9)), (4, .int (nI (4 * j)))] []) (hk : kb + 5000 ≤ 601024) (hn : nb + 20000 ≤ 7293034) : V g K_law room_1 (lawQ g b L xs) kb nb nt h C M o 1225 [(0, .ref b), (1, .ref (ad g 0)), (2, .ref (ad g 10)), (3, .ref (ad g 9)), (4, .int (nI (4 * j)))] [] := by
  obtain ⟨k, v, C', r, R', hO, hM, hI, h31, hv⟩ := hCF
  have hc25 := hI.cap25
  obtain ⟨mc, ms, m1, m2, hC⟩ := ow_key hO
  refine V_aload_n (dG D_L_law_14 43 rfl) rfl ?_
  refine V_aload_n (dG D_L_law_14 44 rfl) rfl ?_
  refine V_iload (dG D_L_law_14 45 rfl) rfl ?_
  refine V_iconst (v := 1) (dG D_L_law_14 46 rfl) (by decide) ?_
  refine V_iadd (dG D_L_law_14 47 rfl) ?_
  refine V_sld (j := 4 * j + 1) (dG D_L_law_15 0 rfl) (by rw [show nI (4 * j) + 1 = nI (4 * j + 1) from nI_add _ 1]; exact inr_nI (by omega) (by omega)) ?_
  refine V_aload_n (dG D_L_law_15 1 rfl) rfl ?_
  refine V_iload (dG D_L_law_15 2 rfl) rfl ?_
  refine V_iconst (v := 2) (dG D_L_law_15 3 rfl) (by decide) ?_
  refine V_iadd (dG D_L_law_15 4 rfl) ?_
  refine V_sld (j := 4 * j + 2) (dG D_L_law_15 5 rfl) (by rw [show nI (4 * j) + 2 = nI (4 * j + 2) from nI_add _ 2]; exact inr_nI (by omega) (by omega)) ?_
  refine V_aload_n (dG D_L_law_15 6 rfl) rfl ?_
  refine RH_call (hC o) lh_key (dG D_L_law_15 7 rfl) rfl ⟨Nat.le_of_ble_eq_true rfl, Nat.le_of_ble_eq_true rfl⟩ ⟨by show kb + mc ≤ 601024; omega, by show nb + ms ≤ 7293034; omega⟩ (by simp [cat_int, cat_ref]) (fun h1 => ?_) rfl
  refine V_istore (dG D_L_law_15 8 rfl) (by decide) ?_
  refine V_aload_n (dG D_L_law_15 9 rfl) rfl ?_
  refine V_aload_n (dG D_L_law_15 10 rfl) rfl ?_
  refine V_iload (dG D_L_law_15 11 rfl) rfl ?_
  refine V_iconst (v := 1) (dG D_L_law_15 12 rfl) (by decide) ?_
  refine V_iadd (dG D_L_law_15 13 rfl) ?_
  refine V_sld (j := 4 * j + 1) (dG D_L_law_15 14 rfl) (by rw [show nI (4 * j) + 1 = nI (4 * j + 1) from nI_add _ 1]; exact inr_nI (by omega) (by omega)) ?_
  refine V_aload_n (dG D_L_law_15 15 rfl) rfl ?_
  refine V_iload (dG D_L_law_15 16 rfl) rfl ?_
  refine V_iconst (v := 2) (dG D_L_law_15 17 rfl) (by decide) ?_
  refine V_iadd (dG D_L_law_15 18 rfl) ?_
  refine V_sld (j := 4 * j + 2) (dG D_L_law_15 19 rfl) (by rw [show nI (4 * j) + 2 = nI (4 * j + 2) from nI_add _ 2]; exact inr_nI (by omega) (by omega)) ?_
  refine R_vb2 (hM _) lk_L_153 (dG D_L_law_15 20 rfl) rcv_5 ⟨Nat.le_of_ble_eq_true rfl, Nat.le_of_ble_eq_true rfl⟩ ⟨by show kb + mc + 0 ≤ 601024; omega, by show nb + ms + 0 ≤ 7293034; omega⟩ (by simp [cat_int, cat_ref]) (fun h2 => ?_)
  refine V_istore (dG D_L_law_15 21 rfl) (by decide) ?_
  refine V_aload_n (dG D_L_law_15 22 rfl) rfl ?_
  refine R_vb0 om_thrown lk_L_92 (dG D_L_law_15 23 rfl) rcv_5 ⟨Nat.le_of_ble_eq_true rfl, Nat.le_of_ble_eq_true rfl⟩ ⟨by show kb + mc + 0 + 0 ≤ 601024; omega, by show nb + ms + 0 + 0 ≤ 7293034; omega⟩ (by simp [cat_int, cat_ref]) (fun h3 => ?_)
  refine V_iload (dG D_L_law_15 24 rfl) rfl ?_
  refine V_icmp_eq (tgt := 1273) (dG D_L_law_15 25 rfl) (by decide) (fun _ => ?_) (fun z => absurd h31 z)
  refine V_iload (dG D_L_law_15 28 rfl) rfl ?_
  refine V_if_ne (tgt := 1290) (dG D_L_law_15 29 rfl) (by decide) (fun _ => ?_) (fun hk0 => ?_)
  · refine V_goto (tgt := 1499) (dG D_L_law_15 39 rfl) (by decide) ?_
    exact V_sub [0, 1, 2, 3, 4] rfl (kont C' r.2 R' _ h3 _ _ hI (by omega) (by omega))
  · refine V_aload_n (dG D_L_law_15 30 rfl) rfl ?_
    refine V_iconst (v := 0) (dG D_L_law_15 31 rfl) (by decide) ?_
    refine V_lald0 (dG D_L_law_15 32 rfl) ?_
    refine V_iload (dG D_L_law_15 33 rfl) rfl ?_
    refine V_i2l (dG D_L_law_15 34 rfl) ?_
    refine V_lcmp (dG D_L_law_15 35 rfl) ?_
    refine V_if_eq (tgt := 1290) (dG D_L_law_15 36 rfl) (by decide) (fun _ => ?_) (fun z => absurd (by rw [if_pos hk0, hv hk0]; exact lg_self _) z)
    refine V_goto (tgt := 1499) (dG D_L_law_15 39 rfl) (by decide) ?_
    exact V_sub [0, 1, 2, 3, 4] rfl (kont C' r.2 R' _ h3 _ _ hI (by omega) (by omega))
theorem lc_asOf {g : GT} {nt B R : Nat} {C M : St} {o : Int64} {h : Nat × Nat} {kb nb j b L : Nat} {xs : Nat → Int32} (hj : 4 * j + 4 ≤ L) (hL : L ≤ 2048)  (hCF : CF g K_X4_asOf K_X5_asOf [.int (xs (4 * j + 1)), .int (xs (4 * j + 2))] [(1, IOE), (2, IAE)] nt B R C M) (kont : ∀ (C' M' : St) (R' : Nat) (o' : Int64) (h' : Nat × Nat) (kb' nb' : Nat), Inv nt (B + 100) R' C' M' → kb' + cap C ≤ kb + cap C' + 1 → nb' + 4 * cap C ≤ nb + 4 * cap C' + 6 → V g K_law room_1 (lawQ g b L xs) kb' nb' nt h' C' M' o' 1499 [(0, .ref b), (1, .ref (ad g 0)), (2, .ref (ad g 10)), (3, .ref (ad g 9)), (4, .int (nI (4 * j)))] []) (hk : kb + 5000 ≤ 601024) (hn : nb + 20000 ≤ 7293034) : V g K_law room_1 (lawQ g b L xs) kb nb nt h C M o 1293 [(0, .ref b), (1, .ref (ad g 0)), (2, .ref (ad g 10)), (3, .ref (ad g 9)), (4, .int (nI (4 * j)))] [] := by
  obtain ⟨k, v, C', r, R', hO, hM, hI, h31, hv⟩ := hCF
  have hc25 := hI.cap25
  obtain ⟨mc, ms, m1, m2, hC⟩ := ow_asOf hO
  refine V_aload_n (dG D_L_law_15 40 rfl) rfl ?_
  refine V_aload_n (dG D_L_law_15 41 rfl) rfl ?_
  refine V_iload (dG D_L_law_15 42 rfl) rfl ?_
  refine V_iconst (v := 1) (dG D_L_law_15 43 rfl) (by decide) ?_
  refine V_iadd (dG D_L_law_15 44 rfl) ?_
  refine V_sld (j := 4 * j + 1) (dG D_L_law_15 45 rfl) (by rw [show nI (4 * j) + 1 = nI (4 * j + 1) from nI_add _ 1]; exact inr_nI (by omega) (by omega)) ?_
  refine V_aload_n (dG D_L_law_15 46 rfl) rfl ?_
  refine V_iload (dG D_L_law_15 47 rfl) rfl ?_
  refine V_iconst (v := 2) (dG D_L_law_16 0 rfl) (by decide) ?_
  refine V_iadd (dG D_L_law_16 1 rfl) ?_
  refine V_sld (j := 4 * j + 2) (dG D_L_law_16 2 rfl) (by rw [show nI (4 * j) + 2 = nI (4 * j + 2) from nI_add _ 2]; exact inr_nI (by omega) (by omega)) ?_
  refine V_aload_n (dG D_L_law_16 3 rfl) rfl ?_
  refine RH_call (hC o) lh_asOf (dG D_L_law_16 4 rfl) rfl ⟨Nat.le_of_ble_eq_true rfl, Nat.le_of_ble_eq_true rfl⟩ ⟨by show kb + mc ≤ 601024; omega, by show nb + ms ≤ 7293034; omega⟩ (by simp [cat_int, cat_ref]) (fun h1 => ?_) rfl
  refine V_istore (dG D_L_law_16 5 rfl) (by decide) ?_
  refine V_aload_n (dG D_L_law_16 6 rfl) rfl ?_
  refine V_aload_n (dG D_L_law_16 7 rfl) rfl ?_
  refine V_iload (dG D_L_law_16 8 rfl) rfl ?_
  refine V_iconst (v := 1) (dG D_L_law_16 9 rfl) (by decide) ?_
  refine V_iadd (dG D_L_law_16 10 rfl) ?_
  refine V_sld (j := 4 * j + 1) (dG D_L_law_16 11 rfl) (by rw [show nI (4 * j) + 1 = nI (4 * j + 1) from nI_add _ 1]; exact inr_nI (by omega) (by omega)) ?_
  refine V_aload_n (dG D_L_law_16 12 rfl) rfl ?_
  refine V_iload (dG D_L_law_16 13 rfl) rfl ?_
  refine V_iconst (v := 2) (dG D_L_law_16 14 rfl) (by decide) ?_
  refine V_iadd (dG D_L_law_16 15 rfl) ?_
  refine V_sld (j := 4 * j + 2) (dG D_L_law_16 16 rfl) (by rw [show nI (4 * j) + 2 = nI (4 * j + 2) from nI_add _ 2]; exact inr_nI (by omega) (by omega)) ?_
  refine R_vb2 (hM _) lk_L_156 (dG D_L_law_16 17 rfl) rcv_5 ⟨Nat.le_of_ble_eq_true rfl, Nat.le_of_ble_eq_true rfl⟩ ⟨by show kb + mc + 0 ≤ 601024; omega, by show nb + ms + 0 ≤ 7293034; omega⟩ (by simp [cat_int, cat_ref]) (fun h2 => ?_)
  refine V_istore (dG D_L_law_16 18 rfl) (by decide) ?_
  refine V_aload_n (dG D_L_law_16 19 rfl) rfl ?_
  refine R_vb0 om_thrown lk_L_92 (dG D_L_law_16 20 rfl) rcv_5 ⟨Nat.le_of_ble_eq_true rfl, Nat.le_of_ble_eq_true rfl⟩ ⟨by show kb + mc + 0 + 0 ≤ 601024; omega, by show nb + ms + 0 + 0 ≤ 7293034; omega⟩ (by simp [cat_int, cat_ref]) (fun h3 => ?_)
  refine V_iload (dG D_L_law_16 21 rfl) rfl ?_
  refine V_icmp_eq (tgt := 1341) (dG D_L_law_16 22 rfl) (by decide) (fun _ => ?_) (fun z => absurd h31 z)
  refine V_iload (dG D_L_law_16 25 rfl) rfl ?_
  refine V_if_ne (tgt := 1358) (dG D_L_law_16 26 rfl) (by decide) (fun _ => ?_) (fun hk0 => ?_)
  · refine V_goto (tgt := 1499) (dG D_L_law_16 36 rfl) (by decide) ?_
    exact V_sub [0, 1, 2, 3, 4] rfl (kont C' r.2 R' _ h3 _ _ hI (by omega) (by omega))
  · refine V_aload_n (dG D_L_law_16 27 rfl) rfl ?_
    refine V_iconst (v := 0) (dG D_L_law_16 28 rfl) (by decide) ?_
    refine V_lald0 (dG D_L_law_16 29 rfl) ?_
    refine V_iload (dG D_L_law_16 30 rfl) rfl ?_
    refine V_i2l (dG D_L_law_16 31 rfl) ?_
    refine V_lcmp (dG D_L_law_16 32 rfl) ?_
    refine V_if_eq (tgt := 1358) (dG D_L_law_16 33 rfl) (by decide) (fun _ => ?_) (fun z => absurd (by rw [if_pos hk0, hv hk0]; exact lg_self _) z)
    refine V_goto (tgt := 1499) (dG D_L_law_16 36 rfl) (by decide) ?_
    exact V_sub [0, 1, 2, 3, 4] rfl (kont C' r.2 R' _ h3 _ _ hI (by omega) (by omega))
theorem lc_resolved {g : GT} {nt B R : Nat} {C M : St} {o : Int64} {h : Nat × Nat} {kb nb j b L : Nat} {xs : Nat → Int32} (hj : 4 * j + 4 ≤ L) (hL : L ≤ 2048)  (hCF : CF g K_X4_resolved K_X5_resolved [] [] nt B R C M) (kont : ∀ (C' M' : St) (R' : Nat) (o' : Int64) (h' : Nat × Nat) (kb' nb' : Nat), Inv nt (B + 100) R' C' M' → kb' + cap C ≤ kb + cap C' + 1 → nb' + 4 * cap C ≤ nb + 4 * cap C' + 6 → V g K_law room_1 (lawQ g b L xs) kb' nb' nt h' C' M' o' 1499 [(0, .ref b), (1, .ref (ad g 0)), (2, .ref (ad g 10)), (3, .ref (ad g 9)), (4, .int (nI (4 * j)))] []) (hk : kb + 5000 ≤ 601024) (hn : nb + 20000 ≤ 7293034) : V g K_law room_1 (lawQ g b L xs) kb nb nt h C M o 1361 [(0, .ref b), (1, .ref (ad g 0)), (2, .ref (ad g 10)), (3, .ref (ad g 9)), (4, .int (nI (4 * j)))] [] := by
  obtain ⟨k, v, C', r, R', hO, hM, hI, h31, hv⟩ := hCF
  have hc25 := hI.cap25
  obtain ⟨rfl, mc, ms, m1, m2, hC⟩ := hO.resolve_right (fun z => by obtain ⟨-, E, hE, -⟩ := z; cases hE)
  refine V_aload_n (dG D_L_law_16 37 rfl) rfl ?_
  refine R_vb0 (hC o) lk_L_157 (dG D_L_law_16 38 rfl) rcv_4 ⟨Nat.le_of_ble_eq_true rfl, Nat.le_of_ble_eq_true rfl⟩ ⟨by show kb + mc ≤ 601024; omega, by show nb + ms ≤ 7293034; omega⟩ (by simp [cat_int, cat_ref]) (fun h1 => ?_)
  refine V_aload_n (dG D_L_law_16 39 rfl) rfl ?_
  refine R_vb0 (hM o) lk_L_160 (dG D_L_law_16 40 rfl) rcv_5 ⟨Nat.le_of_ble_eq_true rfl, Nat.le_of_ble_eq_true rfl⟩ ⟨by show kb + mc + 0 ≤ 601024; omega, by show nb + ms + 0 ≤ 7293034; omega⟩ (by simp [cat_int, cat_ref]) (fun h2 => ?_)
  refine V_icmp_eq (tgt := 1499) (dG D_L_law_16 41 rfl) (by decide) (fun _ => ?_) (fun z => absurd (hv rfl).symm z)
  exact kont C' r.2 R' o h2 _ _ hI (by omega) (by omega)
theorem lc_feed {g : GT} {nt B R : Nat} {C M : St} {o : Int64} {h : Nat × Nat} {kb nb j b L : Nat} {xs : Nat → Int32} (hj : 4 * j + 4 ≤ L) (hL : L ≤ 2048)  (hCF : CF g K_X4_feed K_X5_feed [.int (xs (4 * j + 1))] [(1, IOE)] nt B R C M) (kont : ∀ (C' M' : St) (R' : Nat) (o' : Int64) (h' : Nat × Nat) (kb' nb' : Nat), Inv nt (B + 100) R' C' M' → kb' + cap C ≤ kb + cap C' + 1 → nb' + 4 * cap C ≤ nb + 4 * cap C' + 6 → V g K_law room_1 (lawQ g b L xs) kb' nb' nt h' C' M' o' 1499 [(0, .ref b), (1, .ref (ad g 0)), (2, .ref (ad g 10)), (3, .ref (ad g 9)), (4, .int (nI (4 * j)))] []) (hk : kb + 5000 ≤ 601024) (hn : nb + 20000 ≤ 7293034) : V g K_law room_1 (lawQ g b L xs) kb nb nt h C M o 1374 [(0, .ref b), (1, .ref (ad g 0)), (2, .ref (ad g 10)), (3, .ref (ad g 9)), (4, .int (nI (4 * j)))] [] := by
  obtain ⟨k, v, C', r, R', hO, hM, hI, h31, hv⟩ := hCF
  have hc25 := hI.cap25
  obtain ⟨mc, ms, m1, m2, hC⟩ := ow_feed hO
  refine V_aload_n (dG D_L_law_16 44 rfl) rfl ?_
  refine V_aload_n (dG D_L_law_16 45 rfl) rfl ?_
  refine V_iload (dG D_L_law_16 46 rfl) rfl ?_
  refine V_iconst (v := 1) (dG D_L_law_16 47 rfl) (by decide) ?_
  refine V_iadd (dG D_L_law_17 0 rfl) ?_
  refine V_sld (j := 4 * j + 1) (dG D_L_law_17 1 rfl) (by rw [show nI (4 * j) + 1 = nI (4 * j + 1) from nI_add _ 1]; exact inr_nI (by omega) (by omega)) ?_
  refine V_aload_n (dG D_L_law_17 2 rfl) rfl ?_
  refine RH_call (hC o) lh_feed (dG D_L_law_17 3 rfl) rfl ⟨Nat.le_of_ble_eq_true rfl, Nat.le_of_ble_eq_true rfl⟩ ⟨by show kb + mc ≤ 601024; omega, by show nb + ms ≤ 7293034; omega⟩ (by simp [cat_int, cat_ref]) (fun h1 => ?_) rfl
  refine V_istore (dG D_L_law_17 4 rfl) (by decide) ?_
  refine V_aload_n (dG D_L_law_17 5 rfl) rfl ?_
  refine V_aload_n (dG D_L_law_17 6 rfl) rfl ?_
  refine V_iload (dG D_L_law_17 7 rfl) rfl ?_
  refine V_iconst (v := 1) (dG D_L_law_17 8 rfl) (by decide) ?_
  refine V_iadd (dG D_L_law_17 9 rfl) ?_
  refine V_sld (j := 4 * j + 1) (dG D_L_law_17 10 rfl) (by rw [show nI (4 * j) + 1 = nI (4 * j + 1) from nI_add _ 1]; exact inr_nI (by omega) (by omega)) ?_
  refine R_vb1 (hM _) lk_L_163 (dG D_L_law_17 11 rfl) rcv_5 ⟨Nat.le_of_ble_eq_true rfl, Nat.le_of_ble_eq_true rfl⟩ ⟨by show kb + mc + 0 ≤ 601024; omega, by show nb + ms + 0 ≤ 7293034; omega⟩ (by simp [cat_int, cat_ref]) (fun h2 => ?_)
  refine V_istore (dG D_L_law_17 12 rfl) (by decide) ?_
  refine V_aload_n (dG D_L_law_17 13 rfl) rfl ?_
  refine R_vb0 om_thrown lk_L_92 (dG D_L_law_17 14 rfl) rcv_5 ⟨Nat.le_of_ble_eq_true rfl, Nat.le_of_ble_eq_true rfl⟩ ⟨by show kb + mc + 0 + 0 ≤ 601024; omega, by show nb + ms + 0 + 0 ≤ 7293034; omega⟩ (by simp [cat_int, cat_ref]) (fun h3 => ?_)
  refine V_iload (dG D_L_law_17 15 rfl) rfl ?_
  refine V_icmp_eq (tgt := 1410) (dG D_L_law_17 16 rfl) (by decide) (fun _ => ?_) (fun z => absurd h31 z)
  refine V_iload (dG D_L_law_17 19 rfl) rfl ?_
  refine V_if_ne (tgt := 1427) (dG D_L_law_17 20 rfl) (by decide) (fun _ => ?_) (fun hk0 => ?_)
  · refine V_goto (tgt := 1499) (dG D_L_law_17 30 rfl) (by decide) ?_
    exact V_sub [0, 1, 2, 3, 4] rfl (kont C' r.2 R' _ h3 _ _ hI (by omega) (by omega))
  · refine V_aload_n (dG D_L_law_17 21 rfl) rfl ?_
    refine V_iconst (v := 0) (dG D_L_law_17 22 rfl) (by decide) ?_
    refine V_lald0 (dG D_L_law_17 23 rfl) ?_
    refine V_iload (dG D_L_law_17 24 rfl) rfl ?_
    refine V_i2l (dG D_L_law_17 25 rfl) ?_
    refine V_lcmp (dG D_L_law_17 26 rfl) ?_
    refine V_if_eq (tgt := 1427) (dG D_L_law_17 27 rfl) (by decide) (fun _ => ?_) (fun z => absurd (by rw [if_pos hk0, hv hk0]; exact lg_self _) z)
    refine V_goto (tgt := 1499) (dG D_L_law_17 30 rfl) (by decide) ?_
    exact V_sub [0, 1, 2, 3, 4] rfl (kont C' r.2 R' _ h3 _ _ hI (by omega) (by omega))
theorem lc_order {g : GT} {nt B R : Nat} {C M : St} {o : Int64} {h : Nat × Nat} {kb nb j b L : Nat} {xs : Nat → Int32} (hj : 4 * j + 4 ≤ L) (hL : L ≤ 2048)  (hCF : CF g K_X4_order K_X5_order [.int (xs (4 * j + 1))] [(1, IOE)] nt B R C M) (kont : ∀ (C' M' : St) (R' : Nat) (o' : Int64) (h' : Nat × Nat) (kb' nb' : Nat), Inv nt (B + 100) R' C' M' → kb' + cap C ≤ kb + cap C' + 1 → nb' + 4 * cap C ≤ nb + 4 * cap C' + 6 → V g K_law room_1 (lawQ g b L xs) kb' nb' nt h' C' M' o' 1499 [(0, .ref b), (1, .ref (ad g 0)), (2, .ref (ad g 10)), (3, .ref (ad g 9)), (4, .int (nI (4 * j)))] []) (hk : kb + 5000 ≤ 601024) (hn : nb + 20000 ≤ 7293034) : V g K_law room_1 (lawQ g b L xs) kb nb nt h C M o 1430 [(0, .ref b), (1, .ref (ad g 0)), (2, .ref (ad g 10)), (3, .ref (ad g 9)), (4, .int (nI (4 * j)))] [] := by
  obtain ⟨k, v, C', r, R', hO, hM, hI, h31, hv⟩ := hCF
  have hc25 := hI.cap25
  obtain ⟨mc, ms, m1, m2, hC⟩ := ow_order hO
  refine V_aload_n (dG D_L_law_17 31 rfl) rfl ?_
  refine V_aload_n (dG D_L_law_17 32 rfl) rfl ?_
  refine V_iload (dG D_L_law_17 33 rfl) rfl ?_
  refine V_iconst (v := 1) (dG D_L_law_17 34 rfl) (by decide) ?_
  refine V_iadd (dG D_L_law_17 35 rfl) ?_
  refine V_sld (j := 4 * j + 1) (dG D_L_law_17 36 rfl) (by rw [show nI (4 * j) + 1 = nI (4 * j + 1) from nI_add _ 1]; exact inr_nI (by omega) (by omega)) ?_
  refine V_aload_n (dG D_L_law_17 37 rfl) rfl ?_
  refine RH_call (hC o) lh_order (dG D_L_law_17 38 rfl) rfl ⟨Nat.le_of_ble_eq_true rfl, Nat.le_of_ble_eq_true rfl⟩ ⟨by show kb + mc ≤ 601024; omega, by show nb + ms ≤ 7293034; omega⟩ (by simp [cat_int, cat_ref]) (fun h1 => ?_) rfl
  refine V_istore (dG D_L_law_17 39 rfl) (by decide) ?_
  refine V_aload_n (dG D_L_law_17 40 rfl) rfl ?_
  refine V_aload_n (dG D_L_law_17 41 rfl) rfl ?_
  refine V_iload (dG D_L_law_17 42 rfl) rfl ?_
  refine V_iconst (v := 1) (dG D_L_law_17 43 rfl) (by decide) ?_
  refine V_iadd (dG D_L_law_17 44 rfl) ?_
  refine V_sld (j := 4 * j + 1) (dG D_L_law_17 45 rfl) (by rw [show nI (4 * j) + 1 = nI (4 * j + 1) from nI_add _ 1]; exact inr_nI (by omega) (by omega)) ?_
  refine R_vb1 (hM _) lk_L_166 (dG D_L_law_17 46 rfl) rcv_5 ⟨Nat.le_of_ble_eq_true rfl, Nat.le_of_ble_eq_true rfl⟩ ⟨by show kb + mc + 0 ≤ 601024; omega, by show nb + ms + 0 ≤ 7293034; omega⟩ (by simp [cat_int, cat_ref]) (fun h2 => ?_)
  refine V_istore (dG D_L_law_17 47 rfl) (by decide) ?_
  refine V_aload_n (dG D_L_law_18 0 rfl) rfl ?_
  refine R_vb0 om_thrown lk_L_92 (dG D_L_law_18 1 rfl) rcv_5 ⟨Nat.le_of_ble_eq_true rfl, Nat.le_of_ble_eq_true rfl⟩ ⟨by show kb + mc + 0 + 0 ≤ 601024; omega, by show nb + ms + 0 + 0 ≤ 7293034; omega⟩ (by simp [cat_int, cat_ref]) (fun h3 => ?_)
  refine V_iload (dG D_L_law_18 2 rfl) rfl ?_
  refine V_icmp_eq (tgt := 1466) (dG D_L_law_18 3 rfl) (by decide) (fun _ => ?_) (fun z => absurd h31 z)
  refine V_iload (dG D_L_law_18 6 rfl) rfl ?_
  refine V_if_ne (tgt := 1483) (dG D_L_law_18 7 rfl) (by decide) (fun _ => ?_) (fun hk0 => ?_)
  · refine V_goto (tgt := 1499) (dG D_L_law_18 17 rfl) (by decide) ?_
    exact V_sub [0, 1, 2, 3, 4] rfl (kont C' r.2 R' _ h3 _ _ hI (by omega) (by omega))
  · refine V_aload_n (dG D_L_law_18 8 rfl) rfl ?_
    refine V_iconst (v := 0) (dG D_L_law_18 9 rfl) (by decide) ?_
    refine V_lald0 (dG D_L_law_18 10 rfl) ?_
    refine V_iload (dG D_L_law_18 11 rfl) rfl ?_
    refine V_i2l (dG D_L_law_18 12 rfl) ?_
    refine V_lcmp (dG D_L_law_18 13 rfl) ?_
    refine V_if_eq (tgt := 1483) (dG D_L_law_18 14 rfl) (by decide) (fun _ => ?_) (fun z => absurd (by rw [if_pos hk0, hv hk0]; exact lg_self _) z)
    refine V_goto (tgt := 1499) (dG D_L_law_18 17 rfl) (by decide) ?_
    exact V_sub [0, 1, 2, 3, 4] rfl (kont C' r.2 R' _ h3 _ _ hI (by omega) (by omega))
theorem lc_judged {g : GT} {nt B R : Nat} {C M : St} {o : Int64} {h : Nat × Nat} {kb nb j b L : Nat} {xs : Nat → Int32} (hj : 4 * j + 4 ≤ L) (hL : L ≤ 2048)  (hCF : CF g K_X4_judged K_X5_judged [] [] nt B R C M) (kont : ∀ (C' M' : St) (R' : Nat) (o' : Int64) (h' : Nat × Nat) (kb' nb' : Nat), Inv nt (B + 100) R' C' M' → kb' + cap C ≤ kb + cap C' + 1 → nb' + 4 * cap C ≤ nb + 4 * cap C' + 6 → V g K_law room_1 (lawQ g b L xs) kb' nb' nt h' C' M' o' 1499 [(0, .ref b), (1, .ref (ad g 0)), (2, .ref (ad g 10)), (3, .ref (ad g 9)), (4, .int (nI (4 * j)))] []) (hk : kb + 5000 ≤ 601024) (hn : nb + 20000 ≤ 7293034) : V g K_law room_1 (lawQ g b L xs) kb nb nt h C M o 1486 [(0, .ref b), (1, .ref (ad g 0)), (2, .ref (ad g 10)), (3, .ref (ad g 9)), (4, .int (nI (4 * j)))] [] := by
  obtain ⟨k, v, C', r, R', hO, hM, hI, h31, hv⟩ := hCF
  have hc25 := hI.cap25
  obtain ⟨rfl, mc, ms, m1, m2, hC⟩ := hO.resolve_right (fun z => by obtain ⟨-, E, hE, -⟩ := z; cases hE)
  refine V_aload_n (dG D_L_law_18 18 rfl) rfl ?_
  refine R_vb0 (hC o) lk_L_167 (dG D_L_law_18 19 rfl) rcv_4 ⟨Nat.le_of_ble_eq_true rfl, Nat.le_of_ble_eq_true rfl⟩ ⟨by show kb + mc ≤ 601024; omega, by show nb + ms ≤ 7293034; omega⟩ (by simp [cat_int, cat_ref]) (fun h1 => ?_)
  refine V_aload_n (dG D_L_law_18 20 rfl) rfl ?_
  refine R_vb0 (hM o) lk_L_170 (dG D_L_law_18 21 rfl) rcv_5 ⟨Nat.le_of_ble_eq_true rfl, Nat.le_of_ble_eq_true rfl⟩ ⟨by show kb + mc + 0 ≤ 601024; omega, by show nb + ms + 0 ≤ 7293034; omega⟩ (by simp [cat_int, cat_ref]) (fun h2 => ?_)
  refine V_icmp_eq (tgt := 1499) (dG D_L_law_18 22 rfl) (by decide) (fun _ => ?_) (fun z => absurd (hv rfl).symm z)
  exact kont C' r.2 R' o h2 _ _ hI (by omega) (by omega)
