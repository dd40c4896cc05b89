/-! the law's case of begin -/
theorem lc_begin_no {g : GT} {nt B R : Nat} {C M : St} {o : Int64} {h : Nat × Nat} {kb nb j b L : Nat} {xs : Nat → Int32} (hj : 4 * j + 4 ≤ L) (hL : L ≤ 2048) (hI0 : Inv nt B R C M) {k : Int32} (hC : RETH g K_L_begin 1 6 [.ref (ad g 0), .int (xs (4 * j + 1)), .int (xs (4 * j + 2)), .ref (ad g 9)] nt C M o (some (.int k)) C M o) (hI : Inv nt (B + 100) R C (s_begin (xs (4 * j + 1)) (xs (4 * j + 2)) M).2) (h31 : (s_begin (xs (4 * j + 1)) (xs (4 * j + 2)) M).2 31 0 = k) (hk0 : k ≠ 0) (kont : ∀ (a' : Nat → Nat) (nt' : Nat) (C' M' : St) (R' : Nat) (o' : Int64) (h' : Nat × Nat) (kb' nb' : Nat), (∀ n, n < 73 + 4 * nt → a' n = ad g n) → Inv nt' (B + 100) R' C' M' → kb' + cap C ≤ kb + cap C' + 5 → nb' + 4 * cap C ≤ nb + 4 * cap C' + 90 → V (gw g a') K_law room_1 (lawQ g b L xs) kb' nb' nt' h' C' M' o' 1499 [(0, .ref b), (1, .ref (ad g 0)), (2, .ref (ad g 10)), (3, .ref (ad g 9)), (4, .int (nI (4 * j)))] []) (hk : kb + 5000 ≤ 601024) (hn : nb + 20000 ≤ 7293034) : V g K_law room_1 (lawQ g b L xs) kb nb nt h C M o 689 [(0, .ref b), (1, .ref (ad g 0)), (2, .ref (ad g 10)), (3, .ref (ad g 9)), (4, .int (nI (4 * j)))] [] := by
  have hm16 := hI0.m16
  have hn40 := hI0.wf.n40
  refine V_aload_n (dG D_L_law_7 31 rfl) rfl ?_
  refine V_aload_n (dG D_L_law_7 32 rfl) rfl ?_
  refine V_iload (dG D_L_law_7 33 rfl) rfl ?_
  refine V_iconst (v := 1) (dG D_L_law_7 34 rfl) (by decide) ?_
  refine V_iadd (dG D_L_law_7 35 rfl) ?_
  refine V_sld (j := 4 * j + 1) (dG D_L_law_7 36 rfl) (by rw [show nI (4 * j) + 1 = nI (4 * j + 1) from nI_add _ 1]; exact inr_nI (by omega) (by omega)) ?_
  refine V_aload_n (dG D_L_law_7 37 rfl) rfl ?_
  refine V_iload (dG D_L_law_7 38 rfl) rfl ?_
  refine V_iconst (v := 2) (dG D_L_law_7 39 rfl) (by decide) ?_
  refine V_iadd (dG D_L_law_7 40 rfl) ?_
  refine V_sld (j := 4 * j + 2) (dG D_L_law_7 41 rfl) (by rw [show nI (4 * j) + 2 = nI (4 * j + 2) from nI_add _ 2]; exact inr_nI (by omega) (by omega)) ?_
  refine V_aload_n (dG D_L_law_7 42 rfl) rfl ?_
  refine RH_call hC lh_begin (dG D_L_law_7 43 rfl) rfl ⟨Nat.le_of_ble_eq_true rfl, Nat.le_of_ble_eq_true rfl⟩ ⟨by show kb + 1 ≤ 601024; omega, by show nb + 6 ≤ 7293034; omega⟩ (by simp [cat_int, cat_ref]) (fun h1 => ?_) rfl
  refine V_istore (dG D_L_law_7 44 rfl) (by decide) ?_
  refine V_aload_n (dG D_L_law_7 45 rfl) rfl ?_
  refine V_aload_n (dG D_L_law_7 46 rfl) rfl ?_
  refine V_iload (dG D_L_law_7 47 rfl) rfl ?_
  refine V_iconst (v := 1) (dG D_L_law_8 0 rfl) (by decide) ?_
  refine V_iadd (dG D_L_law_8 1 rfl) ?_
  refine V_sld (j := 4 * j + 1) (dG D_L_law_8 2 rfl) (by rw [show nI (4 * j) + 1 = nI (4 * j + 1) from nI_add _ 1]; exact inr_nI (by omega) (by omega)) ?_
  refine V_aload_n (dG D_L_law_8 3 rfl) rfl ?_
  refine V_iload (dG D_L_law_8 4 rfl) rfl ?_
  refine V_iconst (v := 2) (dG D_L_law_8 5 rfl) (by decide) ?_
  refine V_iadd (dG D_L_law_8 6 rfl) ?_
  refine V_sld (j := 4 * j + 2) (dG D_L_law_8 7 rfl) (by rw [show nI (4 * j) + 2 = nI (4 * j + 2) from nI_add _ 2]; exact inr_nI (by omega) (by omega)) ?_
  refine R_vb2 (om_begin (N := nt) (by omega) hm16) lk_L_127 (dG D_L_law_8 8 rfl) rcv_5 ⟨Nat.le_of_ble_eq_true rfl, Nat.le_of_ble_eq_true rfl⟩ ⟨by show kb + 1 + 0 ≤ 601024; omega, by show nb + 6 + 0 ≤ 7293034; omega⟩ (by simp [cat_int, cat_ref]) (fun h2 => ?_)
  refine V_istore (dG D_L_law_8 9 rfl) (by decide) ?_
  refine V_aload_n (dG D_L_law_8 10 rfl) rfl ?_
  refine R_vb0 om_thrown lk_L_92 (dG D_L_law_8 11 rfl) rcv_5 ⟨Nat.le_of_ble_eq_true rfl, Nat.le_of_ble_eq_true rfl⟩ ⟨by show kb + 1 + 0 + 0 ≤ 601024; omega, by show nb + 6 + 0 + 0 ≤ 7293034; omega⟩ (by simp [cat_int, cat_ref]) (fun h3 => ?_)
  refine V_iload (dG D_L_law_8 12 rfl) rfl ?_
  refine V_icmp_eq (tgt := 737) (dG D_L_law_8 13 rfl) (by decide) (fun _ => ?_) (fun z => absurd h31 z)
  refine V_iload (dG D_L_law_8 16 rfl) rfl ?_
  refine V_if_ne (tgt := 754) (dG D_L_law_8 17 rfl) (by decide) (fun _ => ?_) (fun z => absurd z hk0)
  refine V_goto (tgt := 1499) (dG D_L_law_8 27 rfl) (by decide) ?_
  have q9 := kont g.2.2.2.2 nt C (s_begin (xs (4 * j + 1)) (xs (4 * j + 2)) M).2 R o h3 _ _ (fun _ _ => rfl) hI (show kb + 1 + 0 + 0 + cap C ≤ kb + cap C + 5 by omega) (show nb + 6 + 0 + 0 + 4 * cap C ≤ nb + 4 * cap C + 90 by omega)
  rw [show gw g g.2.2.2.2 = g from rfl] at q9
  exact V_sub [0, 1, 2, 3, 4] rfl q9
theorem lc_begin_new {g : GT} {nt B R : Nat} {C M : St} {o : Int64} {h : Nat × Nat} {kb nb j b L : Nat} {xs : Nat → Int32} (hj : 4 * j + 4 ≤ L) (hL : L ≤ 2048) (hI0 : Inv nt B R C M) {C' : St} (hcap : cap C' = cap C) (hC : RETBH g K_L_begin 4 83 [.ref (ad g 0), .int (xs (4 * j + 1)), .int (xs (4 * j + 2)), .ref (ad g 9)] nt C M o (some (.int 0)) C' M (nI nt).toInt64) (hI : Inv (nt + 1) (B + 100) R C' (s_begin (xs (4 * j + 1)) (xs (4 * j + 2)) M).2) (h31 : (s_begin (xs (4 * j + 1)) (xs (4 * j + 2)) M).2 31 0 = 0) (hr1 : (s_begin (xs (4 * j + 1)) (xs (4 * j + 2)) M).1 = nI nt) (kont : ∀ (a' : Nat → Nat) (nt' : Nat) (C' M' : St) (R' : Nat) (o' : Int64) (h' : Nat × Nat) (kb' nb' : Nat), (∀ n, n < 73 + 4 * nt → a' n = ad g n) → Inv nt' (B + 100) R' C' M' → kb' + cap C ≤ kb + cap C' + 5 → nb' + 4 * cap C ≤ nb + 4 * cap C' + 90 → V (gw g a') K_law room_1 (lawQ g b L xs) kb' nb' nt' h' C' M' o' 1499 [(0, .ref b), (1, .ref (ad g 0)), (2, .ref (ad g 10)), (3, .ref (ad g 9)), (4, .int (nI (4 * j)))] []) (hk : kb + 5000 ≤ 601024) (hn : nb + 20000 ≤ 7293034) : V g K_law room_1 (lawQ g b L xs) kb nb nt h C M o 689 [(0, .ref b), (1, .ref (ad g 0)), (2, .ref (ad g 10)), (3, .ref (ad g 9)), (4, .int (nI (4 * j)))] [] := by
  have hm16 := hI0.m16
  have hn40 := hI0.wf.n40
  refine V_aload_n (dG D_L_law_7 31 rfl) rfl ?_
  refine V_aload_n (dG D_L_law_7 32 rfl) rfl ?_
  refine V_iload (dG D_L_law_7 33 rfl) rfl ?_
  refine V_iconst (v := 1) (dG D_L_law_7 34 rfl) (by decide) ?_
  refine V_iadd (dG D_L_law_7 35 rfl) ?_
  refine V_sld (j := 4 * j + 1) (dG D_L_law_7 36 rfl) (by rw [show nI (4 * j) + 1 = nI (4 * j + 1) from nI_add _ 1]; exact inr_nI (by omega) (by omega)) ?_
  refine V_aload_n (dG D_L_law_7 37 rfl) rfl ?_
  refine V_iload (dG D_L_law_7 38 rfl) rfl ?_
  refine V_iconst (v := 2) (dG D_L_law_7 39 rfl) (by decide) ?_
  refine V_iadd (dG D_L_law_7 40 rfl) ?_
  refine V_sld (j := 4 * j + 2) (dG D_L_law_7 41 rfl) (by rw [show nI (4 * j) + 2 = nI (4 * j + 2) from nI_add _ 2]; exact inr_nI (by omega) (by omega)) ?_
  refine V_aload_n (dG D_L_law_7 42 rfl) rfl ?_
  refine RB_vs4 hC lh_begin (dG D_L_law_7 43 rfl) ⟨Nat.le_of_ble_eq_true rfl, Nat.le_of_ble_eq_true rfl⟩ ⟨by show kb + 4 ≤ 601024; omega, by show nb + 83 ≤ 7293034; omega⟩ (by simp [cat_int, cat_ref]) (fun a' h1 hag => ?_)
  rw [show ad g 0 = ad (gw g a') 0 from (hag 0 (by omega)).symm, show ad g 9 = ad (gw g a') 9 from (hag 9 (by omega)).symm, show ad g 10 = ad (gw g a') 10 from (hag 10 (by omega)).symm]
  show V (gw g a') K_law room_1 (lawQ (gw g a') b L xs) _ _ _ _ _ _ _ _ _ _
  refine V_istore (dG D_L_law_7 44 rfl) (by decide) ?_
  refine V_aload_n (dG D_L_law_7 45 rfl) rfl ?_
  refine V_aload_n (dG D_L_law_7 46 rfl) rfl ?_
  refine V_iload (dG D_L_law_7 47 rfl) rfl ?_
  refine V_iconst (v := 1) (dG D_L_law_8 0 rfl) (by decide) ?_
  refine V_iadd (dG D_L_law_8 1 rfl) ?_
  refine V_sld (j := 4 * j + 1) (dG D_L_law_8 2 rfl) (by rw [show nI (4 * j) + 1 = nI (4 * j + 1) from nI_add _ 1]; exact inr_nI (by omega) (by omega)) ?_
  refine V_aload_n (dG D_L_law_8 3 rfl) rfl ?_
  refine V_iload (dG D_L_law_8 4 rfl) rfl ?_
  refine V_iconst (v := 2) (dG D_L_law_8 5 rfl) (by decide) ?_
  refine V_iadd (dG D_L_law_8 6 rfl) ?_
  refine V_sld (j := 4 * j + 2) (dG D_L_law_8 7 rfl) (by rw [show nI (4 * j) + 2 = nI (4 * j + 2) from nI_add _ 2]; exact inr_nI (by omega) (by omega)) ?_
  refine R_vb2 (om_begin (N := nt) (by omega) hm16) lk_L_127 (dG D_L_law_8 8 rfl) rcv_5 ⟨Nat.le_of_ble_eq_true rfl, Nat.le_of_ble_eq_true rfl⟩ ⟨by show kb + 4 + 0 ≤ 601024; omega, by show nb + 83 + 0 ≤ 7293034; omega⟩ (by simp [cat_int, cat_ref]) (fun h2 => ?_)
  refine V_istore (dG D_L_law_8 9 rfl) (by decide) ?_
  refine V_aload_n (dG D_L_law_8 10 rfl) rfl ?_
  refine R_vb0 om_thrown lk_L_92 (dG D_L_law_8 11 rfl) rcv_5 ⟨Nat.le_of_ble_eq_true rfl, Nat.le_of_ble_eq_true rfl⟩ ⟨by show kb + 4 + 0 + 0 ≤ 601024; omega, by show nb + 83 + 0 + 0 ≤ 7293034; omega⟩ (by simp [cat_int, cat_ref]) (fun h3 => ?_)
  refine V_iload (dG D_L_law_8 12 rfl) rfl ?_
  refine V_icmp_eq (tgt := 737) (dG D_L_law_8 13 rfl) (by decide) (fun _ => ?_) (fun z => absurd h31 z)
  refine V_iload (dG D_L_law_8 16 rfl) rfl ?_
  refine V_if_ne (tgt := 754) (dG D_L_law_8 17 rfl) (by decide) (fun z => absurd rfl z) (fun _ => ?_)
  refine V_aload_n (dG D_L_law_8 18 rfl) rfl ?_
  refine V_iconst (v := 0) (dG D_L_law_8 19 rfl) (by decide) ?_
  refine V_lald0 (dG D_L_law_8 20 rfl) ?_
  refine V_iload (dG D_L_law_8 21 rfl) rfl ?_
  refine V_i2l (dG D_L_law_8 22 rfl) ?_
  refine V_lcmp (dG D_L_law_8 23 rfl) ?_
  refine V_if_eq (tgt := 754) (dG D_L_law_8 24 rfl) (by decide) (fun _ => ?_) (fun z => absurd (by rw [hr1]; exact lg_self _) z)
  refine V_goto (tgt := 1499) (dG D_L_law_8 27 rfl) (by decide) ?_
  have q9 := kont a' (nt + 1) C' (s_begin (xs (4 * j + 1)) (xs (4 * j + 2)) M).2 R (nI nt).toInt64 h3 (kb + 4 + 0 + 0) (nb + 83 + 0 + 0) hag hI (by omega) (by omega)
  rw [show ad g 0 = ad (gw g a') 0 from (hag 0 (by omega)).symm, show ad g 9 = ad (gw g a') 9 from (hag 9 (by omega)).symm, show ad g 10 = ad (gw g a') 10 from (hag 10 (by omega)).symm] at q9
  exact V_sub [0, 1, 2, 3, 4] rfl q9
theorem lc_begin {g : GT} {nt B R : Nat} {C M : St} {o : Int64} {h : Nat × Nat} {kb nb j b L : Nat} {xs : Nat → Int32} (hj : 4 * j + 4 ≤ L) (hL : L ≤ 2048) (hI0 : Inv nt B R C M) (hB : B ≤ 600000) (kont : ∀ (a' : Nat → Nat) (nt' : Nat) (C' M' : St) (R' : Nat) (o' : Int64) (h' : Nat × Nat) (kb' nb' : Nat), (∀ n, n < 73 + 4 * nt → a' n = ad g n) → Inv nt' (B + 100) R' C' M' → kb' + cap C ≤ kb + cap C' + 5 → nb' + 4 * cap C ≤ nb + 4 * cap C' + 90 → V (gw g a') K_law room_1 (lawQ g b L xs) kb' nb' nt' h' C' M' o' 1499 [(0, .ref b), (1, .ref (ad g 0)), (2, .ref (ad g 10)), (3, .ref (ad g 9)), (4, .int (nI (4 * j)))] []) (hk : kb + 5000 ≤ 601024) (hn : nb + 20000 ≤ 7293034) : V g K_law room_1 (lawQ g b L xs) kb nb nt h C M o 689 [(0, .ref b), (1, .ref (ad g 0)), (2, .ref (ad g 10)), (3, .ref (ad g 9)), (4, .int (nI (4 * j)))] [] := by
  rcases begin_no (g := g) hI0 (xs (4 * j + 1)) (xs (4 * j + 2)) with ⟨k, E, hE, h1, h2, h3, h4⟩ | ⟨hlt, c, hc, ex, hd, h0, h9⟩
  · simp only [List.mem_cons, List.not_mem_nil, or_false, Prod.mk.injEq] at hE
    rcases hE with ⟨rfl, rfl⟩ | ⟨rfl, rfl⟩ | ⟨rfl, rfl⟩
    · exact lc_begin_no hj hL hI0 (wt_begin_1 (h1 o)) h2 h3 h4 kont hk hn
    · exact lc_begin_no hj hL hI0 (wt_begin_2 (h1 o)) h2 h3 h4 kont hk hn
    · exact lc_begin_no hj hL hI0 (wt_begin_3 (h1 o)) h2 h3 h4 kont hk hn
  · obtain ⟨k1, k2, k3⟩ := begin_new hI0 (by omega) hc h0 h9 hd hlt
    have hok := wr_begin (ok_begin (g := g) (M := M) (o := o) hc h0 h9 hd hlt hI0.wf.b hI0.wf.wo hI0.wf.aw)
    have hcap : cap (up (bg0 C nt c (xs (4 * j + 2))) 10 0 (nI (nt + 1))) = cap C := by
      unfold cap
      rw [up_row (by decide), bg0_row (by omega) (by decide) (by decide) (by decide) (by decide)]
    rw [← ex] at k1 k2 k3 hok
    exact lc_begin_new hj hL hI0 hcap hok k3 k2 k1 kont hk hn
