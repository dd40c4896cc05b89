/-! the law's loop -/
theorem law_case {g : GT} {nt B R : Nat} {C M : St} {o : Int64} {h : Nat × Nat} {kb nb j b L : Nat} {xs : Nat → Int32} (hj : 4 * j + 4 ≤ L) (hL : L ≤ 2048) (hI : Inv nt B R C M) (hB : B ≤ 600000) (kont : ∀ (a' : Nat → Nat) (nt' : Nat) (C' M' : St) (R' : Nat) (o' : Int64) (h' : Nat × Nat) (kb' nb' : Nat), (∀ n, n < 73 + 4 * nt → a' n = ad g n) → Inv nt' (B + 100) R' C' M' → kb' + cap C ≤ kb + cap C' + 5 → nb' + 4 * cap C ≤ nb + 4 * cap C' + 90 → V (gw g a') K_law room_1 (lawQ g b L xs) kb' nb' nt' h' C' M' o' 1499 [(0, .ref b), (1, .ref (ad g 0)), (2, .ref (ad g 10)), (3, .ref (ad g 9)), (4, .int (nI (4 * j)))] []) (hk : kb + 5000 ≤ 601024) (hn : nb + 20000 ≤ 7293034) (q : Nat) (hq : q < 32) : V g K_law room_1 (lawQ g b L xs) kb nb nt h C M o 39 [(0, .ref b), (1, .ref (ad g 0)), (2, .ref (ad g 10)), (3, .ref (ad g 9)), (4, .int (nI (4 * j)))] [.int (nI q)] := by
  by_cases h24 : 24 ≤ q
  · refine V_tabOut (tgt := 1499) (dG D_L_law_0 24 rfl) (Or.inr (by rw [nI_toInt (by omega)]; omega)) (by decide) ?_
    exact kont g.2.2.2.2 nt C M R o h kb nb (fun _ _ => rfl) (hI.mono (by omega)) (by omega) (by omega)
  · have hc : q = 0 ∨ q = 1 ∨ q = 2 ∨ q = 3 ∨ q = 4 ∨ q = 5 ∨ q = 6 ∨ q = 7 ∨ q = 8 ∨ q = 9 ∨ q = 10 ∨ q = 11 ∨ q = 12 ∨ q = 13 ∨ q = 14 ∨ q = 15 ∨ q = 16 ∨ q = 17 ∨ q = 18 ∨ q = 19 ∨ q = 20 ∨ q = 21 ∨ q = 22 ∨ q = 23 := by omega
    rcases hc with rfl | rfl | rfl | rfl | rfl | rfl | rfl | rfl | rfl | rfl | rfl | rfl | rfl | rfl | rfl | rfl | rfl | rfl | rfl | rfl | rfl | rfl | rfl | rfl
    · refine V_tabIn (off := 109) (tgt := 148) (dG D_L_law_0 24 rfl) (by decide +kernel) (by decide +kernel) rfl (by decide) ?_
      exact lc_pass hj hL (cf_pass hI (xs (4 * j + 1))) (fun C' M' R' o' h' kb' nb' q1 q2 q3 => kont g.2.2.2.2 nt C' M' R' o' h' kb' nb' (fun _ _ => rfl) q1 (by omega) (by omega)) hk hn
    · refine V_tabIn (off := 165) (tgt := 204) (dG D_L_law_0 24 rfl) (by decide +kernel) (by decide +kernel) rfl (by decide) ?_
      exact lc_skew hj hL (cf_skew hI (xs (4 * j + 1)) (xs (4 * j + 2))) (fun C' M' R' o' h' kb' nb' q1 q2 q3 => kont g.2.2.2.2 nt C' M' R' o' h' kb' nb' (fun _ _ => rfl) q1 (by omega) (by omega)) hk hn
    · refine V_tabIn (off := 233) (tgt := 272) (dG D_L_law_0 24 rfl) (by decide +kernel) (by decide +kernel) rfl (by decide) ?_
      exact lc_clock hj hL (cf_clock hI (by omega) (xs (4 * j + 1))) (fun C' M' R' o' h' kb' nb' q1 q2 q3 => kont g.2.2.2.2 nt C' M' R' o' h' kb' nb' (fun _ _ => rfl) q1 (by omega) (by omega)) hk hn
    · refine V_tabIn (off := 289) (tgt := 328) (dG D_L_law_0 24 rfl) (by decide +kernel) (by decide +kernel) rfl (by decide) ?_
      exact lc_closed hj hL (cf_closed hI) (fun C' M' R' o' h' kb' nb' q1 q2 q3 => kont g.2.2.2.2 nt C' M' R' o' h' kb' nb' (fun _ _ => rfl) q1 (by omega) (by omega)) hk hn
    · refine V_tabIn (off := 302) (tgt := 341) (dG D_L_law_0 24 rfl) (by decide +kernel) (by decide +kernel) rfl (by decide) ?_
      exact lc_down hj hL (cf_down hI (xs (4 * j + 1))) (fun C' M' R' o' h' kb' nb' q1 q2 q3 => kont g.2.2.2.2 nt C' M' R' o' h' kb' nb' (fun _ _ => rfl) q1 (by omega) (by omega)) hk hn
    · refine V_tabIn (off := 358) (tgt := 397) (dG D_L_law_0 24 rfl) (by decide +kernel) (by decide +kernel) rfl (by decide) ?_
      exact lc_up hj hL (cf_up hI (by omega) (xs (4 * j + 1))) (fun C' M' R' o' h' kb' nb' q1 q2 q3 => kont g.2.2.2.2 nt C' M' R' o' h' kb' nb' (fun _ _ => rfl) q1 (by omega) (by omega)) hk hn
    · refine V_tabIn (off := 414) (tgt := 453) (dG D_L_law_0 24 rfl) (by decide +kernel) (by decide +kernel) rfl (by decide) ?_
      exact lc_sync hj hL (cf_sync hI (xs (4 * j + 1))) (fun C' M' R' o' h' kb' nb' q1 q2 q3 => kont g.2.2.2.2 nt C' M' R' o' h' kb' nb' (fun _ _ => rfl) q1 (by omega) (by omega)) hk hn
    · refine V_tabIn (off := 470) (tgt := 509) (dG D_L_law_0 24 rfl) (by decide +kernel) (by decide +kernel) rfl (by decide) ?_
      exact lc_split hj hL (cf_split hI (xs (4 * j + 1))) (fun C' M' R' o' h' kb' nb' q1 q2 q3 => kont g.2.2.2.2 nt C' M' R' o' h' kb' nb' (fun _ _ => rfl) q1 (by omega) (by omega)) hk hn
    · refine V_tabIn (off := 526) (tgt := 565) (dG D_L_law_0 24 rfl) (by decide +kernel) (by decide +kernel) rfl (by decide) ?_
      exact lc_merge hj hL (cf_merge hI (xs (4 * j + 1))) (fun C' M' R' o' h' kb' nb' q1 q2 q3 => kont g.2.2.2.2 nt C' M' R' o' h' kb' nb' (fun _ _ => rfl) q1 (by omega) (by omega)) hk hn
    · refine V_tabIn (off := 582) (tgt := 621) (dG D_L_law_0 24 rfl) (by decide +kernel) (by decide +kernel) rfl (by decide) ?_
      exact lc_move hj hL (cf_move hI (by omega) (xs (4 * j + 1)) (xs (4 * j + 2))) (fun C' M' R' o' h' kb' nb' q1 q2 q3 => kont g.2.2.2.2 nt C' M' R' o' h' kb' nb' (fun _ _ => rfl) q1 (by omega) (by omega)) hk hn
    · refine V_tabIn (off := 650) (tgt := 689) (dG D_L_law_0 24 rfl) (by decide +kernel) (by decide +kernel) rfl (by decide) ?_
      exact lc_begin hj hL hI hB kont hk hn
    · refine V_tabIn (off := 718) (tgt := 757) (dG D_L_law_0 24 rfl) (by decide +kernel) (by decide +kernel) rfl (by decide) ?_
      exact lc_get hj hL (cf_get hI (by omega) (xs (4 * j + 1)) (xs (4 * j + 2))) (fun C' M' R' o' h' kb' nb' q1 q2 q3 => kont g.2.2.2.2 nt C' M' R' o' h' kb' nb' (fun _ _ => rfl) q1 (by omega) (by omega)) hk hn
    · refine V_tabIn (off := 786) (tgt := 825) (dG D_L_law_0 24 rfl) (by decide +kernel) (by decide +kernel) rfl (by decide) ?_
      exact lc_put hj hL (cf_put hI (by omega) (xs (4 * j + 1)) (xs (4 * j + 2)) (xs (4 * j + 3))) (fun C' M' R' o' h' kb' nb' q1 q2 q3 => kont g.2.2.2.2 nt C' M' R' o' h' kb' nb' (fun _ _ => rfl) q1 (by omega) (by omega)) hk hn
    · refine V_tabIn (off := 866) (tgt := 905) (dG D_L_law_0 24 rfl) (by decide +kernel) (by decide +kernel) rfl (by decide) ?_
      by_cases hz : xs (4 * j + 2) = 0
      · exact lc_commit0 hj hL hz (cf_commit hI (by omega) (xs (4 * j + 1)) 0) (fun C' M' R' o' h' kb' nb' q1 q2 q3 => kont g.2.2.2.2 nt C' M' R' o' h' kb' nb' (fun _ _ => rfl) q1 (by omega) (by omega)) hk hn
      · exact lc_commit1 hj hL hz (cf_commit hI (by omega) (xs (4 * j + 1)) 1) (fun C' M' R' o' h' kb' nb' q1 q2 q3 => kont g.2.2.2.2 nt C' M' R' o' h' kb' nb' (fun _ _ => rfl) q1 (by omega) (by omega)) hk hn
    · refine V_tabIn (off := 950) (tgt := 989) (dG D_L_law_0 24 rfl) (by decide +kernel) (by decide +kernel) rfl (by decide) ?_
      exact lc_abort hj hL (cf_abort hI (xs (4 * j + 1))) (fun C' M' R' o' h' kb' nb' q1 q2 q3 => kont g.2.2.2.2 nt C' M' R' o' h' kb' nb' (fun _ _ => rfl) q1 (by omega) (by omega)) hk hn
    · refine V_tabIn (off := 1006) (tgt := 1045) (dG D_L_law_0 24 rfl) (by decide +kernel) (by decide +kernel) rfl (by decide) ?_
      exact lc_recover hj hL (cf_recover hI (by omega) (xs (4 * j + 1))) (fun C' M' R' o' h' kb' nb' q1 q2 q3 => kont g.2.2.2.2 nt C' M' R' o' h' kb' nb' (fun _ _ => rfl) q1 (by omega) (by omega)) hk hn
    · refine V_tabIn (off := 1062) (tgt := 1101) (dG D_L_law_0 24 rfl) (by decide +kernel) (by decide +kernel) rfl (by decide) ?_
      exact lc_beat hj hL (cf_beat hI (xs (4 * j + 1))) (fun C' M' R' o' h' kb' nb' q1 q2 q3 => kont g.2.2.2.2 nt C' M' R' o' h' kb' nb' (fun _ _ => rfl) q1 (by omega) (by omega)) hk hn
    · refine V_tabIn (off := 1118) (tgt := 1157) (dG D_L_law_0 24 rfl) (by decide +kernel) (by decide +kernel) rfl (by decide) ?_
      exact lc_told hj hL (cf_told hI (xs (4 * j + 1)) (xs (4 * j + 2))) (fun C' M' R' o' h' kb' nb' q1 q2 q3 => kont g.2.2.2.2 nt C' M' R' o' h' kb' nb' (fun _ _ => rfl) q1 (by omega) (by omega)) hk hn
    · refine V_tabIn (off := 1186) (tgt := 1225) (dG D_L_law_0 24 rfl) (by decide +kernel) (by decide +kernel) rfl (by decide) ?_
      exact lc_key hj hL (cf_key hI (by omega) (xs (4 * j + 1)) (xs (4 * j + 2))) (fun C' M' R' o' h' kb' nb' q1 q2 q3 => kont g.2.2.2.2 nt C' M' R' o' h' kb' nb' (fun _ _ => rfl) q1 (by omega) (by omega)) hk hn
    · refine V_tabIn (off := 1254) (tgt := 1293) (dG D_L_law_0 24 rfl) (by decide +kernel) (by decide +kernel) rfl (by decide) ?_
      exact lc_asOf hj hL (cf_asOf hI (by omega) (xs (4 * j + 1)) (xs (4 * j + 2))) (fun C' M' R' o' h' kb' nb' q1 q2 q3 => kont g.2.2.2.2 nt C' M' R' o' h' kb' nb' (fun _ _ => rfl) q1 (by omega) (by omega)) hk hn
    · refine V_tabIn (off := 1322) (tgt := 1361) (dG D_L_law_0 24 rfl) (by decide +kernel) (by decide +kernel) rfl (by decide) ?_
      exact lc_resolved hj hL (cf_resolved hI (by omega)) (fun C' M' R' o' h' kb' nb' q1 q2 q3 => kont g.2.2.2.2 nt C' M' R' o' h' kb' nb' (fun _ _ => rfl) q1 (by omega) (by omega)) hk hn
    · refine V_tabIn (off := 1335) (tgt := 1374) (dG D_L_law_0 24 rfl) (by decide +kernel) (by decide +kernel) rfl (by decide) ?_
      exact lc_feed hj hL (cf_feed hI (by omega) (xs (4 * j + 1))) (fun C' M' R' o' h' kb' nb' q1 q2 q3 => kont g.2.2.2.2 nt C' M' R' o' h' kb' nb' (fun _ _ => rfl) q1 (by omega) (by omega)) hk hn
    · refine V_tabIn (off := 1391) (tgt := 1430) (dG D_L_law_0 24 rfl) (by decide +kernel) (by decide +kernel) rfl (by decide) ?_
      exact lc_order hj hL (cf_order hI (xs (4 * j + 1))) (fun C' M' R' o' h' kb' nb' q1 q2 q3 => kont g.2.2.2.2 nt C' M' R' o' h' kb' nb' (fun _ _ => rfl) q1 (by omega) (by omega)) hk hn
    · refine V_tabIn (off := 1447) (tgt := 1486) (dG D_L_law_0 24 rfl) (by decide +kernel) (by decide +kernel) rfl (by decide) ?_
      exact lc_judged hj hL (cf_judged hI) (fun C' M' R' o' h' kb' nb' q1 q2 q3 => kont g.2.2.2.2 nt C' M' R' o' h' kb' nb' (fun _ _ => rfl) q1 (by omega) (by omega)) hk hn
theorem law_loop {b L : Nat} {xs : Nat → Int32} (hL : L ≤ 2048) : ∀ (n j nt B R : Nat) (g : GT) (C M : St) (o : Int64) (h : Nat × Nat) (kb nb : Nat), L < 4 * (j + n) + 4 → j ≤ 512 → Inv nt B R C M → B ≤ 20050 + 100 * j → kb ≤ 200 + cap C + 5 * j → nb ≤ 20000 + 4 * cap C + 90 * j → V g K_law room_1 (lawQ g b L xs) kb nb nt h C M o 23 [(0, .ref b), (1, .ref (ad g 0)), (2, .ref (ad g 10)), (3, .ref (ad g 9)), (4, .int (nI (4 * j)))] [] := by
  intro n
  induction n with
  | zero =>
    intro j nt B R g C M o h kb nb hj0 hj hI hB hk hn
    have hc25 := hI.cap25
    refine V_iload (dG D_L_law_0 13 rfl) rfl ?_
    refine V_aload_n (dG D_L_law_0 14 rfl) rfl ?_
    refine V_slen (dG D_L_law_0 15 rfl) ?_
    refine V_iconst (v := nI 4) (dG D_L_law_0 16 rfl) (by decide +kernel) ?_
    refine V_isub (dG D_L_law_0 17 rfl) ?_
    refine V_icmp_gt (tgt := 1505) (dG D_L_law_0 18 rfl) (by decide) (fun _ => ?_) (fun z => absurd (by rw [Int32.lt_iff_toInt_lt, pk_sub_toInt (by omega) (by decide), nI_toInt (by omega)]; omega) z)
    refine V_iconst (v := 1) (dG D_L_law_18 27 rfl) (by decide) ?_
    exact V_lawret (dG D_L_law_18 28 rfl) (by omega) (by omega)
  | succ n ih =>
    intro j nt B R g C M o h kb nb hj0 hj hI hB hk hn
    have hc25 := hI.cap25
    refine V_iload (dG D_L_law_0 13 rfl) rfl ?_
    refine V_aload_n (dG D_L_law_0 14 rfl) rfl ?_
    refine V_slen (dG D_L_law_0 15 rfl) ?_
    refine V_iconst (v := nI 4) (dG D_L_law_0 16 rfl) (by decide +kernel) ?_
    refine V_isub (dG D_L_law_0 17 rfl) ?_
    refine V_icmp_gt (tgt := 1505) (dG D_L_law_0 18 rfl) (by decide) (fun _ => ?_) (fun z => ?_)
    · refine V_iconst (v := 1) (dG D_L_law_18 27 rfl) (by decide) ?_
      exact V_lawret (dG D_L_law_18 28 rfl) (by omega) (by omega)
    have hj4 : 4 * j + 4 ≤ L := by
      rw [Int32.lt_iff_toInt_lt, pk_sub_toInt (by omega) (by decide), nI_toInt (by omega)] at z
      omega
    refine V_aload_n (dG D_L_law_0 19 rfl) rfl ?_
    refine V_iload (dG D_L_law_0 20 rfl) rfl ?_
    refine V_sld (j := 4 * j) (dG D_L_law_0 21 rfl) (inr_nI (by omega) (by omega)) ?_
    refine V_bipush (v := 31) (dG D_L_law_0 22 rfl) (by decide) ?_
    refine V_iand (dG D_L_law_0 23 rfl) ?_
    obtain ⟨q, hq, eq⟩ := pk_andE (xs (4 * j)) (m := 31) 5 (by decide)
    rw [eq]
    refine law_case hj4 hL hI (by omega) (fun a' nt' C' M' R' o' h' kb' nb' hag hI' hk' hn' => ?_) (by omega) (by omega) q hq
    have hc25' := hI'.cap25
    refine V_iinc (v := nI (4 * (j + 1))) (dG D_L_law_18 25 rfl) rfl (nI_add (4 * j) 4) (Nat.le_of_ble_eq_true rfl) ?_
    refine V_goto (tgt := 23) (dG D_L_law_18 26 rfl) (by decide) ?_
    have q9 := ih (j + 1) nt' (B + 100) R' (gw g a') C' M' o' h' kb' nb' (by omega) (by omega) hI' (by omega) (by omega) (by omega)
    rw [show ad (gw g a') 0 = ad g 0 from hag 0 (by omega), show ad (gw g a') 9 = ad g 9 from hag 9 (by omega), show ad (gw g a') 10 = ad g 10 from hag 10 (by omega)] at q9
    exact q9
