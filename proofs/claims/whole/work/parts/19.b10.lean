/-! class: looking to write; the needs -/
section B10
variable {g : GT} {nt : Nat} {C M : St} {o : Int64} {t u : Int32}
theorem lw_88 (ht : tok nt t) {k : Nat} (hk : k < 32) {v w : Int32} {mc ms kb nb : Nat} (hk9 : kb ≤ mc) (hn9 : nb ≤ ms) (h : Nat × Nat) : V g K_X4_lookToWrite (kR K_X4_lookToWrite mc ms) (qM g mc ms nt (fun v9 C9 M9 o9 => v9 = some (.int 0) ∧ C9 = up (up (noteWriteS (up C 17 t.toNatClampNeg (mx (C 17 t.toNatClampNeg) w)) t.toNatClampNeg k v) 6 k t) 7 k 0 ∧ M9 = M ∧ o9 = o) (fun _ _ _ _ => False)) kb nb nt h C M o 88 [(0, .ref (ad g 0)), (1, va_rf (trO g t)), (2, .int (nI k)), (3, .int v), (4, .ref (ad g (41 + k))), (5, va_rf (trO g u)), (6, .int w)] [] := by
  refine V_aload_nt (dG D_X4_lookToWrite 45 rfl) rfl ?_
  refine V_aload_nt (dG D_X4_lookToWrite 46 rfl) rfl ?_
  refine gf_X4_163 rfl (dG D_X4_lookToWrite 47 rfl) (by assumption) ?_
  refine V_iload (dG D_X4_lookToWrite 48 rfl) rfl ?_
  refine V_max w_127 (dG D_X4_lookToWrite 49 rfl) ⟨(Nat.le_of_ble_eq_true rfl), (by first | exact Nat.le_of_ble_eq_true rfl | (simp only [List.map, List.sum, cat_rf, cat_int, cat_ref]; exact Nat.le_of_ble_eq_true rfl))⟩ ⟨hk9, hn9⟩ ?_
  refine pf_X4_163 rfl (dG D_X4_lookToWrite 50 rfl) (by assumption) ?_
  refine V_aload_nt (dG D_X4_lookToWrite 51 rfl) rfl ?_
  refine V_iload_n (dG D_X4_lookToWrite 52 rfl) rfl ?_
  refine V_iload_n (dG D_X4_lookToWrite 53 rfl) rfl ?_
  refine R_nt2 (by assumption) (ok_noteWrite ht hk) lk_X4_314 (dG D_X4_lookToWrite 54 rfl) ⟨Nat.le_of_ble_eq_true rfl, Nat.le_of_ble_eq_true rfl⟩ ⟨by show kb + 0 ≤ mc; omega, by show nb + 0 ≤ ms; omega⟩ (by first | exact Nat.le_of_ble_eq_true rfl | simp [cat_rf, cat_int, cat_ref]) (fun h => ?_)
  refine V_aload (dG D_X4_lookToWrite 55 rfl) rfl ?_
  refine V_aload_nt (dG D_X4_lookToWrite 56 rfl) rfl ?_
  refine pf_X4_82 rfl (dG D_X4_lookToWrite 57 rfl) (by first | assumption | omega) ?_
  refine V_aload (dG D_X4_lookToWrite 58 rfl) rfl ?_
  refine V_iconst (v := 0) (dG D_X4_lookToWrite 59 rfl) (by decide) ?_
  refine pf_X4_86 rfl (dG D_X4_lookToWrite 60 rfl) (by first | assumption | omega) rfl rfl ?_
  refine V_iconst (v := 0) (dG D_X4_lookToWrite 61 rfl) (by decide) ?_
  exact V_iret (dG D_X4_lookToWrite 62 rfl) rfl hk9 hn9 ⟨rfl, rfl, rfl, rfl⟩
theorem lw_47 (ht : tok nt t) {k : Nat} (hk : k < 32) (hW : WF nt C) {v : Int32} {mc ms kb nb : Nat} (hk9 : kb ≤ mc) (hn9 : nb ≤ ms) (h : Nat × Nat) : V g K_X4_lookToWrite (kR K_X4_lookToWrite mc ms) (qM g mc ms nt (fun v9 C9 M9 o9 => v9 = some (.int 0) ∧ C9 = lw3 C t k v ∧ M9 = M ∧ o9 = o) (fun _ _ _ _ => False)) kb nb nt h C M o 47 [(0, .ref (ad g 0)), (1, va_rf (trO g t)), (2, .int (nI k)), (3, .int v), (4, .ref (ad g (41 + k))), (5, va_rf (trO g u))] [] := by
  refine V_aload_n (dG D_X4_lookToWrite 25 rfl) rfl ?_
  refine gf_X4_30 rfl (dG D_X4_lookToWrite 26 rfl) ?_
  refine V_iload_n (dG D_X4_lookToWrite 27 rfl) rfl ?_
  refine V_ldcw (v := 2147483647) (dG D_X4_lookToWrite 28 rfl) w_587 ?_
  refine R_vb2 (okW_st hW) lk_X4_295 (dG D_X4_lookToWrite 29 rfl) rcv_1 ⟨Nat.le_of_ble_eq_true rfl, Nat.le_of_ble_eq_true rfl⟩ ⟨by show kb + 0 ≤ mc; omega, by show nb + 0 ≤ ms; omega⟩ (by first | exact Nat.le_of_ble_eq_true rfl | simp [cat_rf, cat_int, cat_ref]) (fun h => ?_)
  refine V_iconst (v := 1) (dG D_X4_lookToWrite 30 rfl) (by decide) ?_
  refine V_iadd (dG D_X4_lookToWrite 31 rfl) ?_
  refine V_istore (dG D_X4_lookToWrite 32 rfl) (Nat.le_of_ble_eq_true rfl) ?_
  refine V_aload (dG D_X4_lookToWrite 33 rfl) rfl ?_
  refine gf_X4_218 rfl (dG D_X4_lookToWrite 34 rfl) (by first | assumption | omega) ?_
  refine V_aload_nt (dG D_X4_lookToWrite 35 rfl) rfl ?_
  refine gf_X4_199 rfl (dG D_X4_lookToWrite 36 rfl) (by assumption) ?_
  refine V_icmp_eq (tgt := 88) (dG D_X4_lookToWrite 37 rfl) (by decide) (fun c_71 => ?_) (fun c_71 => ?_)
  · rw [show lw3 C t k v = up (up (noteWriteS (up C 17 t.toNatClampNeg (mx (C 17 t.toNatClampNeg) (stX C (nI k) 2147483647 + 1))) t.toNatClampNeg k v) 6 k t) 7 k 0 from by simp only [lw3, lw2, if_pos c_71]]
    exact lw_88 ht hk (by omega) (by omega) h
  · rw [show lw3 C t k v = up (up (noteWriteS (up C 17 t.toNatClampNeg (mx (C 17 t.toNatClampNeg) (mx (stX C (nI k) 2147483647 + 1) (C 8 k + 1)))) t.toNatClampNeg k v) 6 k t) 7 k 0 from by simp only [lw3, lw2, if_neg c_71]]
    refine V_iload (dG D_X4_lookToWrite 38 rfl) rfl ?_
    refine V_aload (dG D_X4_lookToWrite 39 rfl) rfl ?_
    refine gf_X4_217 rfl (dG D_X4_lookToWrite 40 rfl) (by first | assumption | omega) ?_
    refine V_iconst (v := 1) (dG D_X4_lookToWrite 41 rfl) (by decide) ?_
    refine V_iadd (dG D_X4_lookToWrite 42 rfl) ?_
    refine V_max w_127 (dG D_X4_lookToWrite 43 rfl) ⟨(Nat.le_of_ble_eq_true rfl), (by first | exact Nat.le_of_ble_eq_true rfl | (simp only [List.map, List.sum, cat_rf, cat_int, cat_ref]; exact Nat.le_of_ble_eq_true rfl))⟩ ⟨hk9, hn9⟩ ?_
    refine V_istore (dG D_X4_lookToWrite 44 rfl) (Nat.le_of_ble_eq_true rfl) ?_
    exact lw_88 ht hk (by omega) (by omega) h
theorem meet_st {nt : Nat} {C : St} {t : Int32} {k : Nat} (c : ¬ meetR C t k < 0) : meetC C t k 15 (meetR C t k).toNatClampNeg ≠ 2 := by
  have c2 := c
  unfold meetR at c
  split at c
  · exact absurd (by decide) c
  · rename_i h1
    split at c
    · exact absurd (by decide) c
    · rename_i h2
      unfold mrS at c
      split at c
      · rename_i h3
        have e : meetR C t k = C 6 k := by unfold meetR; rw [if_neg h1, if_neg h2]; unfold mrS; rw [if_pos h3]
        rw [e]
        unfold meetC
        rw [if_neg h1, if_neg h2, h3]
        decide
      · exact absurd (by decide) c
theorem ok_lookToWrite (ht : tok nt t) {k : Nat} (hk : k < 32) (hW : WF nt C) {v : Int32} : RET g K_X4_lookToWrite (cap (lwR C t k v).2 - cap C) (4 * (cap (lwR C t k v).2 - cap C)) [.ref (ad g 0), va_rf (trO g t), .int (nI k), .int v] nt C M o (some (.int (lwR C t k v).1)) (lwR C t k v).2 M o := by
  refine MT_of (by decide +kernel) rfl rfl (Nat.le_of_ble_eq_true rfl) (by simp [cat_rf, cat_int, cat_ref]) (fun h => ?_)
  have hWm := WF_meet (t := t) hW hk
  have hcm := cap_meet (t := t) hW hk
  have hpre : cap (lwR C t k v).2 = cap (meetC C t k) := by
    unfold lwR
    split
    · exact cap_lw3
    · split
      · exact cap_lw3.trans cap_up15
      · exact cap_wa
  rw [hpre]
  obtain ⟨mc, hmc0⟩ : ∃ z, z = cap (meetC C t k) - cap C := ⟨_, rfl⟩
  rw [← hmc0]
  obtain ⟨ms, hms0⟩ : ∃ z, z = 4 * mc := ⟨_, rfl⟩
  rw [← hms0]
  refine V_aload_n (dG D_X4_lookToWrite 0 rfl) rfl ?_
  refine gf_X4_17 rfl (dG D_X4_lookToWrite 1 rfl) ?_
  refine V_iload_n (dG D_X4_lookToWrite 2 rfl) rfl ?_
  refine aald_cells (dG D_X4_lookToWrite 3 rfl) (inr_nI hk (by decide)) ?_
  refine V_astore (dG D_X4_lookToWrite 4 rfl) (Nat.le_of_ble_eq_true rfl) ?_
  refine V_aload_n (dG D_X4_lookToWrite 5 rfl) rfl ?_
  refine V_aload_nt (dG D_X4_lookToWrite 6 rfl) rfl ?_
  refine V_iload_n (dG D_X4_lookToWrite 7 rfl) rfl ?_
  refine R_vb2 (ok_meetIntent ht hk hW) lk_X4_281 (dG D_X4_lookToWrite 8 rfl) rcv_4 ⟨Nat.le_of_ble_eq_true rfl, Nat.le_of_ble_eq_true rfl⟩ ⟨by show 0 + (cap (meetC C t k) - cap C) ≤ mc; omega, by show 0 + 4 * (cap (meetC C t k) - cap C) ≤ ms; omega⟩ (by first | exact Nat.le_of_ble_eq_true rfl | simp [cat_rf, cat_int, cat_ref]) (fun h => ?_)
  refine V_astoret (dG D_X4_lookToWrite 9 rfl) (Nat.le_of_ble_eq_true rfl) ?_
  refine V_aloadt (dG D_X4_lookToWrite 10 rfl) rfl ?_
  refine V_ifnullt (tgt := 47) (dG D_X4_lookToWrite 11 rfl) (by decide) (fun c_18 => ?_) (fun c_18 => ?_)
  · rw [show lwR C t k v = (0, lw3 (meetC C t k) t k v) from by simp only [lwR, if_pos c_18]]
    exact lw_47 ht hk hWm (show 0 + (cap (meetC C t k) - cap C) ≤ mc by omega) (show 0 + 4 * (cap (meetC C t k) - cap C) ≤ ms by omega) h
  · have hu := trv_tok (meetR_trv hW hk) c_18
    have h2 := meet_st (nt := nt) c_18
    refine V_aload_nt (dG D_X4_lookToWrite 12 rfl) rfl ?_
    refine gf_X4_288 rfl (dG D_X4_lookToWrite 13 rfl) (by assumption) ?_
    refine V_aloadt (dG D_X4_lookToWrite 14 rfl) rfl ?_
    refine gf_X4_288 rfl (dG D_X4_lookToWrite 15 rfl) hu ?_
    refine V_icmp_gt (tgt := 41) (dG D_X4_lookToWrite 16 rfl) (by decide) (fun c_30 => ?_) (fun c_30 => ?_)
    · rw [show lwR C t k v = (0, lw3 (up (meetC C t k) 15 (meetR C t k).toNatClampNeg 3) t k v) from by simp only [lwR, if_neg c_18, if_pos c_30]]
      refine V_aloadt (dG D_X4_lookToWrite 22 rfl) rfl ?_
      refine V_iconst (v := 3) (dG D_X4_lookToWrite 23 rfl) (by decide) ?_
      refine pf_X4_147 rfl (dG D_X4_lookToWrite 24 rfl) hu ?_
      exact lw_47 ht hk (WF_up15 hWm h2 (by decide)) (show 0 + (cap (meetC C t k) - cap C) ≤ mc by omega) (show 0 + 4 * (cap (meetC C t k) - cap C) ≤ ms by omega) h
    · rw [show lwR C t k v = (waR (meetC C t k) t (meetR C t k), waC (meetC C t k) t (meetR C t k)) from by simp only [lwR, if_neg c_18, if_neg c_30]]
      refine V_aload_n (dG D_X4_lookToWrite 17 rfl) rfl ?_
      refine V_aload_nt (dG D_X4_lookToWrite 18 rfl) rfl ?_
      refine V_aloadt (dG D_X4_lookToWrite 19 rfl) rfl ?_
      refine R_vb2 (ok_waitFor ht hu hWm.aw) lk_X4_291 (dG D_X4_lookToWrite 20 rfl) rcv_4 ⟨Nat.le_of_ble_eq_true rfl, Nat.le_of_ble_eq_true rfl⟩ ⟨by show 0 + (cap (meetC C t k) - cap C) + 0 ≤ mc; omega, by show 0 + 4 * (cap (meetC C t k) - cap C) + 0 ≤ ms; omega⟩ (by first | exact Nat.le_of_ble_eq_true rfl | simp [cat_rf, cat_int, cat_ref]) (fun h => ?_)
      exact V_iret (dG D_X4_lookToWrite 21 rfl) rfl (by show _ ≤ mc; omega) (by show _ ≤ ms; omega) ⟨rfl, rfl, rfl, rfl⟩
theorem ok_needUp {n : Nat} (hn : n < 4) (h1 : C 3 n = 0) : RET g K_X4_needUp 0 0 [.ref (ad g 0), .int (nI n)] nt C M o none C M o := by
  refine MT_of (by decide +kernel) rfl rfl (Nat.le_of_ble_eq_true rfl) (by simp [cat_rf, cat_int, cat_ref]) (fun h => ?_)
  refine V_aload_n (dG D_X4_needUp 0 rfl) rfl ?_
  refine gf_X4_11 rfl (dG D_X4_needUp 1 rfl) ?_
  refine V_iload_n (dG D_X4_needUp 2 rfl) rfl ?_
  refine aald_nodes (dG D_X4_needUp 3 rfl) (by first | assumption | exact inr_nI (by first | assumption | omega) (by first | decide | assumption | omega) | exact inr_of (by assumption)) ?_
  refine gf_X4_76 rfl (dG D_X4_needUp 4 rfl) (by first | assumption | omega) ?_
  refine V_if_eq (tgt := 22) (dG D_X4_needUp 5 rfl) (by decide) (fun c_9 => ?_) (fun c_9 => absurd h1 c_9)
  exact V_vret (dG D_X4_needUp 11 rfl) rfl (Nat.le_of_ble_eq_true rfl) (Nat.le_of_ble_eq_true rfl) ⟨rfl, rfl, rfl, rfl⟩
theorem th_needUp {n : Nat} (hn : n < 4) (h1 : ¬ C 3 n = 0) : THR g K_X4_needUp 1 6 [.ref (ad g 0), .int (nI n)] nt C M o "java/lang/IllegalStateException" := by
  refine MT_of (by decide +kernel) rfl rfl (Nat.le_of_ble_eq_true rfl) (by simp [cat_rf, cat_int, cat_ref]) (fun h => ?_)
  refine V_aload_n (dG D_X4_needUp 0 rfl) rfl ?_
  refine gf_X4_11 rfl (dG D_X4_needUp 1 rfl) ?_
  refine V_iload_n (dG D_X4_needUp 2 rfl) rfl ?_
  refine aald_nodes (dG D_X4_needUp 3 rfl) (by first | assumption | exact inr_nI (by first | assumption | omega) (by first | decide | assumption | omega) | exact inr_of (by assumption)) ?_
  refine gf_X4_76 rfl (dG D_X4_needUp 4 rfl) (by first | assumption | omega) ?_
  refine V_if_eq (tgt := 22) (dG D_X4_needUp 5 rfl) (by decide) (fun c_9 => absurd c_9 h1) (fun c_9 => ?_)
  exact V_th55 (text := "the node is down") rfl rfl (by decide +kernel) (dG D_X4_needUp 6 rfl) (dG D_X4_needUp 7 rfl) (dG D_X4_needUp 8 rfl) (dG D_X4_needUp 9 rfl) (dG D_X4_needUp 10 rfl) (Nat.le_of_ble_eq_true rfl) (Nat.le_of_ble_eq_true rfl) (Nat.le_of_ble_eq_true rfl) (Nat.le_of_ble_eq_true rfl) ⟨rfl, rfl, rfl, rfl⟩
theorem ok_needKey {x : Int32} (h0 : ¬ x < 0) (h1 : x < 32) : RET g K_X4_needKey 0 0 [.ref (ad g 0), .int x] nt C M o none C M o := by
  refine MT_of (by decide +kernel) rfl rfl (Nat.le_of_ble_eq_true rfl) (by simp [cat_rf, cat_int, cat_ref]) (fun h => ?_)
  refine V_iload_n (dG D_X4_needKey 0 rfl) rfl ?_
  refine V_if_lt (tgt := 10) (dG D_X4_needKey 1 rfl) (by decide) (fun c_1 => absurd c_1 h0) (fun c_1 => ?_)
  refine V_iload_n (dG D_X4_needKey 2 rfl) rfl ?_
  refine V_bipush (v := 32) (dG D_X4_needKey 3 rfl) (by decide) ?_
  refine V_icmp_lt (tgt := 20) (dG D_X4_needKey 4 rfl) (by decide) (fun c_7 => ?_) (fun c_7 => absurd h1 c_7)
  exact V_vret (dG D_X4_needKey 10 rfl) rfl (Nat.le_of_ble_eq_true rfl) (Nat.le_of_ble_eq_true rfl) ⟨rfl, rfl, rfl, rfl⟩
theorem th_needKey {x : Int32} (h0 : x < 0 ∨ ¬ x < 32) : THR g K_X4_needKey 1 6 [.ref (ad g 0), .int x] nt C M o "java/lang/IndexOutOfBoundsException" := by
  refine MT_of (by decide +kernel) rfl rfl (Nat.le_of_ble_eq_true rfl) (by simp [cat_rf, cat_int, cat_ref]) (fun h => ?_)
  refine V_iload_n (dG D_X4_needKey 0 rfl) rfl ?_
  refine V_if_lt (tgt := 10) (dG D_X4_needKey 1 rfl) (by decide) (fun c_1 => ?_) (fun c_1 => ?_)
  · skip
    exact V_th98 (text := "no such key") rfl rfl (by decide +kernel) (dG D_X4_needKey 5 rfl) (dG D_X4_needKey 6 rfl) (dG D_X4_needKey 7 rfl) (dG D_X4_needKey 8 rfl) (dG D_X4_needKey 9 rfl) (Nat.le_of_ble_eq_true rfl) (Nat.le_of_ble_eq_true rfl) (Nat.le_of_ble_eq_true rfl) (Nat.le_of_ble_eq_true rfl) ⟨rfl, rfl, rfl, rfl⟩
  · skip
    refine V_iload_n (dG D_X4_needKey 2 rfl) rfl ?_
    refine V_bipush (v := 32) (dG D_X4_needKey 3 rfl) (by decide) ?_
    refine V_icmp_lt (tgt := 20) (dG D_X4_needKey 4 rfl) (by decide) (fun c_7 => absurd c_7 (h0.resolve_left c_1)) (fun c_7 => ?_)
    exact V_th98 (text := "no such key") rfl rfl (by decide +kernel) (dG D_X4_needKey 5 rfl) (dG D_X4_needKey 6 rfl) (dG D_X4_needKey 7 rfl) (dG D_X4_needKey 8 rfl) (dG D_X4_needKey 9 rfl) (Nat.le_of_ble_eq_true rfl) (Nat.le_of_ble_eq_true rfl) (Nat.le_of_ble_eq_true rfl) (Nat.le_of_ble_eq_true rfl) ⟨rfl, rfl, rfl, rfl⟩
theorem ok_needTransaction {x : Int32} (h0 : ¬ x < 0) (h1 : x < C 10 0) : RET g K_X4_needTransaction 0 0 [.ref (ad g 0), .int x] nt C M o none C M o := by
  refine MT_of (by decide +kernel) rfl rfl (Nat.le_of_ble_eq_true rfl) (by simp [cat_rf, cat_int, cat_ref]) (fun h => ?_)
  refine V_iload_n (dG D_X4_needTransaction 0 rfl) rfl ?_
  refine V_if_lt (tgt := 12) (dG D_X4_needTransaction 1 rfl) (by decide) (fun c_1 => absurd c_1 h0) (fun c_1 => ?_)
  refine V_iload_n (dG D_X4_needTransaction 2 rfl) rfl ?_
  refine V_aload_n (dG D_X4_needTransaction 3 rfl) rfl ?_
  refine gf_X4_115 rfl (dG D_X4_needTransaction 4 rfl) ?_
  refine V_icmp_lt (tgt := 22) (dG D_X4_needTransaction 5 rfl) (by decide) (fun c_9 => ?_) (fun c_9 => absurd h1 c_9)
  exact V_vret (dG D_X4_needTransaction 11 rfl) rfl (Nat.le_of_ble_eq_true rfl) (Nat.le_of_ble_eq_true rfl) ⟨rfl, rfl, rfl, rfl⟩
theorem th_needTransaction {x : Int32} (h0 : x < 0 ∨ ¬ x < C 10 0) : THR g K_X4_needTransaction 1 6 [.ref (ad g 0), .int x] nt C M o "java/lang/IndexOutOfBoundsException" := by
  refine MT_of (by decide +kernel) rfl rfl (Nat.le_of_ble_eq_true rfl) (by simp [cat_rf, cat_int, cat_ref]) (fun h => ?_)
  refine V_iload_n (dG D_X4_needTransaction 0 rfl) rfl ?_
  refine V_if_lt (tgt := 12) (dG D_X4_needTransaction 1 rfl) (by decide) (fun c_1 => ?_) (fun c_1 => ?_)
  · skip
    exact V_th98 (text := "no such transaction") rfl rfl (by decide +kernel) (dG D_X4_needTransaction 6 rfl) (dG D_X4_needTransaction 7 rfl) (dG D_X4_needTransaction 8 rfl) (dG D_X4_needTransaction 9 rfl) (dG D_X4_needTransaction 10 rfl) (Nat.le_of_ble_eq_true rfl) (Nat.le_of_ble_eq_true rfl) (Nat.le_of_ble_eq_true rfl) (Nat.le_of_ble_eq_true rfl) ⟨rfl, rfl, rfl, rfl⟩
  · skip
    refine V_iload_n (dG D_X4_needTransaction 2 rfl) rfl ?_
    refine V_aload_n (dG D_X4_needTransaction 3 rfl) rfl ?_
    refine gf_X4_115 rfl (dG D_X4_needTransaction 4 rfl) ?_
    refine V_icmp_lt (tgt := 22) (dG D_X4_needTransaction 5 rfl) (by decide) (fun c_9 => absurd c_9 (h0.resolve_left c_1)) (fun c_9 => ?_)
    exact V_th98 (text := "no such transaction") rfl rfl (by decide +kernel) (dG D_X4_needTransaction 6 rfl) (dG D_X4_needTransaction 7 rfl) (dG D_X4_needTransaction 8 rfl) (dG D_X4_needTransaction 9 rfl) (dG D_X4_needTransaction 10 rfl) (Nat.le_of_ble_eq_true rfl) (Nat.le_of_ble_eq_true rfl) (Nat.le_of_ble_eq_true rfl) (Nat.le_of_ble_eq_true rfl) ⟨rfl, rfl, rfl, rfl⟩
theorem ok_needPlace {x : Int32} (h0 : ¬ x < 0) : RET g K_X4_needPlace 0 0 [.ref (ad g 0), .int x] nt C M o none C M o := by
  refine MT_of (by decide +kernel) rfl rfl (Nat.le_of_ble_eq_true rfl) (by simp [cat_rf, cat_int, cat_ref]) (fun h => ?_)
  refine V_iload_n (dG D_X4_needPlace 0 rfl) rfl ?_
  refine V_if_ge (tgt := 14) (dG D_X4_needPlace 1 rfl) (by decide) (fun c_1 => ?_) (fun c_1 => absurd (Int32.not_le.mp c_1) h0)
  exact V_vret (dG D_X4_needPlace 7 rfl) rfl (Nat.le_of_ble_eq_true rfl) (Nat.le_of_ble_eq_true rfl) ⟨rfl, rfl, rfl, rfl⟩
theorem th_needPlace {x : Int32} (h0 : x < 0) : THR g K_X4_needPlace 1 6 [.ref (ad g 0), .int x] nt C M o "java/lang/IndexOutOfBoundsException" := by
  refine MT_of (by decide +kernel) rfl rfl (Nat.le_of_ble_eq_true rfl) (by simp [cat_rf, cat_int, cat_ref]) (fun h => ?_)
  refine V_iload_n (dG D_X4_needPlace 0 rfl) rfl ?_
  refine V_if_ge (tgt := 14) (dG D_X4_needPlace 1 rfl) (by decide) (fun c_1 => absurd h0 (Int32.not_lt.mpr c_1)) (fun c_1 => ?_)
  exact V_th98 (text := "no such place") rfl rfl (by decide +kernel) (dG D_X4_needPlace 2 rfl) (dG D_X4_needPlace 3 rfl) (dG D_X4_needPlace 4 rfl) (dG D_X4_needPlace 5 rfl) (dG D_X4_needPlace 6 rfl) (Nat.le_of_ble_eq_true rfl) (Nat.le_of_ble_eq_true rfl) (Nat.le_of_ble_eq_true rfl) (Nat.le_of_ble_eq_true rfl) ⟨rfl, rfl, rfl, rfl⟩
theorem ok_needWhat {x : Int32} (h0 : ¬ x < 0) (h1 : x ≤ 6) : RET g K_X4_needWhat 0 0 [.ref (ad g 0), .int x] nt C M o none C M o := by
  refine MT_of (by decide +kernel) rfl rfl (Nat.le_of_ble_eq_true rfl) (by simp [cat_rf, cat_int, cat_ref]) (fun h => ?_)
  refine V_iload_n (dG D_X4_needWhat 0 rfl) rfl ?_
  refine V_if_lt (tgt := 10) (dG D_X4_needWhat 1 rfl) (by decide) (fun c_1 => absurd c_1 h0) (fun c_1 => ?_)
  refine V_iload_n (dG D_X4_needWhat 2 rfl) rfl ?_
  refine V_bipush (v := 6) (dG D_X4_needWhat 3 rfl) (by decide) ?_
  refine V_icmp_le (tgt := 20) (dG D_X4_needWhat 4 rfl) (by decide) (fun c_7 => ?_) (fun c_7 => absurd h1 c_7)
  exact V_vret (dG D_X4_needWhat 10 rfl) rfl (Nat.le_of_ble_eq_true rfl) (Nat.le_of_ble_eq_true rfl) ⟨rfl, rfl, rfl, rfl⟩
theorem th_needWhat {x : Int32} (h0 : x < 0 ∨ ¬ x ≤ 6) : THR g K_X4_needWhat 1 6 [.ref (ad g 0), .int x] nt C M o "java/lang/IllegalArgumentException" := by
  refine MT_of (by decide +kernel) rfl rfl (Nat.le_of_ble_eq_true rfl) (by simp [cat_rf, cat_int, cat_ref]) (fun h => ?_)
  refine V_iload_n (dG D_X4_needWhat 0 rfl) rfl ?_
  refine V_if_lt (tgt := 10) (dG D_X4_needWhat 1 rfl) (by decide) (fun c_1 => ?_) (fun c_1 => ?_)
  · skip
    exact V_th44 (text := "what is told is 0 to 6") rfl rfl (by decide +kernel) (dG D_X4_needWhat 5 rfl) (dG D_X4_needWhat 6 rfl) (dG D_X4_needWhat 7 rfl) (dG D_X4_needWhat 8 rfl) (dG D_X4_needWhat 9 rfl) (Nat.le_of_ble_eq_true rfl) (Nat.le_of_ble_eq_true rfl) (Nat.le_of_ble_eq_true rfl) (Nat.le_of_ble_eq_true rfl) ⟨rfl, rfl, rfl, rfl⟩
  · skip
    refine V_iload_n (dG D_X4_needWhat 2 rfl) rfl ?_
    refine V_bipush (v := 6) (dG D_X4_needWhat 3 rfl) (by decide) ?_
    refine V_icmp_le (tgt := 20) (dG D_X4_needWhat 4 rfl) (by decide) (fun c_7 => absurd c_7 (h0.resolve_left c_1)) (fun c_7 => ?_)
    exact V_th44 (text := "what is told is 0 to 6") rfl rfl (by decide +kernel) (dG D_X4_needWhat 5 rfl) (dG D_X4_needWhat 6 rfl) (dG D_X4_needWhat 7 rfl) (dG D_X4_needWhat 8 rfl) (dG D_X4_needWhat 9 rfl) (Nat.le_of_ble_eq_true rfl) (Nat.le_of_ble_eq_true rfl) (Nat.le_of_ble_eq_true rfl) (Nat.le_of_ble_eq_true rfl) ⟨rfl, rfl, rfl, rfl⟩
end B10
