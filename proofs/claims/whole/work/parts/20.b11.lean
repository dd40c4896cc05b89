/-! class: time, nodes and ranges -/
def dnS (n : Nat) : Nat → Nat → Int32 → St → Int32 × St
  | 0, _, c, C => (c, C)
  | m + 1, i, c, C => if C 4 i = nI n then (if C 6 i < 0 then dnS n m (i + 1) c C else if C 7 i = 0 then dnS n m (i + 1) (c + 1) (up C 6 i (-1)) else dnS n m (i + 1) c C) else dnS n m (i + 1) c C
def syS (n : Nat) : Nat → Nat → Int32 → St → Int32 × St
  | 0, _, c, C => (c, C)
  | m + 1, i, c, C => if C 4 i = nI n then (if C 6 i < 0 then syS n m (i + 1) c C else if C 7 i = 0 then syS n m (i + 1) (c + 1) (up C 7 i 1) else syS n m (i + 1) c C) else syS n m (i + 1) c C
def upS (n : Nat) (s : Int32) : Nat → Nat → St → St
  | 0, _, C => C
  | m + 1, i, C => upS n s m (i + 1) (if C 4 i = nI n then noteS C i s else C)
def mvS (n : Nat) (s : Int32) : Nat → Nat → St → St
  | 0, _, C => C
  | m + 1, i, C => mvS n s m (i + 1) (noteS (up C 4 i (nI n)) i s)
def upZ (C : St) (n : Nat) : St := tellS (up C 3 n 0) n (C 0 0)
def upV (C : St) (n : Nat) : Int32 := tellS (up C 3 n 0) n (C 0 0) 2 n
section B11
set_option maxHeartbeats 40000
variable {g : GT} {nt : Nat} {C M : St} {o : Int64} {t u : Int32}
theorem nI_neg4 {n : Nat} (h : n < 4) : ¬ nI n < 0 := nI_pos (by omega)
theorem nI_lt4 {n : Nat} (h : n < 4) : nI n < 4 := nI_lt (b := 4) h (by decide)
theorem okN {n : Nat} (hn : n < 4) : RET g K_X4_needNode 0 0 [.ref (ad g 0), .int (nI n)] nt C M o none C M o := ok_needNode (nI_neg4 hn) (nI_lt4 hn)
theorem ok_pass {x : Int32} (h1 : ¬ x < 1) (h2 : x ≤ 50) (h3 : C 0 0 + x ≤ 2000) : RET g K_X4_pass 0 0 [.ref (ad g 0), .int x] nt C M o (some (.int (C 0 0 + x))) (up C 0 0 (C 0 0 + x)) M o := by
  refine MT_of (by decide +kernel) rfl rfl (Nat.le_of_ble_eq_true rfl) (by simp [cat_rf, cat_int, cat_ref]) (fun h => ?_)
  refine V_iload_n (dG D_X4_pass 0 rfl) rfl ?_
  refine V_iconst (v := 1) (dG D_X4_pass 1 rfl) (by decide) ?_
  refine V_icmp_lt (tgt := 11) (dG D_X4_pass 2 rfl) (by decide) (fun c_2 => absurd c_2 h1) (fun c_2 => ?_)
  refine V_iload_n (dG D_X4_pass 3 rfl) rfl ?_
  refine V_bipush (v := 50) (dG D_X4_pass 4 rfl) (by decide) ?_
  refine V_icmp_le (tgt := 21) (dG D_X4_pass 5 rfl) (by decide) (fun c_8 => ?_) (fun c_8 => absurd h2 c_8)
  refine V_aload_n (dG D_X4_pass 11 rfl) rfl ?_
  refine gf_X4_47 rfl (dG D_X4_pass 12 rfl) ?_
  refine V_iload_n (dG D_X4_pass 13 rfl) rfl ?_
  refine V_iadd (dG D_X4_pass 14 rfl) ?_
  refine V_sipush (v := 2000) (dG D_X4_pass 15 rfl) (by decide) ?_
  refine V_icmp_le (tgt := 43) (dG D_X4_pass 16 rfl) (by decide) (fun c_30 => ?_) (fun c_30 => absurd h3 c_30)
  refine V_aload_n (dG D_X4_pass 22 rfl) rfl ?_
  refine V_dup (dG D_X4_pass 23 rfl) rfl ?_
  refine gf_X4_47 rfl (dG D_X4_pass 24 rfl) ?_
  refine V_iload_n (dG D_X4_pass 25 rfl) rfl ?_
  refine V_iadd (dG D_X4_pass 26 rfl) ?_
  refine pf_X4_47 rfl (dG D_X4_pass 27 rfl) ?_
  refine V_aload_n (dG D_X4_pass 28 rfl) rfl ?_
  refine gf_X4_47 rfl (dG D_X4_pass 29 rfl) ?_
  exact V_iret (dG D_X4_pass 30 rfl) rfl (Nat.le_of_ble_eq_true rfl) (Nat.le_of_ble_eq_true rfl) ⟨by rw [up_eq], rfl, rfl, rfl⟩
theorem th_pass1 {x : Int32} (h1 : x < 1 ∨ ¬ x ≤ 50) : THR g K_X4_pass 1 6 [.ref (ad g 0), .int x] nt C M o "java/lang/IllegalArgumentException" := by
  refine MT_of (by decide +kernel) rfl rfl (Nat.le_of_ble_eq_true rfl) (by simp [cat_rf, cat_int, cat_ref]) (fun h => ?_)
  refine V_iload_n (dG D_X4_pass 0 rfl) rfl ?_
  refine V_iconst (v := 1) (dG D_X4_pass 1 rfl) (by decide) ?_
  refine V_icmp_lt (tgt := 11) (dG D_X4_pass 2 rfl) (by decide) (fun c_2 => ?_) (fun c_2 => ?_)
  · skip
    exact V_th44 (text := "ticks are 1 to 50") rfl rfl (by decide +kernel) (dG D_X4_pass 6 rfl) (dG D_X4_pass 7 rfl) (dG D_X4_pass 8 rfl) (dG D_X4_pass 9 rfl) (dG D_X4_pass 10 rfl) (Nat.le_of_ble_eq_true rfl) (Nat.le_of_ble_eq_true rfl) (Nat.le_of_ble_eq_true rfl) (Nat.le_of_ble_eq_true rfl) ⟨rfl, rfl, rfl, rfl⟩
  · skip
    refine V_iload_n (dG D_X4_pass 3 rfl) rfl ?_
    refine V_bipush (v := 50) (dG D_X4_pass 4 rfl) (by decide) ?_
    refine V_icmp_le (tgt := 21) (dG D_X4_pass 5 rfl) (by decide) (fun c_8 => absurd c_8 (h1.resolve_left c_2)) (fun c_8 => ?_)
    exact V_th44 (text := "ticks are 1 to 50") rfl rfl (by decide +kernel) (dG D_X4_pass 6 rfl) (dG D_X4_pass 7 rfl) (dG D_X4_pass 8 rfl) (dG D_X4_pass 9 rfl) (dG D_X4_pass 10 rfl) (Nat.le_of_ble_eq_true rfl) (Nat.le_of_ble_eq_true rfl) (Nat.le_of_ble_eq_true rfl) (Nat.le_of_ble_eq_true rfl) ⟨rfl, rfl, rfl, rfl⟩
theorem th_pass2 {x : Int32} (h1 : ¬ x < 1) (h2 : x ≤ 50) (h3 : ¬ C 0 0 + x ≤ 2000) : THR g K_X4_pass 1 6 [.ref (ad g 0), .int x] nt C M o "java/lang/IllegalStateException" := by
  refine MT_of (by decide +kernel) rfl rfl (Nat.le_of_ble_eq_true rfl) (by simp [cat_rf, cat_int, cat_ref]) (fun h => ?_)
  refine V_iload_n (dG D_X4_pass 0 rfl) rfl ?_
  refine V_iconst (v := 1) (dG D_X4_pass 1 rfl) (by decide) ?_
  refine V_icmp_lt (tgt := 11) (dG D_X4_pass 2 rfl) (by decide) (fun c_2 => absurd c_2 h1) (fun c_2 => ?_)
  refine V_iload_n (dG D_X4_pass 3 rfl) rfl ?_
  refine V_bipush (v := 50) (dG D_X4_pass 4 rfl) (by decide) ?_
  refine V_icmp_le (tgt := 21) (dG D_X4_pass 5 rfl) (by decide) (fun c_8 => ?_) (fun c_8 => absurd h2 c_8)
  refine V_aload_n (dG D_X4_pass 11 rfl) rfl ?_
  refine gf_X4_47 rfl (dG D_X4_pass 12 rfl) ?_
  refine V_iload_n (dG D_X4_pass 13 rfl) rfl ?_
  refine V_iadd (dG D_X4_pass 14 rfl) ?_
  refine V_sipush (v := 2000) (dG D_X4_pass 15 rfl) (by decide) ?_
  refine V_icmp_le (tgt := 43) (dG D_X4_pass 16 rfl) (by decide) (fun c_30 => absurd c_30 h3) (fun c_30 => ?_)
  exact V_th55 (text := "the time is at most 2000") rfl rfl (by decide +kernel) (dG D_X4_pass 17 rfl) (dG D_X4_pass 18 rfl) (dG D_X4_pass 19 rfl) (dG D_X4_pass 20 rfl) (dG D_X4_pass 21 rfl) (Nat.le_of_ble_eq_true rfl) (Nat.le_of_ble_eq_true rfl) (Nat.le_of_ble_eq_true rfl) (Nat.le_of_ble_eq_true rfl) ⟨rfl, rfl, rfl, rfl⟩
theorem ok_skew {n : Nat} (hn : n < 4) {x : Int32} (h1 : ¬ x < -5) (h2 : x ≤ 5) : RET g K_X4_skew 0 0 [.ref (ad g 0), .int (nI n), .int x] nt C M o (some (.int (C 1 n))) (up C 1 n x) M o := by
  refine MT_of (by decide +kernel) rfl rfl (Nat.le_of_ble_eq_true rfl) (by simp [cat_rf, cat_int, cat_ref]) (fun h => ?_)
  refine V_aload_n (dG D_X4_skew 0 rfl) rfl ?_
  refine V_iload_n (dG D_X4_skew 1 rfl) rfl ?_
  refine R_nb1 (okN hn) lk_X4_56 (dG D_X4_skew 2 rfl) rcv_4 ⟨Nat.le_of_ble_eq_true rfl, Nat.le_of_ble_eq_true rfl⟩ ⟨(Nat.le_of_ble_eq_true rfl), (Nat.le_of_ble_eq_true rfl)⟩ (by first | exact Nat.le_of_ble_eq_true rfl | simp [cat_rf, cat_int, cat_ref]) (fun h => ?_)
  refine V_iload_n (dG D_X4_skew 3 rfl) rfl ?_
  refine V_bipush (v := -5) (dG D_X4_skew 4 rfl) (by decide) ?_
  refine V_icmp_lt (tgt := 16) (dG D_X4_skew 5 rfl) (by decide) (fun c_8 => absurd c_8 h1) (fun c_8 => ?_)
  refine V_iload_n (dG D_X4_skew 6 rfl) rfl ?_
  refine V_iconst (v := 5) (dG D_X4_skew 7 rfl) (by decide) ?_
  refine V_icmp_le (tgt := 26) (dG D_X4_skew 8 rfl) (by decide) (fun c_13 => ?_) (fun c_13 => absurd h2 c_13)
  refine V_aload_n (dG D_X4_skew 14 rfl) rfl ?_
  refine gf_X4_11 rfl (dG D_X4_skew 15 rfl) ?_
  refine V_iload_n (dG D_X4_skew 16 rfl) rfl ?_
  refine aald_nodes (dG D_X4_skew 17 rfl) (by first | assumption | exact inr_nI (by first | assumption | omega) (by first | decide | assumption | omega) | exact inr_of (by assumption)) ?_
  refine gf_X4_62 rfl (dG D_X4_skew 18 rfl) (by first | assumption | omega) ?_
  refine V_istore_n (dG D_X4_skew 19 rfl) (Nat.le_of_ble_eq_true rfl) ?_
  refine V_aload_n (dG D_X4_skew 20 rfl) rfl ?_
  refine gf_X4_11 rfl (dG D_X4_skew 21 rfl) ?_
  refine V_iload_n (dG D_X4_skew 22 rfl) rfl ?_
  refine aald_nodes (dG D_X4_skew 23 rfl) (by first | assumption | exact inr_nI (by first | assumption | omega) (by first | decide | assumption | omega) | exact inr_of (by assumption)) ?_
  refine V_iload_n (dG D_X4_skew 24 rfl) rfl ?_
  refine pf_X4_62 rfl (dG D_X4_skew 25 rfl) (by first | assumption | omega) ?_
  refine V_iload_n (dG D_X4_skew 26 rfl) rfl ?_
  exact V_iret (dG D_X4_skew 27 rfl) rfl (Nat.le_of_ble_eq_true rfl) (Nat.le_of_ble_eq_true rfl) ⟨rfl, rfl, rfl, rfl⟩
theorem th_skew1 {x y : Int32} (h0 : x < 0 ∨ ¬ x < 4) : THR g K_X4_skew 1 6 [.ref (ad g 0), .int x, .int y] nt C M o "java/lang/IndexOutOfBoundsException" := by
  refine MT_of (by decide +kernel) rfl rfl (Nat.le_of_ble_eq_true rfl) (by simp [cat_rf, cat_int, cat_ref]) (fun h => ?_)
  refine V_aload_n (dG D_X4_skew 0 rfl) rfl ?_
  refine V_iload_n (dG D_X4_skew 1 rfl) rfl ?_
  exact T_b1 (th_needNode h0) lk_X4_56 (dG D_X4_skew 2 rfl) rcv_4 ⟨Nat.le_of_ble_eq_true rfl, Nat.le_of_ble_eq_true rfl⟩ ⟨(Nat.le_of_ble_eq_true rfl), (Nat.le_of_ble_eq_true rfl)⟩ (by first | exact Nat.le_of_ble_eq_true rfl | simp [cat_rf, cat_int, cat_ref]) (fun h => VX_out rfl (Nat.le_of_ble_eq_true rfl) (Nat.le_of_ble_eq_true rfl) ⟨rfl, rfl, rfl, rfl⟩)
theorem th_skew2 {n : Nat} (hn : n < 4) {x : Int32} (h1 : x < -5 ∨ ¬ x ≤ 5) : THR g K_X4_skew 1 6 [.ref (ad g 0), .int (nI n), .int x] nt C M o "java/lang/IllegalArgumentException" := by
  refine MT_of (by decide +kernel) rfl rfl (Nat.le_of_ble_eq_true rfl) (by simp [cat_rf, cat_int, cat_ref]) (fun h => ?_)
  refine V_aload_n (dG D_X4_skew 0 rfl) rfl ?_
  refine V_iload_n (dG D_X4_skew 1 rfl) rfl ?_
  refine R_nb1 (okN hn) lk_X4_56 (dG D_X4_skew 2 rfl) rcv_4 ⟨Nat.le_of_ble_eq_true rfl, Nat.le_of_ble_eq_true rfl⟩ ⟨(Nat.le_of_ble_eq_true rfl), (Nat.le_of_ble_eq_true rfl)⟩ (by first | exact Nat.le_of_ble_eq_true rfl | simp [cat_rf, cat_int, cat_ref]) (fun h => ?_)
  refine V_iload_n (dG D_X4_skew 3 rfl) rfl ?_
  refine V_bipush (v := -5) (dG D_X4_skew 4 rfl) (by decide) ?_
  refine V_icmp_lt (tgt := 16) (dG D_X4_skew 5 rfl) (by decide) (fun c_8 => ?_) (fun c_8 => ?_)
  · skip
    exact V_th44 (text := "a skew is -5 to 5") rfl rfl (by decide +kernel) (dG D_X4_skew 9 rfl) (dG D_X4_skew 10 rfl) (dG D_X4_skew 11 rfl) (dG D_X4_skew 12 rfl) (dG D_X4_skew 13 rfl) (Nat.le_of_ble_eq_true rfl) (Nat.le_of_ble_eq_true rfl) (Nat.le_of_ble_eq_true rfl) (Nat.le_of_ble_eq_true rfl) ⟨rfl, rfl, rfl, rfl⟩
  · skip
    refine V_iload_n (dG D_X4_skew 6 rfl) rfl ?_
    refine V_iconst (v := 5) (dG D_X4_skew 7 rfl) (by decide) ?_
    refine V_icmp_le (tgt := 26) (dG D_X4_skew 8 rfl) (by decide) (fun c_13 => absurd c_13 (h1.resolve_left c_8)) (fun c_13 => ?_)
    exact V_th44 (text := "a skew is -5 to 5") rfl rfl (by decide +kernel) (dG D_X4_skew 9 rfl) (dG D_X4_skew 10 rfl) (dG D_X4_skew 11 rfl) (dG D_X4_skew 12 rfl) (dG D_X4_skew 13 rfl) (Nat.le_of_ble_eq_true rfl) (Nat.le_of_ble_eq_true rfl) (Nat.le_of_ble_eq_true rfl) (Nat.le_of_ble_eq_true rfl) ⟨rfl, rfl, rfl, rfl⟩
theorem ok_clock {n : Nat} (hn : n < 4) (hd : C 3 n = 0) : RET g K_X4_clock 0 0 [.ref (ad g 0), .int (nI n)] nt C M o (some (.int (tellS C n (C 0 0) 2 n))) (tellS C n (C 0 0)) M o := by
  refine MT_of (by decide +kernel) rfl rfl (Nat.le_of_ble_eq_true rfl) (by simp [cat_rf, cat_int, cat_ref]) (fun h => ?_)
  refine V_aload_n (dG D_X4_clock 0 rfl) rfl ?_
  refine V_iload_n (dG D_X4_clock 1 rfl) rfl ?_
  refine R_nb1 (okN hn) lk_X4_56 (dG D_X4_clock 2 rfl) rcv_4 ⟨Nat.le_of_ble_eq_true rfl, Nat.le_of_ble_eq_true rfl⟩ ⟨(Nat.le_of_ble_eq_true rfl), (Nat.le_of_ble_eq_true rfl)⟩ (by first | exact Nat.le_of_ble_eq_true rfl | simp [cat_rf, cat_int, cat_ref]) (fun h => ?_)
  refine V_aload_n (dG D_X4_clock 3 rfl) rfl ?_
  refine V_iload_n (dG D_X4_clock 4 rfl) rfl ?_
  refine R_nb1 (ok_needUp hn hd) lk_X4_65 (dG D_X4_clock 5 rfl) rcv_4 ⟨Nat.le_of_ble_eq_true rfl, Nat.le_of_ble_eq_true rfl⟩ ⟨(Nat.le_of_ble_eq_true rfl), (Nat.le_of_ble_eq_true rfl)⟩ (by first | exact Nat.le_of_ble_eq_true rfl | simp [cat_rf, cat_int, cat_ref]) (fun h => ?_)
  refine V_aload_n (dG D_X4_clock 6 rfl) rfl ?_
  refine gf_X4_11 rfl (dG D_X4_clock 7 rfl) ?_
  refine V_iload_n (dG D_X4_clock 8 rfl) rfl ?_
  refine aald_nodes (dG D_X4_clock 9 rfl) (by first | assumption | exact inr_nI (by first | assumption | omega) (by first | decide | assumption | omega) | exact inr_of (by assumption)) ?_
  refine V_aload_n (dG D_X4_clock 10 rfl) rfl ?_
  refine gf_X4_47 rfl (dG D_X4_clock 11 rfl) ?_
  refine R_vb1 (ok_tellStamp hn) lk_X4_68 (dG D_X4_clock 12 rfl) (rcv_2 (by first | assumption | omega)) ⟨Nat.le_of_ble_eq_true rfl, Nat.le_of_ble_eq_true rfl⟩ ⟨(Nat.le_of_ble_eq_true rfl), (Nat.le_of_ble_eq_true rfl)⟩ (by first | exact Nat.le_of_ble_eq_true rfl | simp [cat_rf, cat_int, cat_ref]) (fun h => ?_)
  exact V_iret (dG D_X4_clock 13 rfl) rfl (Nat.le_of_ble_eq_true rfl) (Nat.le_of_ble_eq_true rfl) ⟨rfl, rfl, rfl, rfl⟩
theorem th_clock1 {x : Int32} (h0 : x < 0 ∨ ¬ x < 4) : THR g K_X4_clock 1 6 [.ref (ad g 0), .int x] nt C M o "java/lang/IndexOutOfBoundsException" := by
  refine MT_of (by decide +kernel) rfl rfl (Nat.le_of_ble_eq_true rfl) (by simp [cat_rf, cat_int, cat_ref]) (fun h => ?_)
  refine V_aload_n (dG D_X4_clock 0 rfl) rfl ?_
  refine V_iload_n (dG D_X4_clock 1 rfl) rfl ?_
  exact T_b1 (th_needNode h0) lk_X4_56 (dG D_X4_clock 2 rfl) rcv_4 ⟨Nat.le_of_ble_eq_true rfl, Nat.le_of_ble_eq_true rfl⟩ ⟨(Nat.le_of_ble_eq_true rfl), (Nat.le_of_ble_eq_true rfl)⟩ (by first | exact Nat.le_of_ble_eq_true rfl | simp [cat_rf, cat_int, cat_ref]) (fun h => VX_out rfl (Nat.le_of_ble_eq_true rfl) (Nat.le_of_ble_eq_true rfl) ⟨rfl, rfl, rfl, rfl⟩)
theorem th_clock2 {n : Nat} (hn : n < 4) (hd : ¬ C 3 n = 0) : THR g K_X4_clock 1 6 [.ref (ad g 0), .int (nI n)] nt C M o "java/lang/IllegalStateException" := by
  refine MT_of (by decide +kernel) rfl rfl (Nat.le_of_ble_eq_true rfl) (by simp [cat_rf, cat_int, cat_ref]) (fun h => ?_)
  refine V_aload_n (dG D_X4_clock 0 rfl) rfl ?_
  refine V_iload_n (dG D_X4_clock 1 rfl) rfl ?_
  refine R_nb1 (okN hn) lk_X4_56 (dG D_X4_clock 2 rfl) rcv_4 ⟨Nat.le_of_ble_eq_true rfl, Nat.le_of_ble_eq_true rfl⟩ ⟨(Nat.le_of_ble_eq_true rfl), (Nat.le_of_ble_eq_true rfl)⟩ (by first | exact Nat.le_of_ble_eq_true rfl | simp [cat_rf, cat_int, cat_ref]) (fun h => ?_)
  refine V_aload_n (dG D_X4_clock 3 rfl) rfl ?_
  refine V_iload_n (dG D_X4_clock 4 rfl) rfl ?_
  exact T_b1 (th_needUp hn hd) lk_X4_65 (dG D_X4_clock 5 rfl) rcv_4 ⟨Nat.le_of_ble_eq_true rfl, Nat.le_of_ble_eq_true rfl⟩ ⟨(Nat.le_of_ble_eq_true rfl), (Nat.le_of_ble_eq_true rfl)⟩ (by first | exact Nat.le_of_ble_eq_true rfl | simp [cat_rf, cat_int, cat_ref]) (fun h => VX_out rfl (Nat.le_of_ble_eq_true rfl) (Nat.le_of_ble_eq_true rfl) ⟨rfl, rfl, rfl, rfl⟩)
theorem th_down1 {x : Int32} (h0 : x < 0 ∨ ¬ x < 4) : THR g K_X4_down 1 6 [.ref (ad g 0), .int x] nt C M o "java/lang/IndexOutOfBoundsException" := by
  refine MT_of (by decide +kernel) rfl rfl (Nat.le_of_ble_eq_true rfl) (by simp [cat_rf, cat_int, cat_ref]) (fun h => ?_)
  refine V_aload_n (dG D_X4_down 0 rfl) rfl ?_
  refine V_iload_n (dG D_X4_down 1 rfl) rfl ?_
  exact T_b1 (th_needNode h0) lk_X4_56 (dG D_X4_down 2 rfl) rcv_4 ⟨Nat.le_of_ble_eq_true rfl, Nat.le_of_ble_eq_true rfl⟩ ⟨(Nat.le_of_ble_eq_true rfl), (Nat.le_of_ble_eq_true rfl)⟩ (by first | exact Nat.le_of_ble_eq_true rfl | simp [cat_rf, cat_int, cat_ref]) (fun h => VX_out rfl (Nat.le_of_ble_eq_true rfl) (Nat.le_of_ble_eq_true rfl) ⟨rfl, rfl, rfl, rfl⟩)
theorem th_down2 {n : Nat} (hn : n < 4) (hd : ¬ C 3 n = 0) : THR g K_X4_down 1 6 [.ref (ad g 0), .int (nI n)] nt C M o "java/lang/IllegalStateException" := by
  refine MT_of (by decide +kernel) rfl rfl (Nat.le_of_ble_eq_true rfl) (by simp [cat_rf, cat_int, cat_ref]) (fun h => ?_)
  refine V_aload_n (dG D_X4_down 0 rfl) rfl ?_
  refine V_iload_n (dG D_X4_down 1 rfl) rfl ?_
  refine R_nb1 (okN hn) lk_X4_56 (dG D_X4_down 2 rfl) rcv_4 ⟨Nat.le_of_ble_eq_true rfl, Nat.le_of_ble_eq_true rfl⟩ ⟨(Nat.le_of_ble_eq_true rfl), (Nat.le_of_ble_eq_true rfl)⟩ (by first | exact Nat.le_of_ble_eq_true rfl | simp [cat_rf, cat_int, cat_ref]) (fun h => ?_)
  refine V_aload_n (dG D_X4_down 3 rfl) rfl ?_
  refine V_iload_n (dG D_X4_down 4 rfl) rfl ?_
  exact T_b1 (th_needUp hn hd) lk_X4_65 (dG D_X4_down 5 rfl) rcv_4 ⟨Nat.le_of_ble_eq_true rfl, Nat.le_of_ble_eq_true rfl⟩ ⟨(Nat.le_of_ble_eq_true rfl), (Nat.le_of_ble_eq_true rfl)⟩ (by first | exact Nat.le_of_ble_eq_true rfl | simp [cat_rf, cat_int, cat_ref]) (fun h => VX_out rfl (Nat.le_of_ble_eq_true rfl) (Nat.le_of_ble_eq_true rfl) ⟨rfl, rfl, rfl, rfl⟩)
theorem th_sync1 {x : Int32} (h0 : x < 0 ∨ ¬ x < 4) : THR g K_X4_sync 1 6 [.ref (ad g 0), .int x] nt C M o "java/lang/IndexOutOfBoundsException" := by
  refine MT_of (by decide +kernel) rfl rfl (Nat.le_of_ble_eq_true rfl) (by simp [cat_rf, cat_int, cat_ref]) (fun h => ?_)
  refine V_aload_n (dG D_X4_sync 0 rfl) rfl ?_
  refine V_iload_n (dG D_X4_sync 1 rfl) rfl ?_
  exact T_b1 (th_needNode h0) lk_X4_56 (dG D_X4_sync 2 rfl) rcv_4 ⟨Nat.le_of_ble_eq_true rfl, Nat.le_of_ble_eq_true rfl⟩ ⟨(Nat.le_of_ble_eq_true rfl), (Nat.le_of_ble_eq_true rfl)⟩ (by first | exact Nat.le_of_ble_eq_true rfl | simp [cat_rf, cat_int, cat_ref]) (fun h => VX_out rfl (Nat.le_of_ble_eq_true rfl) (Nat.le_of_ble_eq_true rfl) ⟨rfl, rfl, rfl, rfl⟩)
theorem th_sync2 {n : Nat} (hn : n < 4) (hd : ¬ C 3 n = 0) : THR g K_X4_sync 1 6 [.ref (ad g 0), .int (nI n)] nt C M o "java/lang/IllegalStateException" := by
  refine MT_of (by decide +kernel) rfl rfl (Nat.le_of_ble_eq_true rfl) (by simp [cat_rf, cat_int, cat_ref]) (fun h => ?_)
  refine V_aload_n (dG D_X4_sync 0 rfl) rfl ?_
  refine V_iload_n (dG D_X4_sync 1 rfl) rfl ?_
  refine R_nb1 (okN hn) lk_X4_56 (dG D_X4_sync 2 rfl) rcv_4 ⟨Nat.le_of_ble_eq_true rfl, Nat.le_of_ble_eq_true rfl⟩ ⟨(Nat.le_of_ble_eq_true rfl), (Nat.le_of_ble_eq_true rfl)⟩ (by first | exact Nat.le_of_ble_eq_true rfl | simp [cat_rf, cat_int, cat_ref]) (fun h => ?_)
  refine V_aload_n (dG D_X4_sync 3 rfl) rfl ?_
  refine V_iload_n (dG D_X4_sync 4 rfl) rfl ?_
  exact T_b1 (th_needUp hn hd) lk_X4_65 (dG D_X4_sync 5 rfl) rcv_4 ⟨Nat.le_of_ble_eq_true rfl, Nat.le_of_ble_eq_true rfl⟩ ⟨(Nat.le_of_ble_eq_true rfl), (Nat.le_of_ble_eq_true rfl)⟩ (by first | exact Nat.le_of_ble_eq_true rfl | simp [cat_rf, cat_int, cat_ref]) (fun h => VX_out rfl (Nat.le_of_ble_eq_true rfl) (Nat.le_of_ble_eq_true rfl) ⟨rfl, rfl, rfl, rfl⟩)
theorem th_up1 {x : Int32} (h0 : x < 0 ∨ ¬ x < 4) : THR g K_X4_up 1 6 [.ref (ad g 0), .int x] nt C M o "java/lang/IndexOutOfBoundsException" := by
  refine MT_of (by decide +kernel) rfl rfl (Nat.le_of_ble_eq_true rfl) (by simp [cat_rf, cat_int, cat_ref]) (fun h => ?_)
  refine V_aload_n (dG D_X4_up 0 rfl) rfl ?_
  refine V_iload_n (dG D_X4_up 1 rfl) rfl ?_
  exact T_b1 (th_needNode h0) lk_X4_56 (dG D_X4_up 2 rfl) rcv_4 ⟨Nat.le_of_ble_eq_true rfl, Nat.le_of_ble_eq_true rfl⟩ ⟨(Nat.le_of_ble_eq_true rfl), (Nat.le_of_ble_eq_true rfl)⟩ (by first | exact Nat.le_of_ble_eq_true rfl | simp [cat_rf, cat_int, cat_ref]) (fun h => VX_out rfl (Nat.le_of_ble_eq_true rfl) (Nat.le_of_ble_eq_true rfl) ⟨rfl, rfl, rfl, rfl⟩)
theorem th_up2 {n : Nat} (hn : n < 4) (hd : C 3 n = 0) : THR g K_X4_up 1 6 [.ref (ad g 0), .int (nI n)] nt C M o "java/lang/IllegalStateException" := by
  refine MT_of (by decide +kernel) rfl rfl (Nat.le_of_ble_eq_true rfl) (by simp [cat_rf, cat_int, cat_ref]) (fun h => ?_)
  refine V_aload_n (dG D_X4_up 0 rfl) rfl ?_
  refine V_iload_n (dG D_X4_up 1 rfl) rfl ?_
  refine R_nb1 (okN hn) lk_X4_56 (dG D_X4_up 2 rfl) rcv_4 ⟨Nat.le_of_ble_eq_true rfl, Nat.le_of_ble_eq_true rfl⟩ ⟨(Nat.le_of_ble_eq_true rfl), (Nat.le_of_ble_eq_true rfl)⟩ (by first | exact Nat.le_of_ble_eq_true rfl | simp [cat_rf, cat_int, cat_ref]) (fun h => ?_)
  refine V_aload_n (dG D_X4_up 3 rfl) rfl ?_
  refine gf_X4_11 rfl (dG D_X4_up 4 rfl) ?_
  refine V_iload_n (dG D_X4_up 5 rfl) rfl ?_
  refine aald_nodes (dG D_X4_up 6 rfl) (by first | assumption | exact inr_nI (by first | assumption | omega) (by first | decide | assumption | omega) | exact inr_of (by assumption)) ?_
  refine gf_X4_76 rfl (dG D_X4_up 7 rfl) (by first | assumption | omega) ?_
  refine V_if_ne (tgt := 27) (dG D_X4_up 8 rfl) (by decide) (fun c_14 => absurd hd c_14) (fun c_14 => ?_)
  exact V_th55 (text := "the node is not down") rfl rfl (by decide +kernel) (dG D_X4_up 9 rfl) (dG D_X4_up 10 rfl) (dG D_X4_up 11 rfl) (dG D_X4_up 12 rfl) (dG D_X4_up 13 rfl) (Nat.le_of_ble_eq_true rfl) (Nat.le_of_ble_eq_true rfl) (Nat.le_of_ble_eq_true rfl) (Nat.le_of_ble_eq_true rfl) ⟨rfl, rfl, rfl, rfl⟩
theorem ok_split {k : Nat} (hk : k < 32) (h1 : ¬ nI k < 1) (h2 : C 5 k = 0) : RET g K_X4_split 0 0 [.ref (ad g 0), .int (nI k)] nt C M o (some (.int (rgS (up C 5 k 1) 31 1 0 + 1))) (up C 5 k 1) M o := by
  refine MT_of (by decide +kernel) rfl rfl (Nat.le_of_ble_eq_true rfl) (by simp [cat_rf, cat_int, cat_ref]) (fun h => ?_)
  refine V_iload_n (dG D_X4_split 0 rfl) rfl ?_
  refine V_iconst (v := 1) (dG D_X4_split 1 rfl) (by decide) ?_
  refine V_icmp_lt (tgt := 11) (dG D_X4_split 2 rfl) (by decide) (fun c_2 => absurd c_2 h1) (fun c_2 => ?_)
  refine V_iload_n (dG D_X4_split 3 rfl) rfl ?_
  refine V_bipush (v := 32) (dG D_X4_split 4 rfl) (by decide) ?_
  refine V_icmp_lt (tgt := 21) (dG D_X4_split 5 rfl) (by decide) (fun c_8 => ?_) (fun c_8 => absurd (nI_lt (b := 32) hk (by decide)) c_8)
  refine V_aload_n (dG D_X4_split 11 rfl) rfl ?_
  refine gf_X4_17 rfl (dG D_X4_split 12 rfl) ?_
  refine V_iload_n (dG D_X4_split 13 rfl) rfl ?_
  refine aald_cells (dG D_X4_split 14 rfl) (by first | assumption | exact inr_nI (by first | assumption | omega) (by first | decide | assumption | omega) | exact inr_of (by assumption)) ?_
  refine gf_X4_36 rfl (dG D_X4_split 15 rfl) (by first | assumption | omega) ?_
  refine V_if_eq (tgt := 43) (dG D_X4_split 16 rfl) (by decide) (fun c_30 => ?_) (fun c_30 => absurd h2 c_30)
  refine V_aload_n (dG D_X4_split 22 rfl) rfl ?_
  refine gf_X4_17 rfl (dG D_X4_split 23 rfl) ?_
  refine V_iload_n (dG D_X4_split 24 rfl) rfl ?_
  refine aald_cells (dG D_X4_split 25 rfl) (by first | assumption | exact inr_nI (by first | assumption | omega) (by first | decide | assumption | omega) | exact inr_of (by assumption)) ?_
  refine V_iconst (v := 1) (dG D_X4_split 26 rfl) (by decide) ?_
  refine pf_X4_36 rfl (dG D_X4_split 27 rfl) (by first | assumption | omega) rfl rfl ?_
  refine V_aload_n (dG D_X4_split 28 rfl) rfl ?_
  refine V_bipush (v := 31) (dG D_X4_split 29 rfl) (by decide) ?_
  refine R_vb1 (ok_rangeOf (k := 31) (by decide)) lk_X4_101 (dG D_X4_split 30 rfl) rcv_4 ⟨Nat.le_of_ble_eq_true rfl, Nat.le_of_ble_eq_true rfl⟩ ⟨(Nat.le_of_ble_eq_true rfl), (Nat.le_of_ble_eq_true rfl)⟩ (by first | exact Nat.le_of_ble_eq_true rfl | simp [cat_rf, cat_int, cat_ref]) (fun h => ?_)
  refine V_iconst (v := 1) (dG D_X4_split 31 rfl) (by decide) ?_
  refine V_iadd (dG D_X4_split 32 rfl) ?_
  exact V_iret (dG D_X4_split 33 rfl) rfl (Nat.le_of_ble_eq_true rfl) (Nat.le_of_ble_eq_true rfl) ⟨rfl, rfl, rfl, rfl⟩
theorem th_split1 {x : Int32} (h1 : x < 1 ∨ ¬ x < 32) : THR g K_X4_split 1 6 [.ref (ad g 0), .int x] nt C M o "java/lang/IndexOutOfBoundsException" := by
  refine MT_of (by decide +kernel) rfl rfl (Nat.le_of_ble_eq_true rfl) (by simp [cat_rf, cat_int, cat_ref]) (fun h => ?_)
  refine V_iload_n (dG D_X4_split 0 rfl) rfl ?_
  refine V_iconst (v := 1) (dG D_X4_split 1 rfl) (by decide) ?_
  refine V_icmp_lt (tgt := 11) (dG D_X4_split 2 rfl) (by decide) (fun c_2 => ?_) (fun c_2 => ?_)
  · skip
    exact V_th98 (text := "a new range begins at 1 to 31") rfl rfl (by decide +kernel) (dG D_X4_split 6 rfl) (dG D_X4_split 7 rfl) (dG D_X4_split 8 rfl) (dG D_X4_split 9 rfl) (dG D_X4_split 10 rfl) (Nat.le_of_ble_eq_true rfl) (Nat.le_of_ble_eq_true rfl) (Nat.le_of_ble_eq_true rfl) (Nat.le_of_ble_eq_true rfl) ⟨rfl, rfl, rfl, rfl⟩
  · skip
    refine V_iload_n (dG D_X4_split 3 rfl) rfl ?_
    refine V_bipush (v := 32) (dG D_X4_split 4 rfl) (by decide) ?_
    refine V_icmp_lt (tgt := 21) (dG D_X4_split 5 rfl) (by decide) (fun c_8 => absurd c_8 (h1.resolve_left c_2)) (fun c_8 => ?_)
    exact V_th98 (text := "a new range begins at 1 to 31") rfl rfl (by decide +kernel) (dG D_X4_split 6 rfl) (dG D_X4_split 7 rfl) (dG D_X4_split 8 rfl) (dG D_X4_split 9 rfl) (dG D_X4_split 10 rfl) (Nat.le_of_ble_eq_true rfl) (Nat.le_of_ble_eq_true rfl) (Nat.le_of_ble_eq_true rfl) (Nat.le_of_ble_eq_true rfl) ⟨rfl, rfl, rfl, rfl⟩
theorem th_split2 {k : Nat} (hk : k < 32) (h1 : ¬ nI k < 1) (h2 : ¬ C 5 k = 0) : THR g K_X4_split 1 6 [.ref (ad g 0), .int (nI k)] nt C M o "java/lang/IllegalStateException" := by
  refine MT_of (by decide +kernel) rfl rfl (Nat.le_of_ble_eq_true rfl) (by simp [cat_rf, cat_int, cat_ref]) (fun h => ?_)
  refine V_iload_n (dG D_X4_split 0 rfl) rfl ?_
  refine V_iconst (v := 1) (dG D_X4_split 1 rfl) (by decide) ?_
  refine V_icmp_lt (tgt := 11) (dG D_X4_split 2 rfl) (by decide) (fun c_2 => absurd c_2 h1) (fun c_2 => ?_)
  refine V_iload_n (dG D_X4_split 3 rfl) rfl ?_
  refine V_bipush (v := 32) (dG D_X4_split 4 rfl) (by decide) ?_
  refine V_icmp_lt (tgt := 21) (dG D_X4_split 5 rfl) (by decide) (fun c_8 => ?_) (fun c_8 => absurd (nI_lt (b := 32) hk (by decide)) c_8)
  refine V_aload_n (dG D_X4_split 11 rfl) rfl ?_
  refine gf_X4_17 rfl (dG D_X4_split 12 rfl) ?_
  refine V_iload_n (dG D_X4_split 13 rfl) rfl ?_
  refine aald_cells (dG D_X4_split 14 rfl) (by first | assumption | exact inr_nI (by first | assumption | omega) (by first | decide | assumption | omega) | exact inr_of (by assumption)) ?_
  refine gf_X4_36 rfl (dG D_X4_split 15 rfl) (by first | assumption | omega) ?_
  refine V_if_eq (tgt := 43) (dG D_X4_split 16 rfl) (by decide) (fun c_30 => absurd c_30 h2) (fun c_30 => ?_)
  exact V_th55 (text := "a range begins there already") rfl rfl (by decide +kernel) (dG D_X4_split 17 rfl) (dG D_X4_split 18 rfl) (dG D_X4_split 19 rfl) (dG D_X4_split 20 rfl) (dG D_X4_split 21 rfl) (Nat.le_of_ble_eq_true rfl) (Nat.le_of_ble_eq_true rfl) (Nat.le_of_ble_eq_true rfl) (Nat.le_of_ble_eq_true rfl) ⟨rfl, rfl, rfl, rfl⟩
theorem ok_merge {x : Int32} {f : Nat} (h1 : ¬ x < 0) (h2 : ¬ nI (f + 1) < 1) (hf : fkS C (x + 1) 32 0 0 = nI (f + 1)) (hf2 : f + 1 < 32) (h3 : C 4 (f + 1) = C 4 f) : RET g K_X4_merge 0 0 [.ref (ad g 0), .int x] nt C M o (some (.int (rgS (up C 5 (f + 1) 0) 31 1 0 + 1))) (up C 5 (f + 1) 0) M o := by
  refine MT_of (by decide +kernel) rfl rfl (Nat.le_of_ble_eq_true rfl) (by simp [cat_rf, cat_int, cat_ref]) (fun h => ?_)
  refine V_iload_n (dG D_X4_merge 0 rfl) rfl ?_
  refine V_if_ge (tgt := 9) (dG D_X4_merge 1 rfl) (by decide) (fun c_1 => ?_) (fun c_1 => absurd (Int32.not_lt.mp h1) c_1)
  refine V_aload_n (dG D_X4_merge 4 rfl) rfl ?_
  refine V_iload_n (dG D_X4_merge 5 rfl) rfl ?_
  refine V_iconst (v := 1) (dG D_X4_merge 6 rfl) (by decide) ?_
  refine V_iadd (dG D_X4_merge 7 rfl) ?_
  refine R_vb1 ok_firstKeyOf lk_X4_104 (dG D_X4_merge 8 rfl) rcv_4 ⟨Nat.le_of_ble_eq_true rfl, Nat.le_of_ble_eq_true rfl⟩ ⟨(Nat.le_of_ble_eq_true rfl), (Nat.le_of_ble_eq_true rfl)⟩ (by first | exact Nat.le_of_ble_eq_true rfl | simp [cat_rf, cat_int, cat_ref]) (fun h => ?_)
  rw [hf]
  refine V_istore_n (dG D_X4_merge 9 rfl) (Nat.le_of_ble_eq_true rfl) ?_
  refine V_iload_n (dG D_X4_merge 10 rfl) rfl ?_
  refine V_iconst (v := 1) (dG D_X4_merge 11 rfl) (by decide) ?_
  refine V_icmp_lt (tgt := 28) (dG D_X4_merge 12 rfl) (by decide) (fun c_19 => absurd c_19 h2) (fun c_19 => ?_)
  refine V_iload_n (dG D_X4_merge 13 rfl) rfl ?_
  refine V_bipush (v := 32) (dG D_X4_merge 14 rfl) (by decide) ?_
  refine V_icmp_lt (tgt := 38) (dG D_X4_merge 15 rfl) (by decide) (fun c_25 => ?_) (fun c_25 => absurd (nI_lt (b := 32) hf2 (by decide)) c_25)
  refine V_aload_n (dG D_X4_merge 21 rfl) rfl ?_
  refine gf_X4_17 rfl (dG D_X4_merge 22 rfl) ?_
  refine V_iload_n (dG D_X4_merge 23 rfl) rfl ?_
  refine aald_cells (dG D_X4_merge 24 rfl) (inr_nI hf2 (by decide)) ?_
  refine gf_X4_79 rfl (dG D_X4_merge 25 rfl) (by first | assumption | omega) ?_
  refine V_aload_n (dG D_X4_merge 26 rfl) rfl ?_
  refine gf_X4_17 rfl (dG D_X4_merge 27 rfl) ?_
  refine V_iload_n (dG D_X4_merge 28 rfl) rfl ?_
  refine V_iconst (v := 1) (dG D_X4_merge 29 rfl) (by decide) ?_
  refine V_isub (dG D_X4_merge 30 rfl) ?_
  refine aald_cells (dG D_X4_merge 31 rfl) (show inr _ 32 f from inr_pred (by omega) (by decide)) ?_
  refine gf_X4_79 rfl (dG D_X4_merge 32 rfl) (by first | assumption | omega) ?_
  refine V_icmp_eq (tgt := 71) (dG D_X4_merge 33 rfl) (by decide) (fun c_58 => ?_) (fun c_58 => absurd h3 c_58)
  refine V_aload_n (dG D_X4_merge 39 rfl) rfl ?_
  refine gf_X4_17 rfl (dG D_X4_merge 40 rfl) ?_
  refine V_iload_n (dG D_X4_merge 41 rfl) rfl ?_
  refine aald_cells (dG D_X4_merge 42 rfl) (inr_nI hf2 (by decide)) ?_
  refine V_iconst (v := 0) (dG D_X4_merge 43 rfl) (by decide) ?_
  refine pf_X4_36 rfl (dG D_X4_merge 44 rfl) (by first | assumption | omega) rfl rfl ?_
  refine V_aload_n (dG D_X4_merge 45 rfl) rfl ?_
  refine V_bipush (v := 31) (dG D_X4_merge 46 rfl) (by decide) ?_
  refine R_vb1 (ok_rangeOf (k := 31) (by decide)) lk_X4_101 (dG D_X4_merge 47 rfl) rcv_4 ⟨Nat.le_of_ble_eq_true rfl, Nat.le_of_ble_eq_true rfl⟩ ⟨(Nat.le_of_ble_eq_true rfl), (Nat.le_of_ble_eq_true rfl)⟩ (by first | exact Nat.le_of_ble_eq_true rfl | simp [cat_rf, cat_int, cat_ref]) (fun h => ?_)
  refine V_iconst (v := 1) (dG D_X4_merge 48 rfl) (by decide) ?_
  refine V_iadd (dG D_X4_merge 49 rfl) ?_
  exact V_iret (dG D_X4_merge 50 rfl) rfl (Nat.le_of_ble_eq_true rfl) (Nat.le_of_ble_eq_true rfl) ⟨rfl, rfl, rfl, rfl⟩
theorem th_merge1 {x : Int32} (h1 : x < 0 ∨ ¬ fkS C (x + 1) 32 0 0 < 32) : THR g K_X4_merge 1 6 [.ref (ad g 0), .int x] nt C M o "java/lang/IndexOutOfBoundsException" := by
  refine MT_of (by decide +kernel) rfl rfl (Nat.le_of_ble_eq_true rfl) (by simp [cat_rf, cat_int, cat_ref]) (fun h => ?_)
  refine V_iload_n (dG D_X4_merge 0 rfl) rfl ?_
  refine V_if_ge (tgt := 9) (dG D_X4_merge 1 rfl) (by decide) (fun c_1 => ?_) (fun c_1 => ?_)
  · skip
    refine V_aload_n (dG D_X4_merge 4 rfl) rfl ?_
    refine V_iload_n (dG D_X4_merge 5 rfl) rfl ?_
    refine V_iconst (v := 1) (dG D_X4_merge 6 rfl) (by decide) ?_
    refine V_iadd (dG D_X4_merge 7 rfl) ?_
    refine R_vb1 ok_firstKeyOf lk_X4_104 (dG D_X4_merge 8 rfl) rcv_4 ⟨Nat.le_of_ble_eq_true rfl, Nat.le_of_ble_eq_true rfl⟩ ⟨(Nat.le_of_ble_eq_true rfl), (Nat.le_of_ble_eq_true rfl)⟩ (by first | exact Nat.le_of_ble_eq_true rfl | simp [cat_rf, cat_int, cat_ref]) (fun h => ?_)
    refine V_istore_n (dG D_X4_merge 9 rfl) (Nat.le_of_ble_eq_true rfl) ?_
    refine V_iload_n (dG D_X4_merge 10 rfl) rfl ?_
    refine V_iconst (v := 1) (dG D_X4_merge 11 rfl) (by decide) ?_
    refine V_icmp_lt (tgt := 28) (dG D_X4_merge 12 rfl) (by decide) (fun c_19 => ?_) (fun c_19 => ?_)
    · skip
      exact V_th98 (text := "no such range, or no next one") rfl rfl (by decide +kernel) (dG D_X4_merge 16 rfl) (dG D_X4_merge 17 rfl) (dG D_X4_merge 18 rfl) (dG D_X4_merge 19 rfl) (dG D_X4_merge 20 rfl) (Nat.le_of_ble_eq_true rfl) (Nat.le_of_ble_eq_true rfl) (Nat.le_of_ble_eq_true rfl) (Nat.le_of_ble_eq_true rfl) ⟨rfl, rfl, rfl, rfl⟩
    · skip
      refine V_iload_n (dG D_X4_merge 13 rfl) rfl ?_
      refine V_bipush (v := 32) (dG D_X4_merge 14 rfl) (by decide) ?_
      refine V_icmp_lt (tgt := 38) (dG D_X4_merge 15 rfl) (by decide) (fun c_25 => (by first | exact absurd c_25 (by decide) | exact absurd c_25 (h1.resolve_left (Int32.not_lt.mpr c_1)))) (fun c_25 => ?_)
      exact V_th98 (text := "no such range, or no next one") rfl rfl (by decide +kernel) (dG D_X4_merge 16 rfl) (dG D_X4_merge 17 rfl) (dG D_X4_merge 18 rfl) (dG D_X4_merge 19 rfl) (dG D_X4_merge 20 rfl) (Nat.le_of_ble_eq_true rfl) (Nat.le_of_ble_eq_true rfl) (Nat.le_of_ble_eq_true rfl) (Nat.le_of_ble_eq_true rfl) ⟨rfl, rfl, rfl, rfl⟩
  · skip
    refine V_bipush (v := 32) (dG D_X4_merge 2 rfl) (by decide) ?_
    refine V_goto (tgt := 16) (dG D_X4_merge 3 rfl) (by decide) ?_
    refine V_istore_n (dG D_X4_merge 9 rfl) (Nat.le_of_ble_eq_true rfl) ?_
    refine V_iload_n (dG D_X4_merge 10 rfl) rfl ?_
    refine V_iconst (v := 1) (dG D_X4_merge 11 rfl) (by decide) ?_
    refine V_icmp_lt (tgt := 28) (dG D_X4_merge 12 rfl) (by decide) (fun c_19 => ?_) (fun c_19 => ?_)
    · skip
      exact V_th98 (text := "no such range, or no next one") rfl rfl (by decide +kernel) (dG D_X4_merge 16 rfl) (dG D_X4_merge 17 rfl) (dG D_X4_merge 18 rfl) (dG D_X4_merge 19 rfl) (dG D_X4_merge 20 rfl) (Nat.le_of_ble_eq_true rfl) (Nat.le_of_ble_eq_true rfl) (Nat.le_of_ble_eq_true rfl) (Nat.le_of_ble_eq_true rfl) ⟨rfl, rfl, rfl, rfl⟩
    · skip
      refine V_iload_n (dG D_X4_merge 13 rfl) rfl ?_
      refine V_bipush (v := 32) (dG D_X4_merge 14 rfl) (by decide) ?_
      refine V_icmp_lt (tgt := 38) (dG D_X4_merge 15 rfl) (by decide) (fun c_25 => (by first | exact absurd c_25 (by decide) | exact absurd c_25 (h1.resolve_left (Int32.not_lt.mpr c_1)))) (fun c_25 => ?_)
      exact V_th98 (text := "no such range, or no next one") rfl rfl (by decide +kernel) (dG D_X4_merge 16 rfl) (dG D_X4_merge 17 rfl) (dG D_X4_merge 18 rfl) (dG D_X4_merge 19 rfl) (dG D_X4_merge 20 rfl) (Nat.le_of_ble_eq_true rfl) (Nat.le_of_ble_eq_true rfl) (Nat.le_of_ble_eq_true rfl) (Nat.le_of_ble_eq_true rfl) ⟨rfl, rfl, rfl, rfl⟩
theorem th_merge2 {x : Int32} {f : Nat} (h1 : ¬ x < 0) (h2 : ¬ nI (f + 1) < 1) (hf : fkS C (x + 1) 32 0 0 = nI (f + 1)) (hf2 : f + 1 < 32) (h3 : ¬ C 4 (f + 1) = C 4 f) : THR g K_X4_merge 1 6 [.ref (ad g 0), .int x] nt C M o "java/lang/IllegalStateException" := by
  refine MT_of (by decide +kernel) rfl rfl (Nat.le_of_ble_eq_true rfl) (by simp [cat_rf, cat_int, cat_ref]) (fun h => ?_)
  refine V_iload_n (dG D_X4_merge 0 rfl) rfl ?_
  refine V_if_ge (tgt := 9) (dG D_X4_merge 1 rfl) (by decide) (fun c_1 => ?_) (fun c_1 => absurd (Int32.not_lt.mp h1) c_1)
  refine V_aload_n (dG D_X4_merge 4 rfl) rfl ?_
  refine V_iload_n (dG D_X4_merge 5 rfl) rfl ?_
  refine V_iconst (v := 1) (dG D_X4_merge 6 rfl) (by decide) ?_
  refine V_iadd (dG D_X4_merge 7 rfl) ?_
  refine R_vb1 ok_firstKeyOf lk_X4_104 (dG D_X4_merge 8 rfl) rcv_4 ⟨Nat.le_of_ble_eq_true rfl, Nat.le_of_ble_eq_true rfl⟩ ⟨(Nat.le_of_ble_eq_true rfl), (Nat.le_of_ble_eq_true rfl)⟩ (by first | exact Nat.le_of_ble_eq_true rfl | simp [cat_rf, cat_int, cat_ref]) (fun h => ?_)
  rw [hf]
  refine V_istore_n (dG D_X4_merge 9 rfl) (Nat.le_of_ble_eq_true rfl) ?_
  refine V_iload_n (dG D_X4_merge 10 rfl) rfl ?_
  refine V_iconst (v := 1) (dG D_X4_merge 11 rfl) (by decide) ?_
  refine V_icmp_lt (tgt := 28) (dG D_X4_merge 12 rfl) (by decide) (fun c_19 => absurd c_19 h2) (fun c_19 => ?_)
  refine V_iload_n (dG D_X4_merge 13 rfl) rfl ?_
  refine V_bipush (v := 32) (dG D_X4_merge 14 rfl) (by decide) ?_
  refine V_icmp_lt (tgt := 38) (dG D_X4_merge 15 rfl) (by decide) (fun c_25 => ?_) (fun c_25 => absurd (nI_lt (b := 32) hf2 (by decide)) c_25)
  refine V_aload_n (dG D_X4_merge 21 rfl) rfl ?_
  refine gf_X4_17 rfl (dG D_X4_merge 22 rfl) ?_
  refine V_iload_n (dG D_X4_merge 23 rfl) rfl ?_
  refine aald_cells (dG D_X4_merge 24 rfl) (inr_nI hf2 (by decide)) ?_
  refine gf_X4_79 rfl (dG D_X4_merge 25 rfl) (by first | assumption | omega) ?_
  refine V_aload_n (dG D_X4_merge 26 rfl) rfl ?_
  refine gf_X4_17 rfl (dG D_X4_merge 27 rfl) ?_
  refine V_iload_n (dG D_X4_merge 28 rfl) rfl ?_
  refine V_iconst (v := 1) (dG D_X4_merge 29 rfl) (by decide) ?_
  refine V_isub (dG D_X4_merge 30 rfl) ?_
  refine aald_cells (dG D_X4_merge 31 rfl) (show inr _ 32 f from inr_pred (by omega) (by decide)) ?_
  refine gf_X4_79 rfl (dG D_X4_merge 32 rfl) (by first | assumption | omega) ?_
  refine V_icmp_eq (tgt := 71) (dG D_X4_merge 33 rfl) (by decide) (fun c_58 => absurd c_58 h3) (fun c_58 => ?_)
  exact V_th55 (text := "the ranges are on different nodes") rfl rfl (by decide +kernel) (dG D_X4_merge 34 rfl) (dG D_X4_merge 35 rfl) (dG D_X4_merge 36 rfl) (dG D_X4_merge 37 rfl) (dG D_X4_merge 38 rfl) (Nat.le_of_ble_eq_true rfl) (Nat.le_of_ble_eq_true rfl) (Nat.le_of_ble_eq_true rfl) (Nat.le_of_ble_eq_true rfl) ⟨rfl, rfl, rfl, rfl⟩
theorem lp_dnS {n : Nat} : ∀ (m : Nat) (i : Nat) (c : Int32) (C : St) (_ : i + m = 32) (h : Nat × Nat), V g K_X4_down (kR K_X4_down 0 0) (qM g 0 0 nt (fun v9 C9 M9 o9 => v9 = some (.int (dnS n m i c C).1) ∧ C9 = (dnS n m i c C).2 ∧ M9 = M ∧ o9 = o) (fun _ _ _ _ => False)) 0 0 nt h C M o 34 [(0, .ref (ad g 0)), (1, .int (nI n)), (2, .int c), (3, .ref (ad g 2)), (4, .int 32), (5, .int (nI i))] [] := by
  intro m
  induction m with
  | zero =>
    intro i c C hi h
    refine V_iload (dG D_X4_down 22 rfl) rfl ?_
    refine V_iload (dG D_X4_down 23 rfl) rfl ?_
    refine V_icmp_ge (tgt := 87) (dG D_X4_down 24 rfl) (by decide) (fun c_38 => ?_) (fun c_38 => absurd (l32 (by omega)) c_38)
    refine V_iload_n (dG D_X4_down 45 rfl) rfl ?_
    exact V_iret (dG D_X4_down 46 rfl) rfl (Nat.le_of_ble_eq_true rfl) (Nat.le_of_ble_eq_true rfl) ⟨rfl, rfl, rfl, rfl⟩
  | succ m ih =>
    intro i c C hi h
    refine V_iload (dG D_X4_down 22 rfl) rfl ?_
    refine V_iload (dG D_X4_down 23 rfl) rfl ?_
    refine V_icmp_ge (tgt := 87) (dG D_X4_down 24 rfl) (by decide) (fun c_38 => absurd c_38 (g32 (by omega))) (fun c_38 => ?_)
    refine V_aload_n (dG D_X4_down 25 rfl) rfl ?_
    refine V_iload (dG D_X4_down 26 rfl) rfl ?_
    refine aald_cells (dG D_X4_down 27 rfl) (inr_nI (by omega) (by decide)) ?_
    refine V_astore (dG D_X4_down 28 rfl) (Nat.le_of_ble_eq_true rfl) ?_
    refine V_aload (dG D_X4_down 29 rfl) rfl ?_
    refine gf_X4_79 rfl (dG D_X4_down 30 rfl) (by first | assumption | omega) ?_
    refine V_iload_n (dG D_X4_down 31 rfl) rfl ?_
    refine V_icmp_ne (tgt := 81) (dG D_X4_down 32 rfl) (by decide) (fun c_53 => ?_) (fun c_53 => ?_)
    · skip
      refine V_iinc (dG D_X4_down 43 rfl) rfl (inc1 _) (Nat.le_of_ble_eq_true rfl) ?_
      refine V_goto (tgt := 34) (dG D_X4_down 44 rfl) (by decide) ?_
      rw [show dnS n (m + 1) i c C = dnS n m (i + 1) c C from by simp only [dnS, if_neg c_53]]
      refine V_sub [0, 1, 2, 3, 4, 5] rfl ?_
      exact ih (i + 1) c C (by omega) h
    · skip
      refine V_aload (dG D_X4_down 33 rfl) rfl ?_
      refine gf_X4_82 rfl (dG D_X4_down 34 rfl) (by first | assumption | omega) ?_
      refine V_ifnullt (tgt := 81) (dG D_X4_down 35 rfl) (by decide) (fun c_61 => ?_) (fun c_61 => ?_)
      · skip
        refine V_iinc (dG D_X4_down 43 rfl) rfl (inc1 _) (Nat.le_of_ble_eq_true rfl) ?_
        refine V_goto (tgt := 34) (dG D_X4_down 44 rfl) (by decide) ?_
        rw [show dnS n (m + 1) i c C = dnS n m (i + 1) c C from by simp only [dnS, if_pos c_53, if_pos c_61]]
        refine V_sub [0, 1, 2, 3, 4, 5] rfl ?_
        exact ih (i + 1) c C (by omega) h
      · skip
        refine V_aload (dG D_X4_down 36 rfl) rfl ?_
        refine gf_X4_86 rfl (dG D_X4_down 37 rfl) (by first | assumption | omega) ?_
        refine V_if_ne (tgt := 81) (dG D_X4_down 38 rfl) (by decide) (fun c_69 => ?_) (fun c_69 => ?_)
        · skip
          refine V_iinc (dG D_X4_down 43 rfl) rfl (inc1 _) (Nat.le_of_ble_eq_true rfl) ?_
          refine V_goto (tgt := 34) (dG D_X4_down 44 rfl) (by decide) ?_
          rw [show dnS n (m + 1) i c C = dnS n m (i + 1) c C from by simp only [dnS, if_pos c_53, if_neg c_61, if_neg c_69]]
          refine V_sub [0, 1, 2, 3, 4, 5] rfl ?_
          exact ih (i + 1) c C (by omega) h
        · skip
          refine V_aload (dG D_X4_down 39 rfl) rfl ?_
          refine V_nullt (dG D_X4_down 40 rfl) ?_
          refine pf_X4_82 rfl (dG D_X4_down 41 rfl) (by first | assumption | omega) ?_
          refine V_iinc (dG D_X4_down 42 rfl) rfl rfl (Nat.le_of_ble_eq_true rfl) ?_
          refine V_iinc (dG D_X4_down 43 rfl) rfl (inc1 _) (Nat.le_of_ble_eq_true rfl) ?_
          refine V_goto (tgt := 34) (dG D_X4_down 44 rfl) (by decide) ?_
          rw [show dnS n (m + 1) i c C = dnS n m (i + 1) (c + 1) (up C 6 i (-1)) from by simp only [dnS, if_pos c_53, if_neg c_61, if_pos c_69]]
          refine V_sub [0, 1, 2, 3, 4, 5] rfl ?_
          exact ih (i + 1) (c + 1) (up C 6 i (-1)) (by omega) h
theorem ok_down {n : Nat} (hn : n < 4) (hd : C 3 n = 0) : RET g K_X4_down 0 0 [.ref (ad g 0), .int (nI n)] nt C M o (some (.int (dnS n 32 0 0 (up C 3 n 1)).1)) (dnS n 32 0 0 (up C 3 n 1)).2 M o := by
  refine MT_of (by decide +kernel) rfl rfl (Nat.le_of_ble_eq_true rfl) (by simp [cat_rf, cat_int, cat_ref]) (fun h => ?_)
  refine V_aload_n (dG D_X4_down 0 rfl) rfl ?_
  refine V_iload_n (dG D_X4_down 1 rfl) rfl ?_
  refine R_nb1 (okN hn) lk_X4_56 (dG D_X4_down 2 rfl) rcv_4 ⟨Nat.le_of_ble_eq_true rfl, Nat.le_of_ble_eq_true rfl⟩ ⟨(Nat.le_of_ble_eq_true rfl), (Nat.le_of_ble_eq_true rfl)⟩ (by first | exact Nat.le_of_ble_eq_true rfl | simp [cat_rf, cat_int, cat_ref]) (fun h => ?_)
  refine V_aload_n (dG D_X4_down 3 rfl) rfl ?_
  refine V_iload_n (dG D_X4_down 4 rfl) rfl ?_
  refine R_nb1 (ok_needUp hn hd) lk_X4_65 (dG D_X4_down 5 rfl) rcv_4 ⟨Nat.le_of_ble_eq_true rfl, Nat.le_of_ble_eq_true rfl⟩ ⟨(Nat.le_of_ble_eq_true rfl), (Nat.le_of_ble_eq_true rfl)⟩ (by first | exact Nat.le_of_ble_eq_true rfl | simp [cat_rf, cat_int, cat_ref]) (fun h => ?_)
  refine V_aload_n (dG D_X4_down 6 rfl) rfl ?_
  refine gf_X4_11 rfl (dG D_X4_down 7 rfl) ?_
  refine V_iload_n (dG D_X4_down 8 rfl) rfl ?_
  refine aald_nodes (dG D_X4_down 9 rfl) (by first | assumption | exact inr_nI (by first | assumption | omega) (by first | decide | assumption | omega) | exact inr_of (by assumption)) ?_
  refine V_iconst (v := 1) (dG D_X4_down 10 rfl) (by decide) ?_
  refine pf_X4_76 rfl (dG D_X4_down 11 rfl) (by first | assumption | omega) rfl rfl ?_
  refine V_iconst (v := 0) (dG D_X4_down 12 rfl) (by decide) ?_
  refine V_istore_n (dG D_X4_down 13 rfl) (Nat.le_of_ble_eq_true rfl) ?_
  refine V_aload_n (dG D_X4_down 14 rfl) rfl ?_
  refine gf_X4_17 rfl (dG D_X4_down 15 rfl) ?_
  refine V_astore_n (dG D_X4_down 16 rfl) (Nat.le_of_ble_eq_true rfl) ?_
  refine V_aload_n (dG D_X4_down 17 rfl) rfl ?_
  rw [← hp_ad (g := g) (h := h) (n := 2) (by decide) (by decide)]
  refine V_alenR (n := 2) (nn := 32) (t0 := 4) (Cn := RX0) (f := fun k => some (ad g (41 + k))) (v := 32) (dG D_X4_down 18 rfl) (by omega) (ent_fix (by decide)) rfl rfl ?_
  rw [hp_ad (g := g) (h := h) (n := 2) (by decide) (by decide)]
  refine V_istore (dG D_X4_down 19 rfl) (Nat.le_of_ble_eq_true rfl) ?_
  refine V_iconst (v := 0) (dG D_X4_down 20 rfl) (by decide) ?_
  refine V_istore (dG D_X4_down 21 rfl) (Nat.le_of_ble_eq_true rfl) ?_
  exact lp_dnS 32 0 0 (up C 3 n 1) (by omega) h
theorem lp_syS {n : Nat} : ∀ (m : Nat) (i : Nat) (c : Int32) (C : St) (_ : i + m = 32) (h : Nat × Nat), V g K_X4_sync (kR K_X4_sync 0 0) (qM g 0 0 nt (fun v9 C9 M9 o9 => v9 = some (.int (syS n m i c C).1) ∧ C9 = (syS n m i c C).2 ∧ M9 = M ∧ o9 = o) (fun _ _ _ _ => False)) 0 0 nt h C M o 24 [(0, .ref (ad g 0)), (1, .int (nI n)), (2, .int c), (3, .ref (ad g 2)), (4, .int 32), (5, .int (nI i))] [] := by
  intro m
  induction m with
  | zero =>
    intro i c C hi h
    refine V_iload (dG D_X4_sync 16 rfl) rfl ?_
    refine V_iload (dG D_X4_sync 17 rfl) rfl ?_
    refine V_icmp_ge (tgt := 77) (dG D_X4_sync 18 rfl) (by decide) (fun c_28 => ?_) (fun c_28 => absurd (l32 (by omega)) c_28)
    refine V_iload_n (dG D_X4_sync 39 rfl) rfl ?_
    exact V_iret (dG D_X4_sync 40 rfl) rfl (Nat.le_of_ble_eq_true rfl) (Nat.le_of_ble_eq_true rfl) ⟨rfl, rfl, rfl, rfl⟩
  | succ m ih =>
    intro i c C hi h
    refine V_iload (dG D_X4_sync 16 rfl) rfl ?_
    refine V_iload (dG D_X4_sync 17 rfl) rfl ?_
    refine V_icmp_ge (tgt := 77) (dG D_X4_sync 18 rfl) (by decide) (fun c_28 => absurd c_28 (g32 (by omega))) (fun c_28 => ?_)
    refine V_aload_n (dG D_X4_sync 19 rfl) rfl ?_
    refine V_iload (dG D_X4_sync 20 rfl) rfl ?_
    refine aald_cells (dG D_X4_sync 21 rfl) (inr_nI (by omega) (by decide)) ?_
    refine V_astore (dG D_X4_sync 22 rfl) (Nat.le_of_ble_eq_true rfl) ?_
    refine V_aload (dG D_X4_sync 23 rfl) rfl ?_
    refine gf_X4_79 rfl (dG D_X4_sync 24 rfl) (by first | assumption | omega) ?_
    refine V_iload_n (dG D_X4_sync 25 rfl) rfl ?_
    refine V_icmp_ne (tgt := 71) (dG D_X4_sync 26 rfl) (by decide) (fun c_43 => ?_) (fun c_43 => ?_)
    · skip
      refine V_iinc (dG D_X4_sync 37 rfl) rfl (inc1 _) (Nat.le_of_ble_eq_true rfl) ?_
      refine V_goto (tgt := 24) (dG D_X4_sync 38 rfl) (by decide) ?_
      rw [show syS n (m + 1) i c C = syS n m (i + 1) c C from by simp only [syS, if_neg c_43]]
      refine V_sub [0, 1, 2, 3, 4, 5] rfl ?_
      exact ih (i + 1) c C (by omega) h
    · skip
      refine V_aload (dG D_X4_sync 27 rfl) rfl ?_
      refine gf_X4_82 rfl (dG D_X4_sync 28 rfl) (by first | assumption | omega) ?_
      refine V_ifnullt (tgt := 71) (dG D_X4_sync 29 rfl) (by decide) (fun c_51 => ?_) (fun c_51 => ?_)
      · skip
        refine V_iinc (dG D_X4_sync 37 rfl) rfl (inc1 _) (Nat.le_of_ble_eq_true rfl) ?_
        refine V_goto (tgt := 24) (dG D_X4_sync 38 rfl) (by decide) ?_
        rw [show syS n (m + 1) i c C = syS n m (i + 1) c C from by simp only [syS, if_pos c_43, if_pos c_51]]
        refine V_sub [0, 1, 2, 3, 4, 5] rfl ?_
        exact ih (i + 1) c C (by omega) h
      · skip
        refine V_aload (dG D_X4_sync 30 rfl) rfl ?_
        refine gf_X4_86 rfl (dG D_X4_sync 31 rfl) (by first | assumption | omega) ?_
        refine V_if_ne (tgt := 71) (dG D_X4_sync 32 rfl) (by decide) (fun c_59 => ?_) (fun c_59 => ?_)
        · skip
          refine V_iinc (dG D_X4_sync 37 rfl) rfl (inc1 _) (Nat.le_of_ble_eq_true rfl) ?_
          refine V_goto (tgt := 24) (dG D_X4_sync 38 rfl) (by decide) ?_
          rw [show syS n (m + 1) i c C = syS n m (i + 1) c C from by simp only [syS, if_pos c_43, if_neg c_51, if_neg c_59]]
          refine V_sub [0, 1, 2, 3, 4, 5] rfl ?_
          exact ih (i + 1) c C (by omega) h
        · skip
          refine V_aload (dG D_X4_sync 33 rfl) rfl ?_
          refine V_iconst (v := 1) (dG D_X4_sync 34 rfl) (by decide) ?_
          refine pf_X4_86 rfl (dG D_X4_sync 35 rfl) (by first | assumption | omega) rfl rfl ?_
          refine V_iinc (dG D_X4_sync 36 rfl) rfl rfl (Nat.le_of_ble_eq_true rfl) ?_
          refine V_iinc (dG D_X4_sync 37 rfl) rfl (inc1 _) (Nat.le_of_ble_eq_true rfl) ?_
          refine V_goto (tgt := 24) (dG D_X4_sync 38 rfl) (by decide) ?_
          rw [show syS n (m + 1) i c C = syS n m (i + 1) (c + 1) (up C 7 i 1) from by simp only [syS, if_pos c_43, if_neg c_51, if_pos c_59]]
          refine V_sub [0, 1, 2, 3, 4, 5] rfl ?_
          exact ih (i + 1) (c + 1) (up C 7 i 1) (by omega) h
theorem ok_sync {n : Nat} (hn : n < 4) (hd : C 3 n = 0) : RET g K_X4_sync 0 0 [.ref (ad g 0), .int (nI n)] nt C M o (some (.int (syS n 32 0 0 C).1)) (syS n 32 0 0 C).2 M o := by
  refine MT_of (by decide +kernel) rfl rfl (Nat.le_of_ble_eq_true rfl) (by simp [cat_rf, cat_int, cat_ref]) (fun h => ?_)
  refine V_aload_n (dG D_X4_sync 0 rfl) rfl ?_
  refine V_iload_n (dG D_X4_sync 1 rfl) rfl ?_
  refine R_nb1 (okN hn) lk_X4_56 (dG D_X4_sync 2 rfl) rcv_4 ⟨Nat.le_of_ble_eq_true rfl, Nat.le_of_ble_eq_true rfl⟩ ⟨(Nat.le_of_ble_eq_true rfl), (Nat.le_of_ble_eq_true rfl)⟩ (by first | exact Nat.le_of_ble_eq_true rfl | simp [cat_rf, cat_int, cat_ref]) (fun h => ?_)
  refine V_aload_n (dG D_X4_sync 3 rfl) rfl ?_
  refine V_iload_n (dG D_X4_sync 4 rfl) rfl ?_
  refine R_nb1 (ok_needUp hn hd) lk_X4_65 (dG D_X4_sync 5 rfl) rcv_4 ⟨Nat.le_of_ble_eq_true rfl, Nat.le_of_ble_eq_true rfl⟩ ⟨(Nat.le_of_ble_eq_true rfl), (Nat.le_of_ble_eq_true rfl)⟩ (by first | exact Nat.le_of_ble_eq_true rfl | simp [cat_rf, cat_int, cat_ref]) (fun h => ?_)
  refine V_iconst (v := 0) (dG D_X4_sync 6 rfl) (by decide) ?_
  refine V_istore_n (dG D_X4_sync 7 rfl) (Nat.le_of_ble_eq_true rfl) ?_
  refine V_aload_n (dG D_X4_sync 8 rfl) rfl ?_
  refine gf_X4_17 rfl (dG D_X4_sync 9 rfl) ?_
  refine V_astore_n (dG D_X4_sync 10 rfl) (Nat.le_of_ble_eq_true rfl) ?_
  refine V_aload_n (dG D_X4_sync 11 rfl) rfl ?_
  rw [← hp_ad (g := g) (h := h) (n := 2) (by decide) (by decide)]
  refine V_alenR (n := 2) (nn := 32) (t0 := 4) (Cn := RX0) (f := fun k => some (ad g (41 + k))) (v := 32) (dG D_X4_sync 12 rfl) (by omega) (ent_fix (by decide)) rfl rfl ?_
  rw [hp_ad (g := g) (h := h) (n := 2) (by decide) (by decide)]
  refine V_istore (dG D_X4_sync 13 rfl) (Nat.le_of_ble_eq_true rfl) ?_
  refine V_iconst (v := 0) (dG D_X4_sync 14 rfl) (by decide) ?_
  refine V_istore (dG D_X4_sync 15 rfl) (Nat.le_of_ble_eq_true rfl) ?_
  exact lp_syS 32 0 0 C (by omega) h
theorem lp_upS {n : Nat} {s : Int32} : ∀ (m : Nat) (i : Nat) (C : St) (_ : i + m = 32) (h : Nat × Nat), V g K_X4_up (kR K_X4_up 0 0) (qM g 0 0 nt (fun v9 C9 M9 o9 => v9 = some (.int s) ∧ C9 = upS n s m i C ∧ M9 = M ∧ o9 = o) (fun _ _ _ _ => False)) 0 0 nt h C M o 63 [(0, .ref (ad g 0)), (1, .int (nI n)), (2, .int s), (3, .ref (ad g 2)), (4, .int 32), (5, .int (nI i))] [] := by
  intro m
  induction m with
  | zero =>
    intro i C hi h
    refine V_iload (dG D_X4_up 36 rfl) rfl ?_
    refine V_iload (dG D_X4_up 37 rfl) rfl ?_
    refine V_icmp_ge (tgt := 97) (dG D_X4_up 38 rfl) (by decide) (fun c_67 => ?_) (fun c_67 => absurd (l32 (by omega)) c_67)
    refine V_iload_n (dG D_X4_up 52 rfl) rfl ?_
    exact V_iret (dG D_X4_up 53 rfl) rfl (Nat.le_of_ble_eq_true rfl) (Nat.le_of_ble_eq_true rfl) ⟨rfl, rfl, rfl, rfl⟩
  | succ m ih =>
    intro i C hi h
    refine V_iload (dG D_X4_up 36 rfl) rfl ?_
    refine V_iload (dG D_X4_up 37 rfl) rfl ?_
    refine V_icmp_ge (tgt := 97) (dG D_X4_up 38 rfl) (by decide) (fun c_67 => absurd c_67 (g32 (by omega))) (fun c_67 => ?_)
    refine V_aload_n (dG D_X4_up 39 rfl) rfl ?_
    refine V_iload (dG D_X4_up 40 rfl) rfl ?_
    refine aald_cells (dG D_X4_up 41 rfl) (inr_nI (by omega) (by decide)) ?_
    refine V_astore (dG D_X4_up 42 rfl) (Nat.le_of_ble_eq_true rfl) ?_
    refine V_aload (dG D_X4_up 43 rfl) rfl ?_
    refine gf_X4_79 rfl (dG D_X4_up 44 rfl) (by first | assumption | omega) ?_
    refine V_iload_n (dG D_X4_up 45 rfl) rfl ?_
    refine V_icmp_ne (tgt := 91) (dG D_X4_up 46 rfl) (by decide) (fun c_82 => ?_) (fun c_82 => ?_)
    · skip
      refine V_iinc (dG D_X4_up 50 rfl) rfl (inc1 _) (Nat.le_of_ble_eq_true rfl) ?_
      refine V_goto (tgt := 63) (dG D_X4_up 51 rfl) (by decide) ?_
      rw [show upS n s (m + 1) i C = upS n s m (i + 1) C from by simp only [upS, if_neg c_82]]
      refine V_sub [0, 1, 2, 3, 4, 5] rfl ?_
      exact ih (i + 1) C (by omega) h
    · skip
      refine V_aload (dG D_X4_up 47 rfl) rfl ?_
      refine V_iload_n (dG D_X4_up 48 rfl) rfl ?_
      refine R_nb1 (ok_noteSeveral (show i < 32 by omega)) lk_X4_91 (dG D_X4_up 49 rfl) (rcv_0 (by first | assumption | omega)) ⟨Nat.le_of_ble_eq_true rfl, Nat.le_of_ble_eq_true rfl⟩ ⟨(Nat.le_of_ble_eq_true rfl), (Nat.le_of_ble_eq_true rfl)⟩ (by first | exact Nat.le_of_ble_eq_true rfl | simp [cat_rf, cat_int, cat_ref]) (fun h => ?_)
      refine V_iinc (dG D_X4_up 50 rfl) rfl (inc1 _) (Nat.le_of_ble_eq_true rfl) ?_
      refine V_goto (tgt := 63) (dG D_X4_up 51 rfl) (by decide) ?_
      rw [show upS n s (m + 1) i C = upS n s m (i + 1) (noteS C i s) from by simp only [upS, if_pos c_82]]
      refine V_sub [0, 1, 2, 3, 4, 5] rfl ?_
      exact ih (i + 1) (noteS C i s) (by omega) h
theorem ok_up {n : Nat} (hn : n < 4) (hd : ¬ C 3 n = 0) : RET g K_X4_up 0 0 [.ref (ad g 0), .int (nI n)] nt C M o (some (.int (upV C n))) (upS n (upV C n) 32 0 (upZ C n)) M o := by
  refine MT_of (by decide +kernel) rfl rfl (Nat.le_of_ble_eq_true rfl) (by simp [cat_rf, cat_int, cat_ref]) (fun h => ?_)
  refine V_aload_n (dG D_X4_up 0 rfl) rfl ?_
  refine V_iload_n (dG D_X4_up 1 rfl) rfl ?_
  refine R_nb1 (okN hn) lk_X4_56 (dG D_X4_up 2 rfl) rcv_4 ⟨Nat.le_of_ble_eq_true rfl, Nat.le_of_ble_eq_true rfl⟩ ⟨(Nat.le_of_ble_eq_true rfl), (Nat.le_of_ble_eq_true rfl)⟩ (by first | exact Nat.le_of_ble_eq_true rfl | simp [cat_rf, cat_int, cat_ref]) (fun h => ?_)
  refine V_aload_n (dG D_X4_up 3 rfl) rfl ?_
  refine gf_X4_11 rfl (dG D_X4_up 4 rfl) ?_
  refine V_iload_n (dG D_X4_up 5 rfl) rfl ?_
  refine aald_nodes (dG D_X4_up 6 rfl) (by first | assumption | exact inr_nI (by first | assumption | omega) (by first | decide | assumption | omega) | exact inr_of (by assumption)) ?_
  refine gf_X4_76 rfl (dG D_X4_up 7 rfl) (by first | assumption | omega) ?_
  refine V_if_ne (tgt := 27) (dG D_X4_up 8 rfl) (by decide) (fun c_14 => ?_) (fun c_14 => absurd c_14 hd)
  refine V_aload_n (dG D_X4_up 14 rfl) rfl ?_
  refine gf_X4_11 rfl (dG D_X4_up 15 rfl) ?_
  refine V_iload_n (dG D_X4_up 16 rfl) rfl ?_
  refine aald_nodes (dG D_X4_up 17 rfl) (by first | assumption | exact inr_nI (by first | assumption | omega) (by first | decide | assumption | omega) | exact inr_of (by assumption)) ?_
  refine V_iconst (v := 0) (dG D_X4_up 18 rfl) (by decide) ?_
  refine pf_X4_76 rfl (dG D_X4_up 19 rfl) (by first | assumption | omega) rfl rfl ?_
  refine V_aload_n (dG D_X4_up 20 rfl) rfl ?_
  refine gf_X4_11 rfl (dG D_X4_up 21 rfl) ?_
  refine V_iload_n (dG D_X4_up 22 rfl) rfl ?_
  refine aald_nodes (dG D_X4_up 23 rfl) (by first | assumption | exact inr_nI (by first | assumption | omega) (by first | decide | assumption | omega) | exact inr_of (by assumption)) ?_
  refine V_aload_n (dG D_X4_up 24 rfl) rfl ?_
  refine gf_X4_47 rfl (dG D_X4_up 25 rfl) ?_
  refine R_vb1 (ok_tellStamp hn) lk_X4_68 (dG D_X4_up 26 rfl) (rcv_2 (by first | assumption | omega)) ⟨Nat.le_of_ble_eq_true rfl, Nat.le_of_ble_eq_true rfl⟩ ⟨(Nat.le_of_ble_eq_true rfl), (Nat.le_of_ble_eq_true rfl)⟩ (by first | exact Nat.le_of_ble_eq_true rfl | simp [cat_rf, cat_int, cat_ref]) (fun h => ?_)
  refine V_istore_n (dG D_X4_up 27 rfl) (Nat.le_of_ble_eq_true rfl) ?_
  refine V_aload_n (dG D_X4_up 28 rfl) rfl ?_
  refine gf_X4_17 rfl (dG D_X4_up 29 rfl) ?_
  refine V_astore_n (dG D_X4_up 30 rfl) (Nat.le_of_ble_eq_true rfl) ?_
  refine V_aload_n (dG D_X4_up 31 rfl) rfl ?_
  rw [← hp_ad (g := g) (h := h) (n := 2) (by decide) (by decide)]
  refine V_alenR (n := 2) (nn := 32) (t0 := 4) (Cn := RX0) (f := fun k => some (ad g (41 + k))) (v := 32) (dG D_X4_up 32 rfl) (by omega) (ent_fix (by decide)) rfl rfl ?_
  rw [hp_ad (g := g) (h := h) (n := 2) (by decide) (by decide)]
  refine V_istore (dG D_X4_up 33 rfl) (Nat.le_of_ble_eq_true rfl) ?_
  refine V_iconst (v := 0) (dG D_X4_up 34 rfl) (by decide) ?_
  refine V_istore (dG D_X4_up 35 rfl) (Nat.le_of_ble_eq_true rfl) ?_
  exact lp_upS 32 0 (upZ C n) (by omega) h
theorem lp_mvS {n b : Nat} {x a w s : Int32} (hb : b ≤ 32) : ∀ (m : Nat) (i : Nat) (C : St) (_ : i + m = b) (h : Nat × Nat), V g K_X4_move (kR K_X4_move 0 0) (qM g 0 0 nt (fun v9 C9 M9 o9 => v9 = some (.int w) ∧ C9 = mvS n s m i C ∧ M9 = M ∧ o9 = o) (fun _ _ _ _ => False)) 0 0 nt h C M o 77 [(0, .ref (ad g 0)), (1, .int x), (2, .int (nI n)), (3, .int a), (4, .int (nI b)), (5, .int w), (6, .int s), (7, .int (nI i))] [] := by
  intro m
  induction m with
  | zero =>
    intro i C hi h
    refine V_iload (dG D_X4_move 43 rfl) rfl ?_
    refine V_iload (dG D_X4_move 44 rfl) rfl ?_
    refine V_icmp_ge (tgt := 113) (dG D_X4_move 45 rfl) (by decide) (fun c_81 => ?_) (fun c_81 => absurd (nI_le (a := b) (b := i) (by omega) (by omega)) c_81)
    refine V_iload (dG D_X4_move 60 rfl) rfl ?_
    exact V_iret (dG D_X4_move 61 rfl) rfl (Nat.le_of_ble_eq_true rfl) (Nat.le_of_ble_eq_true rfl) ⟨rfl, rfl, rfl, rfl⟩
  | succ m ih =>
    intro i C hi h
    refine V_iload (dG D_X4_move 43 rfl) rfl ?_
    refine V_iload (dG D_X4_move 44 rfl) rfl ?_
    refine V_icmp_ge (tgt := 113) (dG D_X4_move 45 rfl) (by decide) (fun c_81 => absurd c_81 (nI_ge (a := i) (b := b) (by omega) (by omega))) (fun c_81 => ?_)
    refine V_aload_n (dG D_X4_move 46 rfl) rfl ?_
    refine gf_X4_17 rfl (dG D_X4_move 47 rfl) ?_
    refine V_iload (dG D_X4_move 48 rfl) rfl ?_
    refine aald_cells (dG D_X4_move 49 rfl) (inr_nI (by omega) (by decide)) ?_
    refine V_iload_n (dG D_X4_move 50 rfl) rfl ?_
    refine pf_X4_79 rfl (dG D_X4_move 51 rfl) (by first | assumption | omega) ?_
    refine V_aload_n (dG D_X4_move 52 rfl) rfl ?_
    refine gf_X4_17 rfl (dG D_X4_move 53 rfl) ?_
    refine V_iload (dG D_X4_move 54 rfl) rfl ?_
    refine aald_cells (dG D_X4_move 55 rfl) (inr_nI (by omega) (by decide)) ?_
    refine V_iload (dG D_X4_move 56 rfl) rfl ?_
    refine R_nb1 (ok_noteSeveral (show i < 32 by omega)) lk_X4_91 (dG D_X4_move 57 rfl) (rcv_0 (by first | assumption | omega)) ⟨Nat.le_of_ble_eq_true rfl, Nat.le_of_ble_eq_true rfl⟩ ⟨(Nat.le_of_ble_eq_true rfl), (Nat.le_of_ble_eq_true rfl)⟩ (by first | exact Nat.le_of_ble_eq_true rfl | simp [cat_rf, cat_int, cat_ref]) (fun h => ?_)
    refine V_iinc (dG D_X4_move 58 rfl) rfl (inc1 _) (Nat.le_of_ble_eq_true rfl) ?_
    refine V_goto (tgt := 77) (dG D_X4_move 59 rfl) (by decide) ?_
    rw [show mvS n s (m + 1) i C = mvS n s m (i + 1) (noteS (up C 4 i (nI n)) i s) from rfl]
    exact ih (i + 1) (noteS (up C 4 i (nI n)) i s) (by omega) h
theorem ok_move {x : Int32} {n : Nat} (hn : n < 4) {a b : Nat} (ha : fkS C x 32 0 0 = nI a) (hb : fkS C (x + 1) 32 0 0 = nI b) (hab : a < b) (hb2 : b ≤ 32) {w : Nat} (hw : C 4 a = nI w) (hw4 : w < 4) (hu1 : C 3 w = 0) (hu2 : C 3 n = 0) : RET g K_X4_move 0 0 [.ref (ad g 0), .int x, .int (nI n)] nt C M o (some (.int (nI w))) (mvS n (tellS C w (C 0 0) 2 w) (b - a) a (tellS C w (C 0 0))) M o := by
  refine MT_of (by decide +kernel) rfl rfl (Nat.le_of_ble_eq_true rfl) (by simp [cat_rf, cat_int, cat_ref]) (fun h => ?_)
  refine V_aload_n (dG D_X4_move 0 rfl) rfl ?_
  refine V_iload_n (dG D_X4_move 1 rfl) rfl ?_
  refine R_vb1 ok_firstKeyOf lk_X4_104 (dG D_X4_move 2 rfl) rcv_4 ⟨Nat.le_of_ble_eq_true rfl, Nat.le_of_ble_eq_true rfl⟩ ⟨(Nat.le_of_ble_eq_true rfl), (Nat.le_of_ble_eq_true rfl)⟩ (by first | exact Nat.le_of_ble_eq_true rfl | simp [cat_rf, cat_int, cat_ref]) (fun h => ?_)
  rw [ha]
  refine V_istore_n (dG D_X4_move 3 rfl) (Nat.le_of_ble_eq_true rfl) ?_
  refine V_iload_n (dG D_X4_move 4 rfl) rfl ?_
  refine V_bipush (v := 32) (dG D_X4_move 5 rfl) (by decide) ?_
  refine V_icmp_lt (tgt := 22) (dG D_X4_move 6 rfl) (by decide) (fun c_9 => ?_) (fun c_9 => absurd (nI_lt (b := 32) (show a < 32 by omega) (by decide)) c_9)
  refine V_aload_n (dG D_X4_move 12 rfl) rfl ?_
  refine V_iload_n (dG D_X4_move 13 rfl) rfl ?_
  refine R_nb1 (okN hn) lk_X4_56 (dG D_X4_move 14 rfl) rcv_4 ⟨Nat.le_of_ble_eq_true rfl, Nat.le_of_ble_eq_true rfl⟩ ⟨(Nat.le_of_ble_eq_true rfl), (Nat.le_of_ble_eq_true rfl)⟩ (by first | exact Nat.le_of_ble_eq_true rfl | simp [cat_rf, cat_int, cat_ref]) (fun h => ?_)
  refine V_aload_n (dG D_X4_move 15 rfl) rfl ?_
  refine V_iload_n (dG D_X4_move 16 rfl) rfl ?_
  refine V_iconst (v := 1) (dG D_X4_move 17 rfl) (by decide) ?_
  refine V_iadd (dG D_X4_move 18 rfl) ?_
  refine R_vb1 ok_firstKeyOf lk_X4_104 (dG D_X4_move 19 rfl) rcv_4 ⟨Nat.le_of_ble_eq_true rfl, Nat.le_of_ble_eq_true rfl⟩ ⟨(Nat.le_of_ble_eq_true rfl), (Nat.le_of_ble_eq_true rfl)⟩ (by first | exact Nat.le_of_ble_eq_true rfl | simp [cat_rf, cat_int, cat_ref]) (fun h => ?_)
  rw [hb]
  refine V_istore (dG D_X4_move 20 rfl) (Nat.le_of_ble_eq_true rfl) ?_
  refine V_aload_n (dG D_X4_move 21 rfl) rfl ?_
  refine gf_X4_17 rfl (dG D_X4_move 22 rfl) ?_
  refine V_iload_n (dG D_X4_move 23 rfl) rfl ?_
  refine aald_cells (dG D_X4_move 24 rfl) (inr_nI (by omega) (by decide)) ?_
  refine gf_X4_79 rfl (dG D_X4_move 25 rfl) (by first | assumption | omega) ?_
  rw [hw]
  refine V_istore (dG D_X4_move 26 rfl) (Nat.le_of_ble_eq_true rfl) ?_
  refine V_aload_n (dG D_X4_move 27 rfl) rfl ?_
  refine V_iload (dG D_X4_move 28 rfl) rfl ?_
  refine R_nb1 (ok_needUp hw4 hu1) lk_X4_65 (dG D_X4_move 29 rfl) rcv_4 ⟨Nat.le_of_ble_eq_true rfl, Nat.le_of_ble_eq_true rfl⟩ ⟨(Nat.le_of_ble_eq_true rfl), (Nat.le_of_ble_eq_true rfl)⟩ (by first | exact Nat.le_of_ble_eq_true rfl | simp [cat_rf, cat_int, cat_ref]) (fun h => ?_)
  refine V_aload_n (dG D_X4_move 30 rfl) rfl ?_
  refine V_iload_n (dG D_X4_move 31 rfl) rfl ?_
  refine R_nb1 (ok_needUp hn hu2) lk_X4_65 (dG D_X4_move 32 rfl) rcv_4 ⟨Nat.le_of_ble_eq_true rfl, Nat.le_of_ble_eq_true rfl⟩ ⟨(Nat.le_of_ble_eq_true rfl), (Nat.le_of_ble_eq_true rfl)⟩ (by first | exact Nat.le_of_ble_eq_true rfl | simp [cat_rf, cat_int, cat_ref]) (fun h => ?_)
  refine V_aload_n (dG D_X4_move 33 rfl) rfl ?_
  refine gf_X4_11 rfl (dG D_X4_move 34 rfl) ?_
  refine V_iload (dG D_X4_move 35 rfl) rfl ?_
  refine aald_nodes (dG D_X4_move 36 rfl) (inr_nI hw4 (by decide)) ?_
  refine V_aload_n (dG D_X4_move 37 rfl) rfl ?_
  refine gf_X4_47 rfl (dG D_X4_move 38 rfl) ?_
  refine R_vb1 (ok_tellStamp hw4) lk_X4_68 (dG D_X4_move 39 rfl) (rcv_2 (by first | assumption | omega)) ⟨Nat.le_of_ble_eq_true rfl, Nat.le_of_ble_eq_true rfl⟩ ⟨(Nat.le_of_ble_eq_true rfl), (Nat.le_of_ble_eq_true rfl)⟩ (by first | exact Nat.le_of_ble_eq_true rfl | simp [cat_rf, cat_int, cat_ref]) (fun h => ?_)
  refine V_istore (dG D_X4_move 40 rfl) (Nat.le_of_ble_eq_true rfl) ?_
  refine V_iload_n (dG D_X4_move 41 rfl) rfl ?_
  refine V_istore (dG D_X4_move 42 rfl) (Nat.le_of_ble_eq_true rfl) ?_
  exact lp_mvS hb2 (b - a) a _ (by omega) h
theorem th_move1 {x y : Int32} (h1 : ¬ fkS C x 32 0 0 < 32) : THR g K_X4_move 1 6 [.ref (ad g 0), .int x, .int y] nt C M o "java/lang/IndexOutOfBoundsException" := by
  refine MT_of (by decide +kernel) rfl rfl (Nat.le_of_ble_eq_true rfl) (by simp [cat_rf, cat_int, cat_ref]) (fun h => ?_)
  refine V_aload_n (dG D_X4_move 0 rfl) rfl ?_
  refine V_iload_n (dG D_X4_move 1 rfl) rfl ?_
  refine R_vb1 ok_firstKeyOf lk_X4_104 (dG D_X4_move 2 rfl) rcv_4 ⟨Nat.le_of_ble_eq_true rfl, Nat.le_of_ble_eq_true rfl⟩ ⟨(Nat.le_of_ble_eq_true rfl), (Nat.le_of_ble_eq_true rfl)⟩ (by first | exact Nat.le_of_ble_eq_true rfl | simp [cat_rf, cat_int, cat_ref]) (fun h => ?_)
  refine V_istore_n (dG D_X4_move 3 rfl) (Nat.le_of_ble_eq_true rfl) ?_
  refine V_iload_n (dG D_X4_move 4 rfl) rfl ?_
  refine V_bipush (v := 32) (dG D_X4_move 5 rfl) (by decide) ?_
  refine V_icmp_lt (tgt := 22) (dG D_X4_move 6 rfl) (by decide) (fun c_9 => absurd c_9 h1) (fun c_9 => ?_)
  exact V_th98 (text := "no such range") rfl rfl (by decide +kernel) (dG D_X4_move 7 rfl) (dG D_X4_move 8 rfl) (dG D_X4_move 9 rfl) (dG D_X4_move 10 rfl) (dG D_X4_move 11 rfl) (Nat.le_of_ble_eq_true rfl) (Nat.le_of_ble_eq_true rfl) (Nat.le_of_ble_eq_true rfl) (Nat.le_of_ble_eq_true rfl) ⟨rfl, rfl, rfl, rfl⟩
theorem th_move2 {x y : Int32} {a : Nat} (ha : fkS C x 32 0 0 = nI a) (ha2 : a < 32) (h0 : y < 0 ∨ ¬ y < 4) : THR g K_X4_move 1 6 [.ref (ad g 0), .int x, .int y] nt C M o "java/lang/IndexOutOfBoundsException" := by
  refine MT_of (by decide +kernel) rfl rfl (Nat.le_of_ble_eq_true rfl) (by simp [cat_rf, cat_int, cat_ref]) (fun h => ?_)
  refine V_aload_n (dG D_X4_move 0 rfl) rfl ?_
  refine V_iload_n (dG D_X4_move 1 rfl) rfl ?_
  refine R_vb1 ok_firstKeyOf lk_X4_104 (dG D_X4_move 2 rfl) rcv_4 ⟨Nat.le_of_ble_eq_true rfl, Nat.le_of_ble_eq_true rfl⟩ ⟨(Nat.le_of_ble_eq_true rfl), (Nat.le_of_ble_eq_true rfl)⟩ (by first | exact Nat.le_of_ble_eq_true rfl | simp [cat_rf, cat_int, cat_ref]) (fun h => ?_)
  rw [ha]
  refine V_istore_n (dG D_X4_move 3 rfl) (Nat.le_of_ble_eq_true rfl) ?_
  refine V_iload_n (dG D_X4_move 4 rfl) rfl ?_
  refine V_bipush (v := 32) (dG D_X4_move 5 rfl) (by decide) ?_
  refine V_icmp_lt (tgt := 22) (dG D_X4_move 6 rfl) (by decide) (fun c_9 => ?_) (fun c_9 => absurd (nI_lt (b := 32) (show a < 32 by omega) (by decide)) c_9)
  refine V_aload_n (dG D_X4_move 12 rfl) rfl ?_
  refine V_iload_n (dG D_X4_move 13 rfl) rfl ?_
  exact T_b1 (th_needNode h0) lk_X4_56 (dG D_X4_move 14 rfl) rcv_4 ⟨Nat.le_of_ble_eq_true rfl, Nat.le_of_ble_eq_true rfl⟩ ⟨(Nat.le_of_ble_eq_true rfl), (Nat.le_of_ble_eq_true rfl)⟩ (by first | exact Nat.le_of_ble_eq_true rfl | simp [cat_rf, cat_int, cat_ref]) (fun h => VX_out rfl (Nat.le_of_ble_eq_true rfl) (Nat.le_of_ble_eq_true rfl) ⟨rfl, rfl, rfl, rfl⟩)
theorem th_move3 {x : Int32} {n : Nat} (hn : n < 4) {a b : Nat} (ha : fkS C x 32 0 0 = nI a) (hb : fkS C (x + 1) 32 0 0 = nI b) (hab : a < b) (hb2 : b ≤ 32) {w : Nat} (hw : C 4 a = nI w) (hw4 : w < 4) (hu1 : ¬ C 3 w = 0) : THR g K_X4_move 1 6 [.ref (ad g 0), .int x, .int (nI n)] nt C M o "java/lang/IllegalStateException" := by
  refine MT_of (by decide +kernel) rfl rfl (Nat.le_of_ble_eq_true rfl) (by simp [cat_rf, cat_int, cat_ref]) (fun h => ?_)
  refine V_aload_n (dG D_X4_move 0 rfl) rfl ?_
  refine V_iload_n (dG D_X4_move 1 rfl) rfl ?_
  refine R_vb1 ok_firstKeyOf lk_X4_104 (dG D_X4_move 2 rfl) rcv_4 ⟨Nat.le_of_ble_eq_true rfl, Nat.le_of_ble_eq_true rfl⟩ ⟨(Nat.le_of_ble_eq_true rfl), (Nat.le_of_ble_eq_true rfl)⟩ (by first | exact Nat.le_of_ble_eq_true rfl | simp [cat_rf, cat_int, cat_ref]) (fun h => ?_)
  rw [ha]
  refine V_istore_n (dG D_X4_move 3 rfl) (Nat.le_of_ble_eq_true rfl) ?_
  refine V_iload_n (dG D_X4_move 4 rfl) rfl ?_
  refine V_bipush (v := 32) (dG D_X4_move 5 rfl) (by decide) ?_
  refine V_icmp_lt (tgt := 22) (dG D_X4_move 6 rfl) (by decide) (fun c_9 => ?_) (fun c_9 => absurd (nI_lt (b := 32) (show a < 32 by omega) (by decide)) c_9)
  refine V_aload_n (dG D_X4_move 12 rfl) rfl ?_
  refine V_iload_n (dG D_X4_move 13 rfl) rfl ?_
  refine R_nb1 (okN hn) lk_X4_56 (dG D_X4_move 14 rfl) rcv_4 ⟨Nat.le_of_ble_eq_true rfl, Nat.le_of_ble_eq_true rfl⟩ ⟨(Nat.le_of_ble_eq_true rfl), (Nat.le_of_ble_eq_true rfl)⟩ (by first | exact Nat.le_of_ble_eq_true rfl | simp [cat_rf, cat_int, cat_ref]) (fun h => ?_)
  refine V_aload_n (dG D_X4_move 15 rfl) rfl ?_
  refine V_iload_n (dG D_X4_move 16 rfl) rfl ?_
  refine V_iconst (v := 1) (dG D_X4_move 17 rfl) (by decide) ?_
  refine V_iadd (dG D_X4_move 18 rfl) ?_
  refine R_vb1 ok_firstKeyOf lk_X4_104 (dG D_X4_move 19 rfl) rcv_4 ⟨Nat.le_of_ble_eq_true rfl, Nat.le_of_ble_eq_true rfl⟩ ⟨(Nat.le_of_ble_eq_true rfl), (Nat.le_of_ble_eq_true rfl)⟩ (by first | exact Nat.le_of_ble_eq_true rfl | simp [cat_rf, cat_int, cat_ref]) (fun h => ?_)
  rw [hb]
  refine V_istore (dG D_X4_move 20 rfl) (Nat.le_of_ble_eq_true rfl) ?_
  refine V_aload_n (dG D_X4_move 21 rfl) rfl ?_
  refine gf_X4_17 rfl (dG D_X4_move 22 rfl) ?_
  refine V_iload_n (dG D_X4_move 23 rfl) rfl ?_
  refine aald_cells (dG D_X4_move 24 rfl) (inr_nI (by omega) (by decide)) ?_
  refine gf_X4_79 rfl (dG D_X4_move 25 rfl) (by first | assumption | omega) ?_
  rw [hw]
  refine V_istore (dG D_X4_move 26 rfl) (Nat.le_of_ble_eq_true rfl) ?_
  refine V_aload_n (dG D_X4_move 27 rfl) rfl ?_
  refine V_iload (dG D_X4_move 28 rfl) rfl ?_
  exact T_b1 (th_needUp hw4 hu1) lk_X4_65 (dG D_X4_move 29 rfl) rcv_4 ⟨Nat.le_of_ble_eq_true rfl, Nat.le_of_ble_eq_true rfl⟩ ⟨(Nat.le_of_ble_eq_true rfl), (Nat.le_of_ble_eq_true rfl)⟩ (by first | exact Nat.le_of_ble_eq_true rfl | simp [cat_rf, cat_int, cat_ref]) (fun h => VX_out rfl (Nat.le_of_ble_eq_true rfl) (Nat.le_of_ble_eq_true rfl) ⟨rfl, rfl, rfl, rfl⟩)
theorem th_move4 {x : Int32} {n : Nat} (hn : n < 4) {a b : Nat} (ha : fkS C x 32 0 0 = nI a) (hb : fkS C (x + 1) 32 0 0 = nI b) (hab : a < b) (hb2 : b ≤ 32) {w : Nat} (hw : C 4 a = nI w) (hw4 : w < 4) (hu1 : C 3 w = 0) (hu2 : ¬ C 3 n = 0) : THR g K_X4_move 1 6 [.ref (ad g 0), .int x, .int (nI n)] nt C M o "java/lang/IllegalStateException" := by
  refine MT_of (by decide +kernel) rfl rfl (Nat.le_of_ble_eq_true rfl) (by simp [cat_rf, cat_int, cat_ref]) (fun h => ?_)
  refine V_aload_n (dG D_X4_move 0 rfl) rfl ?_
  refine V_iload_n (dG D_X4_move 1 rfl) rfl ?_
  refine R_vb1 ok_firstKeyOf lk_X4_104 (dG D_X4_move 2 rfl) rcv_4 ⟨Nat.le_of_ble_eq_true rfl, Nat.le_of_ble_eq_true rfl⟩ ⟨(Nat.le_of_ble_eq_true rfl), (Nat.le_of_ble_eq_true rfl)⟩ (by first | exact Nat.le_of_ble_eq_true rfl | simp [cat_rf, cat_int, cat_ref]) (fun h => ?_)
  rw [ha]
  refine V_istore_n (dG D_X4_move 3 rfl) (Nat.le_of_ble_eq_true rfl) ?_
  refine V_iload_n (dG D_X4_move 4 rfl) rfl ?_
  refine V_bipush (v := 32) (dG D_X4_move 5 rfl) (by decide) ?_
  refine V_icmp_lt (tgt := 22) (dG D_X4_move 6 rfl) (by decide) (fun c_9 => ?_) (fun c_9 => absurd (nI_lt (b := 32) (show a < 32 by omega) (by decide)) c_9)
  refine V_aload_n (dG D_X4_move 12 rfl) rfl ?_
  refine V_iload_n (dG D_X4_move 13 rfl) rfl ?_
  refine R_nb1 (okN hn) lk_X4_56 (dG D_X4_move 14 rfl) rcv_4 ⟨Nat.le_of_ble_eq_true rfl, Nat.le_of_ble_eq_true rfl⟩ ⟨(Nat.le_of_ble_eq_true rfl), (Nat.le_of_ble_eq_true rfl)⟩ (by first | exact Nat.le_of_ble_eq_true rfl | simp [cat_rf, cat_int, cat_ref]) (fun h => ?_)
  refine V_aload_n (dG D_X4_move 15 rfl) rfl ?_
  refine V_iload_n (dG D_X4_move 16 rfl) rfl ?_
  refine V_iconst (v := 1) (dG D_X4_move 17 rfl) (by decide) ?_
  refine V_iadd (dG D_X4_move 18 rfl) ?_
  refine R_vb1 ok_firstKeyOf lk_X4_104 (dG D_X4_move 19 rfl) rcv_4 ⟨Nat.le_of_ble_eq_true rfl, Nat.le_of_ble_eq_true rfl⟩ ⟨(Nat.le_of_ble_eq_true rfl), (Nat.le_of_ble_eq_true rfl)⟩ (by first | exact Nat.le_of_ble_eq_true rfl | simp [cat_rf, cat_int, cat_ref]) (fun h => ?_)
  rw [hb]
  refine V_istore (dG D_X4_move 20 rfl) (Nat.le_of_ble_eq_true rfl) ?_
  refine V_aload_n (dG D_X4_move 21 rfl) rfl ?_
  refine gf_X4_17 rfl (dG D_X4_move 22 rfl) ?_
  refine V_iload_n (dG D_X4_move 23 rfl) rfl ?_
  refine aald_cells (dG D_X4_move 24 rfl) (inr_nI (by omega) (by decide)) ?_
  refine gf_X4_79 rfl (dG D_X4_move 25 rfl) (by first | assumption | omega) ?_
  rw [hw]
  refine V_istore (dG D_X4_move 26 rfl) (Nat.le_of_ble_eq_true rfl) ?_
  refine V_aload_n (dG D_X4_move 27 rfl) rfl ?_
  refine V_iload (dG D_X4_move 28 rfl) rfl ?_
  refine R_nb1 (ok_needUp hw4 hu1) lk_X4_65 (dG D_X4_move 29 rfl) rcv_4 ⟨Nat.le_of_ble_eq_true rfl, Nat.le_of_ble_eq_true rfl⟩ ⟨(Nat.le_of_ble_eq_true rfl), (Nat.le_of_ble_eq_true rfl)⟩ (by first | exact Nat.le_of_ble_eq_true rfl | simp [cat_rf, cat_int, cat_ref]) (fun h => ?_)
  refine V_aload_n (dG D_X4_move 30 rfl) rfl ?_
  refine V_iload_n (dG D_X4_move 31 rfl) rfl ?_
  exact T_b1 (th_needUp hn hu2) lk_X4_65 (dG D_X4_move 32 rfl) rcv_4 ⟨Nat.le_of_ble_eq_true rfl, Nat.le_of_ble_eq_true rfl⟩ ⟨(Nat.le_of_ble_eq_true rfl), (Nat.le_of_ble_eq_true rfl)⟩ (by first | exact Nat.le_of_ble_eq_true rfl | simp [cat_rf, cat_int, cat_ref]) (fun h => VX_out rfl (Nat.le_of_ble_eq_true rfl) (Nat.le_of_ble_eq_true rfl) ⟨rfl, rfl, rfl, rfl⟩)
end B11
