/-! the law's calls of the class: what each answers, whether the class returns or throws -/
theorem lh_pass : LSH RL 86 K_L_pass 3 := ⟨w_164, w_165, w_0, w_166, by decide +kernel⟩
theorem lh_skew : LSH RL 96 K_L_skew 4 := ⟨w_257, w_258, w_0, w_259, by decide +kernel⟩
theorem lh_clock : LSH RL 100 K_L_clock 3 := ⟨w_286, w_287, w_0, w_288, by decide +kernel⟩
theorem lh_down : LSH RL 107 K_L_down 3 := ⟨w_307, w_308, w_0, w_309, by decide +kernel⟩
theorem lh_up : LSH RL 110 K_L_up 3 := ⟨w_314, w_315, w_0, w_316, by decide +kernel⟩
theorem lh_sync : LSH RL 113 K_L_sync 3 := ⟨w_326, w_327, w_0, w_328, by decide +kernel⟩
theorem lh_split : LSH RL 116 K_L_split 3 := ⟨w_333, w_334, w_0, w_335, by decide +kernel⟩
theorem lh_merge : LSH RL 119 K_L_merge 3 := ⟨w_346, w_347, w_0, w_348, by decide +kernel⟩
theorem lh_move : LSH RL 122 K_L_move 4 := ⟨w_359, w_360, w_0, w_361, by decide +kernel⟩
theorem lh_get : LSH RL 128 K_L_get 4 := ⟨w_442, w_443, w_0, w_444, by decide +kernel⟩
theorem lh_put : LSH RL 131 K_L_put 5 := ⟨w_575, w_576, w_0, w_577, by decide +kernel⟩
theorem lh_commit : LSH RL 135 K_L_commit 4 := ⟨w_592, w_593, w_0, w_594, by decide +kernel⟩
theorem lh_abort : LSH RL 139 K_L_abort 3 := ⟨w_603, w_604, w_0, w_605, by decide +kernel⟩
theorem lh_recover : LSH RL 142 K_L_recover 3 := ⟨w_610, w_611, w_0, w_612, by decide +kernel⟩
theorem lh_beat : LSH RL 145 K_L_beat 3 := ⟨w_617, w_618, w_0, w_619, by decide +kernel⟩
theorem lh_told : LSH RL 148 K_L_told 4 := ⟨w_624, w_625, w_0, w_626, by decide +kernel⟩
theorem lh_key : LSH RL 151 K_L_key 4 := ⟨w_642, w_643, w_0, w_644, by decide +kernel⟩
theorem lh_asOf : LSH RL 154 K_L_asOf 4 := ⟨w_653, w_654, w_0, w_655, by decide +kernel⟩
theorem lh_feed : LSH RL 161 K_L_feed 3 := ⟨w_661, w_662, w_0, w_663, by decide +kernel⟩
theorem lh_order : LSH RL 164 K_L_order 3 := ⟨w_677, w_678, w_0, w_679, by decide +kernel⟩
theorem lh_begin : LSH RL 125 K_L_begin 4 := ⟨w_367, w_368, w_0, w_369, by decide +kernel⟩
theorem wr_pass {g : GT} {nt : Nat} {C M C1 : St} {o : Int64} {x v : Int32} {mc ms : Nat} (hO : RET g K_X4_pass mc ms [.ref (ad g 0), .int x] nt C M o (some (.int v)) C1 M o) : RETH g K_L_pass mc ms [.ref (ad g 0), .int x, .ref (ad g 9)] nt C M o (some (.int 0)) C1 M v.toInt64 := by
  refine MTH_of (by decide +kernel) rfl (Nat.le_of_ble_eq_true rfl) (by simp [cat_int, cat_ref]) (fun h => ?_)
  refine V_aload_n (dG D_L_pass 0 rfl) rfl ?_
  refine V_iconst (v := 0) (dG D_L_pass 1 rfl) (by decide) ?_
  refine V_aload_n (dG D_L_pass 2 rfl) rfl ?_
  refine V_iload_n (dG D_L_pass 3 rfl) rfl ?_
  refine R_vb1 hO lk_L_7 (dG D_L_pass 4 rfl) rcv_4 ⟨Nat.le_of_ble_eq_true rfl, Nat.le_of_ble_eq_true rfl⟩ ⟨by show 0 + mc ≤ mc; omega, by show 0 + ms ≤ ms; omega⟩ (by simp [cat_int, cat_ref]) (fun h => ?_)
  refine V_i2l (dG D_L_pass 5 rfl) ?_
  refine V_last0 (dG D_L_pass 6 rfl) ?_
  refine V_goto (tgt := 18) (dG D_L_pass 7 rfl) (by decide) ?_
  refine V_iconst (v := 0) (dG D_L_pass 14 rfl) (by decide) ?_
  exact V_iret (dG D_L_pass 15 rfl) rfl (by omega) (by omega) ⟨rfl, rfl, rfl, rfl⟩
theorem wt_pass_1 {g : GT} {nt : Nat} {C M : St} {o : Int64} {x : Int32} (hO : THR g K_X4_pass 1 6 [.ref (ad g 0), .int x] nt C M o IAE) : RETH g K_L_pass 1 6 [.ref (ad g 0), .int x, .ref (ad g 9)] nt C M o (some (.int 1)) C M o := by
  refine MTH_of (by decide +kernel) rfl (Nat.le_of_ble_eq_true rfl) (by simp [cat_int, cat_ref]) (fun h => ?_)
  refine V_aload_n (dG D_L_pass 0 rfl) rfl ?_
  refine V_iconst (v := 0) (dG D_L_pass 1 rfl) (by decide) ?_
  refine V_aload_n (dG D_L_pass 2 rfl) rfl ?_
  refine V_iload_n (dG D_L_pass 3 rfl) rfl ?_
  refine T_b1 hO lk_L_7 (dG D_L_pass 4 rfl) rcv_4 ⟨Nat.le_of_ble_eq_true rfl, Nat.le_of_ble_eq_true rfl⟩ ⟨by show 0 + 1 ≤ 1; omega, by show 0 + 6 ≤ 6; omega⟩ (by simp [cat_int, cat_ref]) (fun h => ?_)
  refine V_catch (E := IAE) [] (0, 9, 12, 13) [(0, 9, 15, 15)] rfl (fun z hz => by cases hz) (by decide) (by decide) w_167 (by decide +kernel) (fun q9 => ?_)
  refine V_astore_n (dG D_L_pass 8 rfl) (by decide) ?_
  refine V_iconst (v := 1) (dG D_L_pass 9 rfl) (by decide) ?_
  exact V_iret (dG D_L_pass 10 rfl) rfl (by omega) (by omega) ⟨rfl, rfl, rfl, rfl⟩
theorem wt_pass_2 {g : GT} {nt : Nat} {C M : St} {o : Int64} {x : Int32} (hO : THR g K_X4_pass 1 6 [.ref (ad g 0), .int x] nt C M o ISE) : RETH g K_L_pass 1 6 [.ref (ad g 0), .int x, .ref (ad g 9)] nt C M o (some (.int 2)) C M o := by
  refine MTH_of (by decide +kernel) rfl (Nat.le_of_ble_eq_true rfl) (by simp [cat_int, cat_ref]) (fun h => ?_)
  refine V_aload_n (dG D_L_pass 0 rfl) rfl ?_
  refine V_iconst (v := 0) (dG D_L_pass 1 rfl) (by decide) ?_
  refine V_aload_n (dG D_L_pass 2 rfl) rfl ?_
  refine V_iload_n (dG D_L_pass 3 rfl) rfl ?_
  refine T_b1 hO lk_L_7 (dG D_L_pass 4 rfl) rcv_4 ⟨Nat.le_of_ble_eq_true rfl, Nat.le_of_ble_eq_true rfl⟩ ⟨by show 0 + 1 ≤ 1; omega, by show 0 + 6 ≤ 6; omega⟩ (by simp [cat_int, cat_ref]) (fun h => ?_)
  refine V_catch (E := ISE) [(0, 9, 12, 13)] (0, 9, 15, 15) [] rfl (fun z hz => by
    simp only [List.mem_cons, List.not_mem_nil, or_false] at hz
    rcases hz with rfl
    · exact ⟨by decide, IAE, w_167, by decide +kernel⟩) (by decide) (by decide) w_168 (by decide +kernel) (fun q9 => ?_)
  refine V_astore_n (dG D_L_pass 11 rfl) (by decide) ?_
  refine V_iconst (v := 2) (dG D_L_pass 12 rfl) (by decide) ?_
  exact V_iret (dG D_L_pass 13 rfl) rfl (by omega) (by omega) ⟨rfl, rfl, rfl, rfl⟩
theorem ow_pass {g : GT} {nt : Nat} {C M C1 : St} {x k v : Int32} (hO : Out g K_X4_pass [.ref (ad g 0), .int x] [(1, IAE), (2, ISE)] nt C M k v C1) : ∃ mc ms, mc + cap C ≤ cap C1 + 1 ∧ ms + 4 * cap C ≤ 4 * cap C1 + 6 ∧ ∀ o, RETH g K_L_pass mc ms [.ref (ad g 0), .int x, .ref (ad g 9)] nt C M o (some (.int k)) C1 M (if k = 0 then v.toInt64 else o) := by
  rcases hO with ⟨rfl, mc, ms, h1, h2, h3⟩ | ⟨rfl, E, hE, h3⟩
  · exact ⟨mc, ms, by omega, by omega, fun o => by rw [if_pos rfl]; exact wr_pass (h3 o)⟩
  · simp only [List.mem_cons, List.not_mem_nil, or_false, Prod.mk.injEq] at hE
    rcases hE with ⟨rfl, rfl⟩ | ⟨rfl, rfl⟩
    · exact ⟨1, 6, by omega, by omega, fun o => by rw [if_neg (by decide)]; exact wt_pass_1 (h3 o)⟩
    · exact ⟨1, 6, by omega, by omega, fun o => by rw [if_neg (by decide)]; exact wt_pass_2 (h3 o)⟩
theorem wr_skew {g : GT} {nt : Nat} {C M C1 : St} {o : Int64} {x y v : Int32} {mc ms : Nat} (hO : RET g K_X4_skew mc ms [.ref (ad g 0), .int x, .int y] nt C M o (some (.int v)) C1 M o) : RETH g K_L_skew mc ms [.ref (ad g 0), .int x, .int y, .ref (ad g 9)] nt C M o (some (.int 0)) C1 M v.toInt64 := by
  refine MTH_of (by decide +kernel) rfl (Nat.le_of_ble_eq_true rfl) (by simp [cat_int, cat_ref]) (fun h => ?_)
  refine V_aload_n (dG D_L_skew 0 rfl) rfl ?_
  refine V_iconst (v := 0) (dG D_L_skew 1 rfl) (by decide) ?_
  refine V_aload_n (dG D_L_skew 2 rfl) rfl ?_
  refine V_iload_n (dG D_L_skew 3 rfl) rfl ?_
  refine V_iload_n (dG D_L_skew 4 rfl) rfl ?_
  refine R_vb2 hO lk_L_17 (dG D_L_skew 5 rfl) rcv_4 ⟨Nat.le_of_ble_eq_true rfl, Nat.le_of_ble_eq_true rfl⟩ ⟨by show 0 + mc ≤ mc; omega, by show 0 + ms ≤ ms; omega⟩ (by simp [cat_int, cat_ref]) (fun h => ?_)
  refine V_i2l (dG D_L_skew 6 rfl) ?_
  refine V_last0 (dG D_L_skew 7 rfl) ?_
  refine V_goto (tgt := 21) (dG D_L_skew 8 rfl) (by decide) ?_
  refine V_iconst (v := 0) (dG D_L_skew 15 rfl) (by decide) ?_
  exact V_iret (dG D_L_skew 16 rfl) rfl (by omega) (by omega) ⟨rfl, rfl, rfl, rfl⟩
theorem wt_skew_1 {g : GT} {nt : Nat} {C M : St} {o : Int64} {x y : Int32} (hO : THR g K_X4_skew 1 6 [.ref (ad g 0), .int x, .int y] nt C M o IOE) : RETH g K_L_skew 1 6 [.ref (ad g 0), .int x, .int y, .ref (ad g 9)] nt C M o (some (.int 1)) C M o := by
  refine MTH_of (by decide +kernel) rfl (Nat.le_of_ble_eq_true rfl) (by simp [cat_int, cat_ref]) (fun h => ?_)
  refine V_aload_n (dG D_L_skew 0 rfl) rfl ?_
  refine V_iconst (v := 0) (dG D_L_skew 1 rfl) (by decide) ?_
  refine V_aload_n (dG D_L_skew 2 rfl) rfl ?_
  refine V_iload_n (dG D_L_skew 3 rfl) rfl ?_
  refine V_iload_n (dG D_L_skew 4 rfl) rfl ?_
  refine T_b2 hO lk_L_17 (dG D_L_skew 5 rfl) rcv_4 ⟨Nat.le_of_ble_eq_true rfl, Nat.le_of_ble_eq_true rfl⟩ ⟨by show 0 + 1 ≤ 1; omega, by show 0 + 6 ≤ 6; omega⟩ (by simp [cat_int, cat_ref]) (fun h => ?_)
  refine V_catch (E := IOE) [] (0, 10, 13, 21) [(0, 10, 17, 13)] rfl (fun z hz => by cases hz) (by decide) (by decide) w_260 (by decide +kernel) (fun q9 => ?_)
  refine V_astore (dG D_L_skew 9 rfl) (by decide) ?_
  refine V_iconst (v := 1) (dG D_L_skew 10 rfl) (by decide) ?_
  exact V_iret (dG D_L_skew 11 rfl) rfl (by omega) (by omega) ⟨rfl, rfl, rfl, rfl⟩
theorem wt_skew_2 {g : GT} {nt : Nat} {C M : St} {o : Int64} {x y : Int32} (hO : THR g K_X4_skew 1 6 [.ref (ad g 0), .int x, .int y] nt C M o IAE) : RETH g K_L_skew 1 6 [.ref (ad g 0), .int x, .int y, .ref (ad g 9)] nt C M o (some (.int 2)) C M o := by
  refine MTH_of (by decide +kernel) rfl (Nat.le_of_ble_eq_true rfl) (by simp [cat_int, cat_ref]) (fun h => ?_)
  refine V_aload_n (dG D_L_skew 0 rfl) rfl ?_
  refine V_iconst (v := 0) (dG D_L_skew 1 rfl) (by decide) ?_
  refine V_aload_n (dG D_L_skew 2 rfl) rfl ?_
  refine V_iload_n (dG D_L_skew 3 rfl) rfl ?_
  refine V_iload_n (dG D_L_skew 4 rfl) rfl ?_
  refine T_b2 hO lk_L_17 (dG D_L_skew 5 rfl) rcv_4 ⟨Nat.le_of_ble_eq_true rfl, Nat.le_of_ble_eq_true rfl⟩ ⟨by show 0 + 1 ≤ 1; omega, by show 0 + 6 ≤ 6; omega⟩ (by simp [cat_int, cat_ref]) (fun h => ?_)
  refine V_catch (E := IAE) [(0, 10, 13, 21)] (0, 10, 17, 13) [] rfl (fun z hz => by
    simp only [List.mem_cons, List.not_mem_nil, or_false] at hz
    rcases hz with rfl
    · exact ⟨by decide, IOE, w_260, by decide +kernel⟩) (by decide) (by decide) w_167 (by decide +kernel) (fun q9 => ?_)
  refine V_astore (dG D_L_skew 12 rfl) (by decide) ?_
  refine V_iconst (v := 2) (dG D_L_skew 13 rfl) (by decide) ?_
  exact V_iret (dG D_L_skew 14 rfl) rfl (by omega) (by omega) ⟨rfl, rfl, rfl, rfl⟩
theorem ow_skew {g : GT} {nt : Nat} {C M C1 : St} {x y k v : Int32} (hO : Out g K_X4_skew [.ref (ad g 0), .int x, .int y] [(1, IOE), (2, IAE)] nt C M k v C1) : ∃ mc ms, mc + cap C ≤ cap C1 + 1 ∧ ms + 4 * cap C ≤ 4 * cap C1 + 6 ∧ ∀ o, RETH g K_L_skew mc ms [.ref (ad g 0), .int x, .int y, .ref (ad g 9)] nt C M o (some (.int k)) C1 M (if k = 0 then v.toInt64 else o) := by
  rcases hO with ⟨rfl, mc, ms, h1, h2, h3⟩ | ⟨rfl, E, hE, h3⟩
  · exact ⟨mc, ms, by omega, by omega, fun o => by rw [if_pos rfl]; exact wr_skew (h3 o)⟩
  · simp only [List.mem_cons, List.not_mem_nil, or_false, Prod.mk.injEq] at hE
    rcases hE with ⟨rfl, rfl⟩ | ⟨rfl, rfl⟩
    · exact ⟨1, 6, by omega, by omega, fun o => by rw [if_neg (by decide)]; exact wt_skew_1 (h3 o)⟩
    · exact ⟨1, 6, by omega, by omega, fun o => by rw [if_neg (by decide)]; exact wt_skew_2 (h3 o)⟩
theorem wr_clock {g : GT} {nt : Nat} {C M C1 : St} {o : Int64} {x v : Int32} {mc ms : Nat} (hO : RET g K_X4_clock mc ms [.ref (ad g 0), .int x] nt C M o (some (.int v)) C1 M o) : RETH g K_L_clock mc ms [.ref (ad g 0), .int x, .ref (ad g 9)] nt C M o (some (.int 0)) C1 M v.toInt64 := by
  refine MTH_of (by decide +kernel) rfl (Nat.le_of_ble_eq_true rfl) (by simp [cat_int, cat_ref]) (fun h => ?_)
  refine V_aload_n (dG D_L_clock 0 rfl) rfl ?_
  refine V_iconst (v := 0) (dG D_L_clock 1 rfl) (by decide) ?_
  refine V_aload_n (dG D_L_clock 2 rfl) rfl ?_
  refine V_iload_n (dG D_L_clock 3 rfl) rfl ?_
  refine R_vb1 hO lk_L_23 (dG D_L_clock 4 rfl) rcv_4 ⟨Nat.le_of_ble_eq_true rfl, Nat.le_of_ble_eq_true rfl⟩ ⟨by show 0 + mc ≤ mc; omega, by show 0 + ms ≤ ms; omega⟩ (by simp [cat_int, cat_ref]) (fun h => ?_)
  refine V_i2l (dG D_L_clock 5 rfl) ?_
  refine V_last0 (dG D_L_clock 6 rfl) ?_
  refine V_goto (tgt := 18) (dG D_L_clock 7 rfl) (by decide) ?_
  refine V_iconst (v := 0) (dG D_L_clock 14 rfl) (by decide) ?_
  exact V_iret (dG D_L_clock 15 rfl) rfl (by omega) (by omega) ⟨rfl, rfl, rfl, rfl⟩
theorem wt_clock_1 {g : GT} {nt : Nat} {C M : St} {o : Int64} {x : Int32} (hO : THR g K_X4_clock 1 6 [.ref (ad g 0), .int x] nt C M o IOE) : RETH g K_L_clock 1 6 [.ref (ad g 0), .int x, .ref (ad g 9)] nt C M o (some (.int 1)) C M o := by
  refine MTH_of (by decide +kernel) rfl (Nat.le_of_ble_eq_true rfl) (by simp [cat_int, cat_ref]) (fun h => ?_)
  refine V_aload_n (dG D_L_clock 0 rfl) rfl ?_
  refine V_iconst (v := 0) (dG D_L_clock 1 rfl) (by decide) ?_
  refine V_aload_n (dG D_L_clock 2 rfl) rfl ?_
  refine V_iload_n (dG D_L_clock 3 rfl) rfl ?_
  refine T_b1 hO lk_L_23 (dG D_L_clock 4 rfl) rcv_4 ⟨Nat.le_of_ble_eq_true rfl, Nat.le_of_ble_eq_true rfl⟩ ⟨by show 0 + 1 ≤ 1; omega, by show 0 + 6 ≤ 6; omega⟩ (by simp [cat_int, cat_ref]) (fun h => ?_)
  refine V_catch (E := IOE) [] (0, 9, 12, 21) [(0, 9, 15, 15)] rfl (fun z hz => by cases hz) (by decide) (by decide) w_260 (by decide +kernel) (fun q9 => ?_)
  refine V_astore_n (dG D_L_clock 8 rfl) (by decide) ?_
  refine V_iconst (v := 1) (dG D_L_clock 9 rfl) (by decide) ?_
  exact V_iret (dG D_L_clock 10 rfl) rfl (by omega) (by omega) ⟨rfl, rfl, rfl, rfl⟩
theorem wt_clock_2 {g : GT} {nt : Nat} {C M : St} {o : Int64} {x : Int32} (hO : THR g K_X4_clock 1 6 [.ref (ad g 0), .int x] nt C M o ISE) : RETH g K_L_clock 1 6 [.ref (ad g 0), .int x, .ref (ad g 9)] nt C M o (some (.int 2)) C M o := by
  refine MTH_of (by decide +kernel) rfl (Nat.le_of_ble_eq_true rfl) (by simp [cat_int, cat_ref]) (fun h => ?_)
  refine V_aload_n (dG D_L_clock 0 rfl) rfl ?_
  refine V_iconst (v := 0) (dG D_L_clock 1 rfl) (by decide) ?_
  refine V_aload_n (dG D_L_clock 2 rfl) rfl ?_
  refine V_iload_n (dG D_L_clock 3 rfl) rfl ?_
  refine T_b1 hO lk_L_23 (dG D_L_clock 4 rfl) rcv_4 ⟨Nat.le_of_ble_eq_true rfl, Nat.le_of_ble_eq_true rfl⟩ ⟨by show 0 + 1 ≤ 1; omega, by show 0 + 6 ≤ 6; omega⟩ (by simp [cat_int, cat_ref]) (fun h => ?_)
  refine V_catch (E := ISE) [(0, 9, 12, 21)] (0, 9, 15, 15) [] rfl (fun z hz => by
    simp only [List.mem_cons, List.not_mem_nil, or_false] at hz
    rcases hz with rfl
    · exact ⟨by decide, IOE, w_260, by decide +kernel⟩) (by decide) (by decide) w_168 (by decide +kernel) (fun q9 => ?_)
  refine V_astore_n (dG D_L_clock 11 rfl) (by decide) ?_
  refine V_iconst (v := 2) (dG D_L_clock 12 rfl) (by decide) ?_
  exact V_iret (dG D_L_clock 13 rfl) rfl (by omega) (by omega) ⟨rfl, rfl, rfl, rfl⟩
theorem ow_clock {g : GT} {nt : Nat} {C M C1 : St} {x k v : Int32} (hO : Out g K_X4_clock [.ref (ad g 0), .int x] [(1, IOE), (2, ISE)] nt C M k v C1) : ∃ mc ms, mc + cap C ≤ cap C1 + 1 ∧ ms + 4 * cap C ≤ 4 * cap C1 + 6 ∧ ∀ o, RETH g K_L_clock mc ms [.ref (ad g 0), .int x, .ref (ad g 9)] nt C M o (some (.int k)) C1 M (if k = 0 then v.toInt64 else o) := by
  rcases hO with ⟨rfl, mc, ms, h1, h2, h3⟩ | ⟨rfl, E, hE, h3⟩
  · exact ⟨mc, ms, by omega, by omega, fun o => by rw [if_pos rfl]; exact wr_clock (h3 o)⟩
  · simp only [List.mem_cons, List.not_mem_nil, or_false, Prod.mk.injEq] at hE
    rcases hE with ⟨rfl, rfl⟩ | ⟨rfl, rfl⟩
    · exact ⟨1, 6, by omega, by omega, fun o => by rw [if_neg (by decide)]; exact wt_clock_1 (h3 o)⟩
    · exact ⟨1, 6, by omega, by omega, fun o => by rw [if_neg (by decide)]; exact wt_clock_2 (h3 o)⟩
theorem wr_down {g : GT} {nt : Nat} {C M C1 : St} {o : Int64} {x v : Int32} {mc ms : Nat} (hO : RET g K_X4_down mc ms [.ref (ad g 0), .int x] nt C M o (some (.int v)) C1 M o) : RETH g K_L_down mc ms [.ref (ad g 0), .int x, .ref (ad g 9)] nt C M o (some (.int 0)) C1 M v.toInt64 := by
  refine MTH_of (by decide +kernel) rfl (Nat.le_of_ble_eq_true rfl) (by simp [cat_int, cat_ref]) (fun h => ?_)
  refine V_aload_n (dG D_L_down 0 rfl) rfl ?_
  refine V_iconst (v := 0) (dG D_L_down 1 rfl) (by decide) ?_
  refine V_aload_n (dG D_L_down 2 rfl) rfl ?_
  refine V_iload_n (dG D_L_down 3 rfl) rfl ?_
  refine R_vb1 hO lk_L_26 (dG D_L_down 4 rfl) rcv_4 ⟨Nat.le_of_ble_eq_true rfl, Nat.le_of_ble_eq_true rfl⟩ ⟨by show 0 + mc ≤ mc; omega, by show 0 + ms ≤ ms; omega⟩ (by simp [cat_int, cat_ref]) (fun h => ?_)
  refine V_i2l (dG D_L_down 5 rfl) ?_
  refine V_last0 (dG D_L_down 6 rfl) ?_
  refine V_goto (tgt := 18) (dG D_L_down 7 rfl) (by decide) ?_
  refine V_iconst (v := 0) (dG D_L_down 14 rfl) (by decide) ?_
  exact V_iret (dG D_L_down 15 rfl) rfl (by omega) (by omega) ⟨rfl, rfl, rfl, rfl⟩
theorem wt_down_1 {g : GT} {nt : Nat} {C M : St} {o : Int64} {x : Int32} (hO : THR g K_X4_down 1 6 [.ref (ad g 0), .int x] nt C M o IOE) : RETH g K_L_down 1 6 [.ref (ad g 0), .int x, .ref (ad g 9)] nt C M o (some (.int 1)) C M o := by
  refine MTH_of (by decide +kernel) rfl (Nat.le_of_ble_eq_true rfl) (by simp [cat_int, cat_ref]) (fun h => ?_)
  refine V_aload_n (dG D_L_down 0 rfl) rfl ?_
  refine V_iconst (v := 0) (dG D_L_down 1 rfl) (by decide) ?_
  refine V_aload_n (dG D_L_down 2 rfl) rfl ?_
  refine V_iload_n (dG D_L_down 3 rfl) rfl ?_
  refine T_b1 hO lk_L_26 (dG D_L_down 4 rfl) rcv_4 ⟨Nat.le_of_ble_eq_true rfl, Nat.le_of_ble_eq_true rfl⟩ ⟨by show 0 + 1 ≤ 1; omega, by show 0 + 6 ≤ 6; omega⟩ (by simp [cat_int, cat_ref]) (fun h => ?_)
  refine V_catch (E := IOE) [] (0, 9, 12, 21) [(0, 9, 15, 15)] rfl (fun z hz => by cases hz) (by decide) (by decide) w_260 (by decide +kernel) (fun q9 => ?_)
  refine V_astore_n (dG D_L_down 8 rfl) (by decide) ?_
  refine V_iconst (v := 1) (dG D_L_down 9 rfl) (by decide) ?_
  exact V_iret (dG D_L_down 10 rfl) rfl (by omega) (by omega) ⟨rfl, rfl, rfl, rfl⟩
theorem wt_down_2 {g : GT} {nt : Nat} {C M : St} {o : Int64} {x : Int32} (hO : THR g K_X4_down 1 6 [.ref (ad g 0), .int x] nt C M o ISE) : RETH g K_L_down 1 6 [.ref (ad g 0), .int x, .ref (ad g 9)] nt C M o (some (.int 2)) C M o := by
  refine MTH_of (by decide +kernel) rfl (Nat.le_of_ble_eq_true rfl) (by simp [cat_int, cat_ref]) (fun h => ?_)
  refine V_aload_n (dG D_L_down 0 rfl) rfl ?_
  refine V_iconst (v := 0) (dG D_L_down 1 rfl) (by decide) ?_
  refine V_aload_n (dG D_L_down 2 rfl) rfl ?_
  refine V_iload_n (dG D_L_down 3 rfl) rfl ?_
  refine T_b1 hO lk_L_26 (dG D_L_down 4 rfl) rcv_4 ⟨Nat.le_of_ble_eq_true rfl, Nat.le_of_ble_eq_true rfl⟩ ⟨by show 0 + 1 ≤ 1; omega, by show 0 + 6 ≤ 6; omega⟩ (by simp [cat_int, cat_ref]) (fun h => ?_)
  refine V_catch (E := ISE) [(0, 9, 12, 21)] (0, 9, 15, 15) [] rfl (fun z hz => by
    simp only [List.mem_cons, List.not_mem_nil, or_false] at hz
    rcases hz with rfl
    · exact ⟨by decide, IOE, w_260, by decide +kernel⟩) (by decide) (by decide) w_168 (by decide +kernel) (fun q9 => ?_)
  refine V_astore_n (dG D_L_down 11 rfl) (by decide) ?_
  refine V_iconst (v := 2) (dG D_L_down 12 rfl) (by decide) ?_
  exact V_iret (dG D_L_down 13 rfl) rfl (by omega) (by omega) ⟨rfl, rfl, rfl, rfl⟩
theorem ow_down {g : GT} {nt : Nat} {C M C1 : St} {x k v : Int32} (hO : Out g K_X4_down [.ref (ad g 0), .int x] [(1, IOE), (2, ISE)] nt C M k v C1) : ∃ mc ms, mc + cap C ≤ cap C1 + 1 ∧ ms + 4 * cap C ≤ 4 * cap C1 + 6 ∧ ∀ o, RETH g K_L_down mc ms [.ref (ad g 0), .int x, .ref (ad g 9)] nt C M o (some (.int k)) C1 M (if k = 0 then v.toInt64 else o) := by
  rcases hO with ⟨rfl, mc, ms, h1, h2, h3⟩ | ⟨rfl, E, hE, h3⟩
  · exact ⟨mc, ms, by omega, by omega, fun o => by rw [if_pos rfl]; exact wr_down (h3 o)⟩
  · simp only [List.mem_cons, List.not_mem_nil, or_false, Prod.mk.injEq] at hE
    rcases hE with ⟨rfl, rfl⟩ | ⟨rfl, rfl⟩
    · exact ⟨1, 6, by omega, by omega, fun o => by rw [if_neg (by decide)]; exact wt_down_1 (h3 o)⟩
    · exact ⟨1, 6, by omega, by omega, fun o => by rw [if_neg (by decide)]; exact wt_down_2 (h3 o)⟩
theorem wr_up {g : GT} {nt : Nat} {C M C1 : St} {o : Int64} {x v : Int32} {mc ms : Nat} (hO : RET g K_X4_up mc ms [.ref (ad g 0), .int x] nt C M o (some (.int v)) C1 M o) : RETH g K_L_up mc ms [.ref (ad g 0), .int x, .ref (ad g 9)] nt C M o (some (.int 0)) C1 M v.toInt64 := by
  refine MTH_of (by decide +kernel) rfl (Nat.le_of_ble_eq_true rfl) (by simp [cat_int, cat_ref]) (fun h => ?_)
  refine V_aload_n (dG D_L_up 0 rfl) rfl ?_
  refine V_iconst (v := 0) (dG D_L_up 1 rfl) (by decide) ?_
  refine V_aload_n (dG D_L_up 2 rfl) rfl ?_
  refine V_iload_n (dG D_L_up 3 rfl) rfl ?_
  refine R_vb1 hO lk_L_29 (dG D_L_up 4 rfl) rcv_4 ⟨Nat.le_of_ble_eq_true rfl, Nat.le_of_ble_eq_true rfl⟩ ⟨by show 0 + mc ≤ mc; omega, by show 0 + ms ≤ ms; omega⟩ (by simp [cat_int, cat_ref]) (fun h => ?_)
  refine V_i2l (dG D_L_up 5 rfl) ?_
  refine V_last0 (dG D_L_up 6 rfl) ?_
  refine V_goto (tgt := 18) (dG D_L_up 7 rfl) (by decide) ?_
  refine V_iconst (v := 0) (dG D_L_up 14 rfl) (by decide) ?_
  exact V_iret (dG D_L_up 15 rfl) rfl (by omega) (by omega) ⟨rfl, rfl, rfl, rfl⟩
theorem wt_up_1 {g : GT} {nt : Nat} {C M : St} {o : Int64} {x : Int32} (hO : THR g K_X4_up 1 6 [.ref (ad g 0), .int x] nt C M o IOE) : RETH g K_L_up 1 6 [.ref (ad g 0), .int x, .ref (ad g 9)] nt C M o (some (.int 1)) C M o := by
  refine MTH_of (by decide +kernel) rfl (Nat.le_of_ble_eq_true rfl) (by simp [cat_int, cat_ref]) (fun h => ?_)
  refine V_aload_n (dG D_L_up 0 rfl) rfl ?_
  refine V_iconst (v := 0) (dG D_L_up 1 rfl) (by decide) ?_
  refine V_aload_n (dG D_L_up 2 rfl) rfl ?_
  refine V_iload_n (dG D_L_up 3 rfl) rfl ?_
  refine T_b1 hO lk_L_29 (dG D_L_up 4 rfl) rcv_4 ⟨Nat.le_of_ble_eq_true rfl, Nat.le_of_ble_eq_true rfl⟩ ⟨by show 0 + 1 ≤ 1; omega, by show 0 + 6 ≤ 6; omega⟩ (by simp [cat_int, cat_ref]) (fun h => ?_)
  refine V_catch (E := IOE) [] (0, 9, 12, 21) [(0, 9, 15, 15)] rfl (fun z hz => by cases hz) (by decide) (by decide) w_260 (by decide +kernel) (fun q9 => ?_)
  refine V_astore_n (dG D_L_up 8 rfl) (by decide) ?_
  refine V_iconst (v := 1) (dG D_L_up 9 rfl) (by decide) ?_
  exact V_iret (dG D_L_up 10 rfl) rfl (by omega) (by omega) ⟨rfl, rfl, rfl, rfl⟩
theorem wt_up_2 {g : GT} {nt : Nat} {C M : St} {o : Int64} {x : Int32} (hO : THR g K_X4_up 1 6 [.ref (ad g 0), .int x] nt C M o ISE) : RETH g K_L_up 1 6 [.ref (ad g 0), .int x, .ref (ad g 9)] nt C M o (some (.int 2)) C M o := by
  refine MTH_of (by decide +kernel) rfl (Nat.le_of_ble_eq_true rfl) (by simp [cat_int, cat_ref]) (fun h => ?_)
  refine V_aload_n (dG D_L_up 0 rfl) rfl ?_
  refine V_iconst (v := 0) (dG D_L_up 1 rfl) (by decide) ?_
  refine V_aload_n (dG D_L_up 2 rfl) rfl ?_
  refine V_iload_n (dG D_L_up 3 rfl) rfl ?_
  refine T_b1 hO lk_L_29 (dG D_L_up 4 rfl) rcv_4 ⟨Nat.le_of_ble_eq_true rfl, Nat.le_of_ble_eq_true rfl⟩ ⟨by show 0 + 1 ≤ 1; omega, by show 0 + 6 ≤ 6; omega⟩ (by simp [cat_int, cat_ref]) (fun h => ?_)
  refine V_catch (E := ISE) [(0, 9, 12, 21)] (0, 9, 15, 15) [] rfl (fun z hz => by
    simp only [List.mem_cons, List.not_mem_nil, or_false] at hz
    rcases hz with rfl
    · exact ⟨by decide, IOE, w_260, by decide +kernel⟩) (by decide) (by decide) w_168 (by decide +kernel) (fun q9 => ?_)
  refine V_astore_n (dG D_L_up 11 rfl) (by decide) ?_
  refine V_iconst (v := 2) (dG D_L_up 12 rfl) (by decide) ?_
  exact V_iret (dG D_L_up 13 rfl) rfl (by omega) (by omega) ⟨rfl, rfl, rfl, rfl⟩
theorem ow_up {g : GT} {nt : Nat} {C M C1 : St} {x k v : Int32} (hO : Out g K_X4_up [.ref (ad g 0), .int x] [(1, IOE), (2, ISE)] nt C M k v C1) : ∃ mc ms, mc + cap C ≤ cap C1 + 1 ∧ ms + 4 * cap C ≤ 4 * cap C1 + 6 ∧ ∀ o, RETH g K_L_up mc ms [.ref (ad g 0), .int x, .ref (ad g 9)] nt C M o (some (.int k)) C1 M (if k = 0 then v.toInt64 else o) := by
  rcases hO with ⟨rfl, mc, ms, h1, h2, h3⟩ | ⟨rfl, E, hE, h3⟩
  · exact ⟨mc, ms, by omega, by omega, fun o => by rw [if_pos rfl]; exact wr_up (h3 o)⟩
  · simp only [List.mem_cons, List.not_mem_nil, or_false, Prod.mk.injEq] at hE
    rcases hE with ⟨rfl, rfl⟩ | ⟨rfl, rfl⟩
    · exact ⟨1, 6, by omega, by omega, fun o => by rw [if_neg (by decide)]; exact wt_up_1 (h3 o)⟩
    · exact ⟨1, 6, by omega, by omega, fun o => by rw [if_neg (by decide)]; exact wt_up_2 (h3 o)⟩
theorem wr_sync {g : GT} {nt : Nat} {C M C1 : St} {o : Int64} {x v : Int32} {mc ms : Nat} (hO : RET g K_X4_sync mc ms [.ref (ad g 0), .int x] nt C M o (some (.int v)) C1 M o) : RETH g K_L_sync mc ms [.ref (ad g 0), .int x, .ref (ad g 9)] nt C M o (some (.int 0)) C1 M v.toInt64 := by
  refine MTH_of (by decide +kernel) rfl (Nat.le_of_ble_eq_true rfl) (by simp [cat_int, cat_ref]) (fun h => ?_)
  refine V_aload_n (dG D_L_sync 0 rfl) rfl ?_
  refine V_iconst (v := 0) (dG D_L_sync 1 rfl) (by decide) ?_
  refine V_aload_n (dG D_L_sync 2 rfl) rfl ?_
  refine V_iload_n (dG D_L_sync 3 rfl) rfl ?_
  refine R_vb1 hO lk_L_32 (dG D_L_sync 4 rfl) rcv_4 ⟨Nat.le_of_ble_eq_true rfl, Nat.le_of_ble_eq_true rfl⟩ ⟨by show 0 + mc ≤ mc; omega, by show 0 + ms ≤ ms; omega⟩ (by simp [cat_int, cat_ref]) (fun h => ?_)
  refine V_i2l (dG D_L_sync 5 rfl) ?_
  refine V_last0 (dG D_L_sync 6 rfl) ?_
  refine V_goto (tgt := 18) (dG D_L_sync 7 rfl) (by decide) ?_
  refine V_iconst (v := 0) (dG D_L_sync 14 rfl) (by decide) ?_
  exact V_iret (dG D_L_sync 15 rfl) rfl (by omega) (by omega) ⟨rfl, rfl, rfl, rfl⟩
theorem wt_sync_1 {g : GT} {nt : Nat} {C M : St} {o : Int64} {x : Int32} (hO : THR g K_X4_sync 1 6 [.ref (ad g 0), .int x] nt C M o IOE) : RETH g K_L_sync 1 6 [.ref (ad g 0), .int x, .ref (ad g 9)] nt C M o (some (.int 1)) C M o := by
  refine MTH_of (by decide +kernel) rfl (Nat.le_of_ble_eq_true rfl) (by simp [cat_int, cat_ref]) (fun h => ?_)
  refine V_aload_n (dG D_L_sync 0 rfl) rfl ?_
  refine V_iconst (v := 0) (dG D_L_sync 1 rfl) (by decide) ?_
  refine V_aload_n (dG D_L_sync 2 rfl) rfl ?_
  refine V_iload_n (dG D_L_sync 3 rfl) rfl ?_
  refine T_b1 hO lk_L_32 (dG D_L_sync 4 rfl) rcv_4 ⟨Nat.le_of_ble_eq_true rfl, Nat.le_of_ble_eq_true rfl⟩ ⟨by show 0 + 1 ≤ 1; omega, by show 0 + 6 ≤ 6; omega⟩ (by simp [cat_int, cat_ref]) (fun h => ?_)
  refine V_catch (E := IOE) [] (0, 9, 12, 21) [(0, 9, 15, 15)] rfl (fun z hz => by cases hz) (by decide) (by decide) w_260 (by decide +kernel) (fun q9 => ?_)
  refine V_astore_n (dG D_L_sync 8 rfl) (by decide) ?_
  refine V_iconst (v := 1) (dG D_L_sync 9 rfl) (by decide) ?_
  exact V_iret (dG D_L_sync 10 rfl) rfl (by omega) (by omega) ⟨rfl, rfl, rfl, rfl⟩
theorem wt_sync_2 {g : GT} {nt : Nat} {C M : St} {o : Int64} {x : Int32} (hO : THR g K_X4_sync 1 6 [.ref (ad g 0), .int x] nt C M o ISE) : RETH g K_L_sync 1 6 [.ref (ad g 0), .int x, .ref (ad g 9)] nt C M o (some (.int 2)) C M o := by
  refine MTH_of (by decide +kernel) rfl (Nat.le_of_ble_eq_true rfl) (by simp [cat_int, cat_ref]) (fun h => ?_)
  refine V_aload_n (dG D_L_sync 0 rfl) rfl ?_
  refine V_iconst (v := 0) (dG D_L_sync 1 rfl) (by decide) ?_
  refine V_aload_n (dG D_L_sync 2 rfl) rfl ?_
  refine V_iload_n (dG D_L_sync 3 rfl) rfl ?_
  refine T_b1 hO lk_L_32 (dG D_L_sync 4 rfl) rcv_4 ⟨Nat.le_of_ble_eq_true rfl, Nat.le_of_ble_eq_true rfl⟩ ⟨by show 0 + 1 ≤ 1; omega, by show 0 + 6 ≤ 6; omega⟩ (by simp [cat_int, cat_ref]) (fun h => ?_)
  refine V_catch (E := ISE) [(0, 9, 12, 21)] (0, 9, 15, 15) [] rfl (fun z hz => by
    simp only [List.mem_cons, List.not_mem_nil, or_false] at hz
    rcases hz with rfl
    · exact ⟨by decide, IOE, w_260, by decide +kernel⟩) (by decide) (by decide) w_168 (by decide +kernel) (fun q9 => ?_)
  refine V_astore_n (dG D_L_sync 11 rfl) (by decide) ?_
  refine V_iconst (v := 2) (dG D_L_sync 12 rfl) (by decide) ?_
  exact V_iret (dG D_L_sync 13 rfl) rfl (by omega) (by omega) ⟨rfl, rfl, rfl, rfl⟩
theorem ow_sync {g : GT} {nt : Nat} {C M C1 : St} {x k v : Int32} (hO : Out g K_X4_sync [.ref (ad g 0), .int x] [(1, IOE), (2, ISE)] nt C M k v C1) : ∃ mc ms, mc + cap C ≤ cap C1 + 1 ∧ ms + 4 * cap C ≤ 4 * cap C1 + 6 ∧ ∀ o, RETH g K_L_sync mc ms [.ref (ad g 0), .int x, .ref (ad g 9)] nt C M o (some (.int k)) C1 M (if k = 0 then v.toInt64 else o) := by
  rcases hO with ⟨rfl, mc, ms, h1, h2, h3⟩ | ⟨rfl, E, hE, h3⟩
  · exact ⟨mc, ms, by omega, by omega, fun o => by rw [if_pos rfl]; exact wr_sync (h3 o)⟩
  · simp only [List.mem_cons, List.not_mem_nil, or_false, Prod.mk.injEq] at hE
    rcases hE with ⟨rfl, rfl⟩ | ⟨rfl, rfl⟩
    · exact ⟨1, 6, by omega, by omega, fun o => by rw [if_neg (by decide)]; exact wt_sync_1 (h3 o)⟩
    · exact ⟨1, 6, by omega, by omega, fun o => by rw [if_neg (by decide)]; exact wt_sync_2 (h3 o)⟩
theorem wr_split {g : GT} {nt : Nat} {C M C1 : St} {o : Int64} {x v : Int32} {mc ms : Nat} (hO : RET g K_X4_split mc ms [.ref (ad g 0), .int x] nt C M o (some (.int v)) C1 M o) : RETH g K_L_split mc ms [.ref (ad g 0), .int x, .ref (ad g 9)] nt C M o (some (.int 0)) C1 M v.toInt64 := by
  refine MTH_of (by decide +kernel) rfl (Nat.le_of_ble_eq_true rfl) (by simp [cat_int, cat_ref]) (fun h => ?_)
  refine V_aload_n (dG D_L_split 0 rfl) rfl ?_
  refine V_iconst (v := 0) (dG D_L_split 1 rfl) (by decide) ?_
  refine V_aload_n (dG D_L_split 2 rfl) rfl ?_
  refine V_iload_n (dG D_L_split 3 rfl) rfl ?_
  refine R_vb1 hO lk_L_35 (dG D_L_split 4 rfl) rcv_4 ⟨Nat.le_of_ble_eq_true rfl, Nat.le_of_ble_eq_true rfl⟩ ⟨by show 0 + mc ≤ mc; omega, by show 0 + ms ≤ ms; omega⟩ (by simp [cat_int, cat_ref]) (fun h => ?_)
  refine V_i2l (dG D_L_split 5 rfl) ?_
  refine V_last0 (dG D_L_split 6 rfl) ?_
  refine V_goto (tgt := 18) (dG D_L_split 7 rfl) (by decide) ?_
  refine V_iconst (v := 0) (dG D_L_split 14 rfl) (by decide) ?_
  exact V_iret (dG D_L_split 15 rfl) rfl (by omega) (by omega) ⟨rfl, rfl, rfl, rfl⟩
theorem wt_split_1 {g : GT} {nt : Nat} {C M : St} {o : Int64} {x : Int32} (hO : THR g K_X4_split 1 6 [.ref (ad g 0), .int x] nt C M o IOE) : RETH g K_L_split 1 6 [.ref (ad g 0), .int x, .ref (ad g 9)] nt C M o (some (.int 1)) C M o := by
  refine MTH_of (by decide +kernel) rfl (Nat.le_of_ble_eq_true rfl) (by simp [cat_int, cat_ref]) (fun h => ?_)
  refine V_aload_n (dG D_L_split 0 rfl) rfl ?_
  refine V_iconst (v := 0) (dG D_L_split 1 rfl) (by decide) ?_
  refine V_aload_n (dG D_L_split 2 rfl) rfl ?_
  refine V_iload_n (dG D_L_split 3 rfl) rfl ?_
  refine T_b1 hO lk_L_35 (dG D_L_split 4 rfl) rcv_4 ⟨Nat.le_of_ble_eq_true rfl, Nat.le_of_ble_eq_true rfl⟩ ⟨by show 0 + 1 ≤ 1; omega, by show 0 + 6 ≤ 6; omega⟩ (by simp [cat_int, cat_ref]) (fun h => ?_)
  refine V_catch (E := IOE) [] (0, 9, 12, 21) [(0, 9, 15, 15)] rfl (fun z hz => by cases hz) (by decide) (by decide) w_260 (by decide +kernel) (fun q9 => ?_)
  refine V_astore_n (dG D_L_split 8 rfl) (by decide) ?_
  refine V_iconst (v := 1) (dG D_L_split 9 rfl) (by decide) ?_
  exact V_iret (dG D_L_split 10 rfl) rfl (by omega) (by omega) ⟨rfl, rfl, rfl, rfl⟩
theorem wt_split_2 {g : GT} {nt : Nat} {C M : St} {o : Int64} {x : Int32} (hO : THR g K_X4_split 1 6 [.ref (ad g 0), .int x] nt C M o ISE) : RETH g K_L_split 1 6 [.ref (ad g 0), .int x, .ref (ad g 9)] nt C M o (some (.int 2)) C M o := by
  refine MTH_of (by decide +kernel) rfl (Nat.le_of_ble_eq_true rfl) (by simp [cat_int, cat_ref]) (fun h => ?_)
  refine V_aload_n (dG D_L_split 0 rfl) rfl ?_
  refine V_iconst (v := 0) (dG D_L_split 1 rfl) (by decide) ?_
  refine V_aload_n (dG D_L_split 2 rfl) rfl ?_
  refine V_iload_n (dG D_L_split 3 rfl) rfl ?_
  refine T_b1 hO lk_L_35 (dG D_L_split 4 rfl) rcv_4 ⟨Nat.le_of_ble_eq_true rfl, Nat.le_of_ble_eq_true rfl⟩ ⟨by show 0 + 1 ≤ 1; omega, by show 0 + 6 ≤ 6; omega⟩ (by simp [cat_int, cat_ref]) (fun h => ?_)
  refine V_catch (E := ISE) [(0, 9, 12, 21)] (0, 9, 15, 15) [] rfl (fun z hz => by
    simp only [List.mem_cons, List.not_mem_nil, or_false] at hz
    rcases hz with rfl
    · exact ⟨by decide, IOE, w_260, by decide +kernel⟩) (by decide) (by decide) w_168 (by decide +kernel) (fun q9 => ?_)
  refine V_astore_n (dG D_L_split 11 rfl) (by decide) ?_
  refine V_iconst (v := 2) (dG D_L_split 12 rfl) (by decide) ?_
  exact V_iret (dG D_L_split 13 rfl) rfl (by omega) (by omega) ⟨rfl, rfl, rfl, rfl⟩
theorem ow_split {g : GT} {nt : Nat} {C M C1 : St} {x k v : Int32} (hO : Out g K_X4_split [.ref (ad g 0), .int x] [(1, IOE), (2, ISE)] nt C M k v C1) : ∃ mc ms, mc + cap C ≤ cap C1 + 1 ∧ ms + 4 * cap C ≤ 4 * cap C1 + 6 ∧ ∀ o, RETH g K_L_split mc ms [.ref (ad g 0), .int x, .ref (ad g 9)] nt C M o (some (.int k)) C1 M (if k = 0 then v.toInt64 else o) := by
  rcases hO with ⟨rfl, mc, ms, h1, h2, h3⟩ | ⟨rfl, E, hE, h3⟩
  · exact ⟨mc, ms, by omega, by omega, fun o => by rw [if_pos rfl]; exact wr_split (h3 o)⟩
  · simp only [List.mem_cons, List.not_mem_nil, or_false, Prod.mk.injEq] at hE
    rcases hE with ⟨rfl, rfl⟩ | ⟨rfl, rfl⟩
    · exact ⟨1, 6, by omega, by omega, fun o => by rw [if_neg (by decide)]; exact wt_split_1 (h3 o)⟩
    · exact ⟨1, 6, by omega, by omega, fun o => by rw [if_neg (by decide)]; exact wt_split_2 (h3 o)⟩
theorem wr_merge {g : GT} {nt : Nat} {C M C1 : St} {o : Int64} {x v : Int32} {mc ms : Nat} (hO : RET g K_X4_merge mc ms [.ref (ad g 0), .int x] nt C M o (some (.int v)) C1 M o) : RETH g K_L_merge mc ms [.ref (ad g 0), .int x, .ref (ad g 9)] nt C M o (some (.int 0)) C1 M v.toInt64 := by
  refine MTH_of (by decide +kernel) rfl (Nat.le_of_ble_eq_true rfl) (by simp [cat_int, cat_ref]) (fun h => ?_)
  refine V_aload_n (dG D_L_merge 0 rfl) rfl ?_
  refine V_iconst (v := 0) (dG D_L_merge 1 rfl) (by decide) ?_
  refine V_aload_n (dG D_L_merge 2 rfl) rfl ?_
  refine V_iload_n (dG D_L_merge 3 rfl) rfl ?_
  refine R_vb1 hO lk_L_38 (dG D_L_merge 4 rfl) rcv_4 ⟨Nat.le_of_ble_eq_true rfl, Nat.le_of_ble_eq_true rfl⟩ ⟨by show 0 + mc ≤ mc; omega, by show 0 + ms ≤ ms; omega⟩ (by simp [cat_int, cat_ref]) (fun h => ?_)
  refine V_i2l (dG D_L_merge 5 rfl) ?_
  refine V_last0 (dG D_L_merge 6 rfl) ?_
  refine V_goto (tgt := 18) (dG D_L_merge 7 rfl) (by decide) ?_
  refine V_iconst (v := 0) (dG D_L_merge 14 rfl) (by decide) ?_
  exact V_iret (dG D_L_merge 15 rfl) rfl (by omega) (by omega) ⟨rfl, rfl, rfl, rfl⟩
theorem wt_merge_1 {g : GT} {nt : Nat} {C M : St} {o : Int64} {x : Int32} (hO : THR g K_X4_merge 1 6 [.ref (ad g 0), .int x] nt C M o IOE) : RETH g K_L_merge 1 6 [.ref (ad g 0), .int x, .ref (ad g 9)] nt C M o (some (.int 1)) C M o := by
  refine MTH_of (by decide +kernel) rfl (Nat.le_of_ble_eq_true rfl) (by simp [cat_int, cat_ref]) (fun h => ?_)
  refine V_aload_n (dG D_L_merge 0 rfl) rfl ?_
  refine V_iconst (v := 0) (dG D_L_merge 1 rfl) (by decide) ?_
  refine V_aload_n (dG D_L_merge 2 rfl) rfl ?_
  refine V_iload_n (dG D_L_merge 3 rfl) rfl ?_
  refine T_b1 hO lk_L_38 (dG D_L_merge 4 rfl) rcv_4 ⟨Nat.le_of_ble_eq_true rfl, Nat.le_of_ble_eq_true rfl⟩ ⟨by show 0 + 1 ≤ 1; omega, by show 0 + 6 ≤ 6; omega⟩ (by simp [cat_int, cat_ref]) (fun h => ?_)
  refine V_catch (E := IOE) [] (0, 9, 12, 21) [(0, 9, 15, 15)] rfl (fun z hz => by cases hz) (by decide) (by decide) w_260 (by decide +kernel) (fun q9 => ?_)
  refine V_astore_n (dG D_L_merge 8 rfl) (by decide) ?_
  refine V_iconst (v := 1) (dG D_L_merge 9 rfl) (by decide) ?_
  exact V_iret (dG D_L_merge 10 rfl) rfl (by omega) (by omega) ⟨rfl, rfl, rfl, rfl⟩
theorem wt_merge_2 {g : GT} {nt : Nat} {C M : St} {o : Int64} {x : Int32} (hO : THR g K_X4_merge 1 6 [.ref (ad g 0), .int x] nt C M o ISE) : RETH g K_L_merge 1 6 [.ref (ad g 0), .int x, .ref (ad g 9)] nt C M o (some (.int 2)) C M o := by
  refine MTH_of (by decide +kernel) rfl (Nat.le_of_ble_eq_true rfl) (by simp [cat_int, cat_ref]) (fun h => ?_)
  refine V_aload_n (dG D_L_merge 0 rfl) rfl ?_
  refine V_iconst (v := 0) (dG D_L_merge 1 rfl) (by decide) ?_
  refine V_aload_n (dG D_L_merge 2 rfl) rfl ?_
  refine V_iload_n (dG D_L_merge 3 rfl) rfl ?_
  refine T_b1 hO lk_L_38 (dG D_L_merge 4 rfl) rcv_4 ⟨Nat.le_of_ble_eq_true rfl, Nat.le_of_ble_eq_true rfl⟩ ⟨by show 0 + 1 ≤ 1; omega, by show 0 + 6 ≤ 6; omega⟩ (by simp [cat_int, cat_ref]) (fun h => ?_)
  refine V_catch (E := ISE) [(0, 9, 12, 21)] (0, 9, 15, 15) [] rfl (fun z hz => by
    simp only [List.mem_cons, List.not_mem_nil, or_false] at hz
    rcases hz with rfl
    · exact ⟨by decide, IOE, w_260, by decide +kernel⟩) (by decide) (by decide) w_168 (by decide +kernel) (fun q9 => ?_)
  refine V_astore_n (dG D_L_merge 11 rfl) (by decide) ?_
  refine V_iconst (v := 2) (dG D_L_merge 12 rfl) (by decide) ?_
  exact V_iret (dG D_L_merge 13 rfl) rfl (by omega) (by omega) ⟨rfl, rfl, rfl, rfl⟩
theorem ow_merge {g : GT} {nt : Nat} {C M C1 : St} {x k v : Int32} (hO : Out g K_X4_merge [.ref (ad g 0), .int x] [(1, IOE), (2, ISE)] nt C M k v C1) : ∃ mc ms, mc + cap C ≤ cap C1 + 1 ∧ ms + 4 * cap C ≤ 4 * cap C1 + 6 ∧ ∀ o, RETH g K_L_merge mc ms [.ref (ad g 0), .int x, .ref (ad g 9)] nt C M o (some (.int k)) C1 M (if k = 0 then v.toInt64 else o) := by
  rcases hO with ⟨rfl, mc, ms, h1, h2, h3⟩ | ⟨rfl, E, hE, h3⟩
  · exact ⟨mc, ms, by omega, by omega, fun o => by rw [if_pos rfl]; exact wr_merge (h3 o)⟩
  · simp only [List.mem_cons, List.not_mem_nil, or_false, Prod.mk.injEq] at hE
    rcases hE with ⟨rfl, rfl⟩ | ⟨rfl, rfl⟩
    · exact ⟨1, 6, by omega, by omega, fun o => by rw [if_neg (by decide)]; exact wt_merge_1 (h3 o)⟩
    · exact ⟨1, 6, by omega, by omega, fun o => by rw [if_neg (by decide)]; exact wt_merge_2 (h3 o)⟩
theorem wr_move {g : GT} {nt : Nat} {C M C1 : St} {o : Int64} {x y v : Int32} {mc ms : Nat} (hO : RET g K_X4_move mc ms [.ref (ad g 0), .int x, .int y] nt C M o (some (.int v)) C1 M o) : RETH g K_L_move mc ms [.ref (ad g 0), .int x, .int y, .ref (ad g 9)] nt C M o (some (.int 0)) C1 M v.toInt64 := by
  refine MTH_of (by decide +kernel) rfl (Nat.le_of_ble_eq_true rfl) (by simp [cat_int, cat_ref]) (fun h => ?_)
  refine V_aload_n (dG D_L_move 0 rfl) rfl ?_
  refine V_iconst (v := 0) (dG D_L_move 1 rfl) (by decide) ?_
  refine V_aload_n (dG D_L_move 2 rfl) rfl ?_
  refine V_iload_n (dG D_L_move 3 rfl) rfl ?_
  refine V_iload_n (dG D_L_move 4 rfl) rfl ?_
  refine R_vb2 hO lk_L_41 (dG D_L_move 5 rfl) rcv_4 ⟨Nat.le_of_ble_eq_true rfl, Nat.le_of_ble_eq_true rfl⟩ ⟨by show 0 + mc ≤ mc; omega, by show 0 + ms ≤ ms; omega⟩ (by simp [cat_int, cat_ref]) (fun h => ?_)
  refine V_i2l (dG D_L_move 6 rfl) ?_
  refine V_last0 (dG D_L_move 7 rfl) ?_
  refine V_goto (tgt := 21) (dG D_L_move 8 rfl) (by decide) ?_
  refine V_iconst (v := 0) (dG D_L_move 15 rfl) (by decide) ?_
  exact V_iret (dG D_L_move 16 rfl) rfl (by omega) (by omega) ⟨rfl, rfl, rfl, rfl⟩
theorem wt_move_1 {g : GT} {nt : Nat} {C M : St} {o : Int64} {x y : Int32} (hO : THR g K_X4_move 1 6 [.ref (ad g 0), .int x, .int y] nt C M o IOE) : RETH g K_L_move 1 6 [.ref (ad g 0), .int x, .int y, .ref (ad g 9)] nt C M o (some (.int 1)) C M o := by
  refine MTH_of (by decide +kernel) rfl (Nat.le_of_ble_eq_true rfl) (by simp [cat_int, cat_ref]) (fun h => ?_)
  refine V_aload_n (dG D_L_move 0 rfl) rfl ?_
  refine V_iconst (v := 0) (dG D_L_move 1 rfl) (by decide) ?_
  refine V_aload_n (dG D_L_move 2 rfl) rfl ?_
  refine V_iload_n (dG D_L_move 3 rfl) rfl ?_
  refine V_iload_n (dG D_L_move 4 rfl) rfl ?_
  refine T_b2 hO lk_L_41 (dG D_L_move 5 rfl) rcv_4 ⟨Nat.le_of_ble_eq_true rfl, Nat.le_of_ble_eq_true rfl⟩ ⟨by show 0 + 1 ≤ 1; omega, by show 0 + 6 ≤ 6; omega⟩ (by simp [cat_int, cat_ref]) (fun h => ?_)
  refine V_catch (E := IOE) [] (0, 10, 13, 21) [(0, 10, 17, 15)] rfl (fun z hz => by cases hz) (by decide) (by decide) w_260 (by decide +kernel) (fun q9 => ?_)
  refine V_astore (dG D_L_move 9 rfl) (by decide) ?_
  refine V_iconst (v := 1) (dG D_L_move 10 rfl) (by decide) ?_
  exact V_iret (dG D_L_move 11 rfl) rfl (by omega) (by omega) ⟨rfl, rfl, rfl, rfl⟩
theorem wt_move_2 {g : GT} {nt : Nat} {C M : St} {o : Int64} {x y : Int32} (hO : THR g K_X4_move 1 6 [.ref (ad g 0), .int x, .int y] nt C M o ISE) : RETH g K_L_move 1 6 [.ref (ad g 0), .int x, .int y, .ref (ad g 9)] nt C M o (some (.int 2)) C M o := by
  refine MTH_of (by decide +kernel) rfl (Nat.le_of_ble_eq_true rfl) (by simp [cat_int, cat_ref]) (fun h => ?_)
  refine V_aload_n (dG D_L_move 0 rfl) rfl ?_
  refine V_iconst (v := 0) (dG D_L_move 1 rfl) (by decide) ?_
  refine V_aload_n (dG D_L_move 2 rfl) rfl ?_
  refine V_iload_n (dG D_L_move 3 rfl) rfl ?_
  refine V_iload_n (dG D_L_move 4 rfl) rfl ?_
  refine T_b2 hO lk_L_41 (dG D_L_move 5 rfl) rcv_4 ⟨Nat.le_of_ble_eq_true rfl, Nat.le_of_ble_eq_true rfl⟩ ⟨by show 0 + 1 ≤ 1; omega, by show 0 + 6 ≤ 6; omega⟩ (by simp [cat_int, cat_ref]) (fun h => ?_)
  refine V_catch (E := ISE) [(0, 10, 13, 21)] (0, 10, 17, 15) [] rfl (fun z hz => by
    simp only [List.mem_cons, List.not_mem_nil, or_false] at hz
    rcases hz with rfl
    · exact ⟨by decide, IOE, w_260, by decide +kernel⟩) (by decide) (by decide) w_168 (by decide +kernel) (fun q9 => ?_)
  refine V_astore (dG D_L_move 12 rfl) (by decide) ?_
  refine V_iconst (v := 2) (dG D_L_move 13 rfl) (by decide) ?_
  exact V_iret (dG D_L_move 14 rfl) rfl (by omega) (by omega) ⟨rfl, rfl, rfl, rfl⟩
theorem ow_move {g : GT} {nt : Nat} {C M C1 : St} {x y k v : Int32} (hO : Out g K_X4_move [.ref (ad g 0), .int x, .int y] [(1, IOE), (2, ISE)] nt C M k v C1) : ∃ mc ms, mc + cap C ≤ cap C1 + 1 ∧ ms + 4 * cap C ≤ 4 * cap C1 + 6 ∧ ∀ o, RETH g K_L_move mc ms [.ref (ad g 0), .int x, .int y, .ref (ad g 9)] nt C M o (some (.int k)) C1 M (if k = 0 then v.toInt64 else o) := by
  rcases hO with ⟨rfl, mc, ms, h1, h2, h3⟩ | ⟨rfl, E, hE, h3⟩
  · exact ⟨mc, ms, by omega, by omega, fun o => by rw [if_pos rfl]; exact wr_move (h3 o)⟩
  · simp only [List.mem_cons, List.not_mem_nil, or_false, Prod.mk.injEq] at hE
    rcases hE with ⟨rfl, rfl⟩ | ⟨rfl, rfl⟩
    · exact ⟨1, 6, by omega, by omega, fun o => by rw [if_neg (by decide)]; exact wt_move_1 (h3 o)⟩
    · exact ⟨1, 6, by omega, by omega, fun o => by rw [if_neg (by decide)]; exact wt_move_2 (h3 o)⟩
theorem wr_get {g : GT} {nt : Nat} {C M C1 : St} {o : Int64} {x y v : Int32} {mc ms : Nat} (hO : RET g K_X4_get mc ms [.ref (ad g 0), .int x, .int y] nt C M o (some (.int v)) C1 M o) : RETH g K_L_get mc ms [.ref (ad g 0), .int x, .int y, .ref (ad g 9)] nt C M o (some (.int 0)) C1 M v.toInt64 := by
  refine MTH_of (by decide +kernel) rfl (Nat.le_of_ble_eq_true rfl) (by simp [cat_int, cat_ref]) (fun h => ?_)
  refine V_aload_n (dG D_L_get 0 rfl) rfl ?_
  refine V_iconst (v := 0) (dG D_L_get 1 rfl) (by decide) ?_
  refine V_aload_n (dG D_L_get 2 rfl) rfl ?_
  refine V_iload_n (dG D_L_get 3 rfl) rfl ?_
  refine V_iload_n (dG D_L_get 4 rfl) rfl ?_
  refine R_vb2 hO lk_L_47 (dG D_L_get 5 rfl) rcv_4 ⟨Nat.le_of_ble_eq_true rfl, Nat.le_of_ble_eq_true rfl⟩ ⟨by show 0 + mc ≤ mc; omega, by show 0 + ms ≤ ms; omega⟩ (by simp [cat_int, cat_ref]) (fun h => ?_)
  refine V_i2l (dG D_L_get 6 rfl) ?_
  refine V_last0 (dG D_L_get 7 rfl) ?_
  refine V_goto (tgt := 17) (dG D_L_get 8 rfl) (by decide) ?_
  refine V_iconst (v := 0) (dG D_L_get 12 rfl) (by decide) ?_
  exact V_iret (dG D_L_get 13 rfl) rfl (by omega) (by omega) ⟨rfl, rfl, rfl, rfl⟩
theorem wt_get_1 {g : GT} {nt : Nat} {C M : St} {o : Int64} {x y : Int32} (hO : THR g K_X4_get 1 6 [.ref (ad g 0), .int x, .int y] nt C M o IOE) : RETH g K_L_get 1 6 [.ref (ad g 0), .int x, .int y, .ref (ad g 9)] nt C M o (some (.int 1)) C M o := by
  refine MTH_of (by decide +kernel) rfl (Nat.le_of_ble_eq_true rfl) (by simp [cat_int, cat_ref]) (fun h => ?_)
  refine V_aload_n (dG D_L_get 0 rfl) rfl ?_
  refine V_iconst (v := 0) (dG D_L_get 1 rfl) (by decide) ?_
  refine V_aload_n (dG D_L_get 2 rfl) rfl ?_
  refine V_iload_n (dG D_L_get 3 rfl) rfl ?_
  refine V_iload_n (dG D_L_get 4 rfl) rfl ?_
  refine T_b2 hO lk_L_47 (dG D_L_get 5 rfl) rcv_4 ⟨Nat.le_of_ble_eq_true rfl, Nat.le_of_ble_eq_true rfl⟩ ⟨by show 0 + 1 ≤ 1; omega, by show 0 + 6 ≤ 6; omega⟩ (by simp [cat_int, cat_ref]) (fun h => ?_)
  refine V_catch (E := IOE) [] (0, 10, 13, 21) [] rfl (fun z hz => by cases hz) (by decide) (by decide) w_260 (by decide +kernel) (fun q9 => ?_)
  refine V_astore (dG D_L_get 9 rfl) (by decide) ?_
  refine V_iconst (v := 1) (dG D_L_get 10 rfl) (by decide) ?_
  exact V_iret (dG D_L_get 11 rfl) rfl (by omega) (by omega) ⟨rfl, rfl, rfl, rfl⟩
theorem ow_get {g : GT} {nt : Nat} {C M C1 : St} {x y k v : Int32} (hO : Out g K_X4_get [.ref (ad g 0), .int x, .int y] [(1, IOE)] nt C M k v C1) : ∃ mc ms, mc + cap C ≤ cap C1 + 1 ∧ ms + 4 * cap C ≤ 4 * cap C1 + 6 ∧ ∀ o, RETH g K_L_get mc ms [.ref (ad g 0), .int x, .int y, .ref (ad g 9)] nt C M o (some (.int k)) C1 M (if k = 0 then v.toInt64 else o) := by
  rcases hO with ⟨rfl, mc, ms, h1, h2, h3⟩ | ⟨rfl, E, hE, h3⟩
  · exact ⟨mc, ms, by omega, by omega, fun o => by rw [if_pos rfl]; exact wr_get (h3 o)⟩
  · simp only [List.mem_cons, List.not_mem_nil, or_false, Prod.mk.injEq] at hE
    obtain ⟨rfl, rfl⟩ := hE
    exact ⟨1, 6, by omega, by omega, fun o => by rw [if_neg (by decide)]; exact wt_get_1 (h3 o)⟩
theorem wr_put {g : GT} {nt : Nat} {C M C1 : St} {o : Int64} {x y z v : Int32} {mc ms : Nat} (hO : RET g K_X4_put mc ms [.ref (ad g 0), .int x, .int y, .int z] nt C M o (some (.int v)) C1 M o) : RETH g K_L_put mc ms [.ref (ad g 0), .int x, .int y, .int z, .ref (ad g 9)] nt C M o (some (.int 0)) C1 M v.toInt64 := by
  refine MTH_of (by decide +kernel) rfl (Nat.le_of_ble_eq_true rfl) (by simp [cat_int, cat_ref]) (fun h => ?_)
  refine V_aload (dG D_L_put 0 rfl) rfl ?_
  refine V_iconst (v := 0) (dG D_L_put 1 rfl) (by decide) ?_
  refine V_aload_n (dG D_L_put 2 rfl) rfl ?_
  refine V_iload_n (dG D_L_put 3 rfl) rfl ?_
  refine V_iload_n (dG D_L_put 4 rfl) rfl ?_
  refine V_iload_n (dG D_L_put 5 rfl) rfl ?_
  refine R_vb3 hO lk_L_50 (dG D_L_put 6 rfl) rcv_4 ⟨Nat.le_of_ble_eq_true rfl, Nat.le_of_ble_eq_true rfl⟩ ⟨by show 0 + mc ≤ mc; omega, by show 0 + ms ≤ ms; omega⟩ (by simp [cat_int, cat_ref]) (fun h => ?_)
  refine V_i2l (dG D_L_put 7 rfl) ?_
  refine V_last0 (dG D_L_put 8 rfl) ?_
  refine V_goto (tgt := 23) (dG D_L_put 9 rfl) (by decide) ?_
  refine V_iconst (v := 0) (dG D_L_put 16 rfl) (by decide) ?_
  exact V_iret (dG D_L_put 17 rfl) rfl (by omega) (by omega) ⟨rfl, rfl, rfl, rfl⟩
theorem wt_put_1 {g : GT} {nt : Nat} {C M : St} {o : Int64} {x y z : Int32} (hO : THR g K_X4_put 1 6 [.ref (ad g 0), .int x, .int y, .int z] nt C M o IOE) : RETH g K_L_put 1 6 [.ref (ad g 0), .int x, .int y, .int z, .ref (ad g 9)] nt C M o (some (.int 1)) C M o := by
  refine MTH_of (by decide +kernel) rfl (Nat.le_of_ble_eq_true rfl) (by simp [cat_int, cat_ref]) (fun h => ?_)
  refine V_aload (dG D_L_put 0 rfl) rfl ?_
  refine V_iconst (v := 0) (dG D_L_put 1 rfl) (by decide) ?_
  refine V_aload_n (dG D_L_put 2 rfl) rfl ?_
  refine V_iload_n (dG D_L_put 3 rfl) rfl ?_
  refine V_iload_n (dG D_L_put 4 rfl) rfl ?_
  refine V_iload_n (dG D_L_put 5 rfl) rfl ?_
  refine T_b3 hO lk_L_50 (dG D_L_put 6 rfl) rcv_4 ⟨Nat.le_of_ble_eq_true rfl, Nat.le_of_ble_eq_true rfl⟩ ⟨by show 0 + 1 ≤ 1; omega, by show 0 + 6 ≤ 6; omega⟩ (by simp [cat_int, cat_ref]) (fun h => ?_)
  refine V_catch (E := IOE) [] (0, 12, 15, 21) [(0, 12, 19, 13)] rfl (fun z hz => by cases hz) (by decide) (by decide) w_260 (by decide +kernel) (fun q9 => ?_)
  refine V_astore (dG D_L_put 10 rfl) (by decide) ?_
  refine V_iconst (v := 1) (dG D_L_put 11 rfl) (by decide) ?_
  exact V_iret (dG D_L_put 12 rfl) rfl (by omega) (by omega) ⟨rfl, rfl, rfl, rfl⟩
theorem wt_put_2 {g : GT} {nt : Nat} {C M : St} {o : Int64} {x y z : Int32} (hO : THR g K_X4_put 1 6 [.ref (ad g 0), .int x, .int y, .int z] nt C M o IAE) : RETH g K_L_put 1 6 [.ref (ad g 0), .int x, .int y, .int z, .ref (ad g 9)] nt C M o (some (.int 2)) C M o := by
  refine MTH_of (by decide +kernel) rfl (Nat.le_of_ble_eq_true rfl) (by simp [cat_int, cat_ref]) (fun h => ?_)
  refine V_aload (dG D_L_put 0 rfl) rfl ?_
  refine V_iconst (v := 0) (dG D_L_put 1 rfl) (by decide) ?_
  refine V_aload_n (dG D_L_put 2 rfl) rfl ?_
  refine V_iload_n (dG D_L_put 3 rfl) rfl ?_
  refine V_iload_n (dG D_L_put 4 rfl) rfl ?_
  refine V_iload_n (dG D_L_put 5 rfl) rfl ?_
  refine T_b3 hO lk_L_50 (dG D_L_put 6 rfl) rcv_4 ⟨Nat.le_of_ble_eq_true rfl, Nat.le_of_ble_eq_true rfl⟩ ⟨by show 0 + 1 ≤ 1; omega, by show 0 + 6 ≤ 6; omega⟩ (by simp [cat_int, cat_ref]) (fun h => ?_)
  refine V_catch (E := IAE) [(0, 12, 15, 21)] (0, 12, 19, 13) [] rfl (fun z hz => by
    simp only [List.mem_cons, List.not_mem_nil, or_false] at hz
    rcases hz with rfl
    · exact ⟨by decide, IOE, w_260, by decide +kernel⟩) (by decide) (by decide) w_167 (by decide +kernel) (fun q9 => ?_)
  refine V_astore (dG D_L_put 13 rfl) (by decide) ?_
  refine V_iconst (v := 2) (dG D_L_put 14 rfl) (by decide) ?_
  exact V_iret (dG D_L_put 15 rfl) rfl (by omega) (by omega) ⟨rfl, rfl, rfl, rfl⟩
theorem ow_put {g : GT} {nt : Nat} {C M C1 : St} {x y z k v : Int32} (hO : Out g K_X4_put [.ref (ad g 0), .int x, .int y, .int z] [(1, IOE), (2, IAE)] nt C M k v C1) : ∃ mc ms, mc + cap C ≤ cap C1 + 1 ∧ ms + 4 * cap C ≤ 4 * cap C1 + 6 ∧ ∀ o, RETH g K_L_put mc ms [.ref (ad g 0), .int x, .int y, .int z, .ref (ad g 9)] nt C M o (some (.int k)) C1 M (if k = 0 then v.toInt64 else o) := by
  rcases hO with ⟨rfl, mc, ms, h1, h2, h3⟩ | ⟨rfl, E, hE, h3⟩
  · exact ⟨mc, ms, by omega, by omega, fun o => by rw [if_pos rfl]; exact wr_put (h3 o)⟩
  · simp only [List.mem_cons, List.not_mem_nil, or_false, Prod.mk.injEq] at hE
    rcases hE with ⟨rfl, rfl⟩ | ⟨rfl, rfl⟩
    · exact ⟨1, 6, by omega, by omega, fun o => by rw [if_neg (by decide)]; exact wt_put_1 (h3 o)⟩
    · exact ⟨1, 6, by omega, by omega, fun o => by rw [if_neg (by decide)]; exact wt_put_2 (h3 o)⟩
theorem wr_commit {g : GT} {nt : Nat} {C M C1 : St} {o : Int64} {x y v : Int32} {mc ms : Nat} (hO : RET g K_X4_commit mc ms [.ref (ad g 0), .int x, .int y] nt C M o (some (.int v)) C1 M o) : RETH g K_L_commit mc ms [.ref (ad g 0), .int x, .int y, .ref (ad g 9)] nt C M o (some (.int 0)) C1 M v.toInt64 := by
  refine MTH_of (by decide +kernel) rfl (Nat.le_of_ble_eq_true rfl) (by simp [cat_int, cat_ref]) (fun h => ?_)
  refine V_aload_n (dG D_L_commit 0 rfl) rfl ?_
  refine V_iconst (v := 0) (dG D_L_commit 1 rfl) (by decide) ?_
  refine V_aload_n (dG D_L_commit 2 rfl) rfl ?_
  refine V_iload_n (dG D_L_commit 3 rfl) rfl ?_
  refine V_iload_n (dG D_L_commit 4 rfl) rfl ?_
  refine R_vb2 hO lk_L_54 (dG D_L_commit 5 rfl) rcv_4 ⟨Nat.le_of_ble_eq_true rfl, Nat.le_of_ble_eq_true rfl⟩ ⟨by show 0 + mc ≤ mc; omega, by show 0 + ms ≤ ms; omega⟩ (by simp [cat_int, cat_ref]) (fun h => ?_)
  refine V_i2l (dG D_L_commit 6 rfl) ?_
  refine V_last0 (dG D_L_commit 7 rfl) ?_
  refine V_goto (tgt := 17) (dG D_L_commit 8 rfl) (by decide) ?_
  refine V_iconst (v := 0) (dG D_L_commit 12 rfl) (by decide) ?_
  exact V_iret (dG D_L_commit 13 rfl) rfl (by omega) (by omega) ⟨rfl, rfl, rfl, rfl⟩
theorem wt_commit_1 {g : GT} {nt : Nat} {C M : St} {o : Int64} {x y : Int32} (hO : THR g K_X4_commit 1 6 [.ref (ad g 0), .int x, .int y] nt C M o IOE) : RETH g K_L_commit 1 6 [.ref (ad g 0), .int x, .int y, .ref (ad g 9)] nt C M o (some (.int 1)) C M o := by
  refine MTH_of (by decide +kernel) rfl (Nat.le_of_ble_eq_true rfl) (by simp [cat_int, cat_ref]) (fun h => ?_)
  refine V_aload_n (dG D_L_commit 0 rfl) rfl ?_
  refine V_iconst (v := 0) (dG D_L_commit 1 rfl) (by decide) ?_
  refine V_aload_n (dG D_L_commit 2 rfl) rfl ?_
  refine V_iload_n (dG D_L_commit 3 rfl) rfl ?_
  refine V_iload_n (dG D_L_commit 4 rfl) rfl ?_
  refine T_b2 hO lk_L_54 (dG D_L_commit 5 rfl) rcv_4 ⟨Nat.le_of_ble_eq_true rfl, Nat.le_of_ble_eq_true rfl⟩ ⟨by show 0 + 1 ≤ 1; omega, by show 0 + 6 ≤ 6; omega⟩ (by simp [cat_int, cat_ref]) (fun h => ?_)
  refine V_catch (E := IOE) [] (0, 10, 13, 21) [] rfl (fun z hz => by cases hz) (by decide) (by decide) w_260 (by decide +kernel) (fun q9 => ?_)
  refine V_astore (dG D_L_commit 9 rfl) (by decide) ?_
  refine V_iconst (v := 1) (dG D_L_commit 10 rfl) (by decide) ?_
  exact V_iret (dG D_L_commit 11 rfl) rfl (by omega) (by omega) ⟨rfl, rfl, rfl, rfl⟩
theorem ow_commit {g : GT} {nt : Nat} {C M C1 : St} {x y k v : Int32} (hO : Out g K_X4_commit [.ref (ad g 0), .int x, .int y] [(1, IOE)] nt C M k v C1) : ∃ mc ms, mc + cap C ≤ cap C1 + 1 ∧ ms + 4 * cap C ≤ 4 * cap C1 + 6 ∧ ∀ o, RETH g K_L_commit mc ms [.ref (ad g 0), .int x, .int y, .ref (ad g 9)] nt C M o (some (.int k)) C1 M (if k = 0 then v.toInt64 else o) := by
  rcases hO with ⟨rfl, mc, ms, h1, h2, h3⟩ | ⟨rfl, E, hE, h3⟩
  · exact ⟨mc, ms, by omega, by omega, fun o => by rw [if_pos rfl]; exact wr_commit (h3 o)⟩
  · simp only [List.mem_cons, List.not_mem_nil, or_false, Prod.mk.injEq] at hE
    obtain ⟨rfl, rfl⟩ := hE
    exact ⟨1, 6, by omega, by omega, fun o => by rw [if_neg (by decide)]; exact wt_commit_1 (h3 o)⟩
theorem wr_abort {g : GT} {nt : Nat} {C M C1 : St} {o : Int64} {x v : Int32} {mc ms : Nat} (hO : RET g K_X4_abort mc ms [.ref (ad g 0), .int x] nt C M o (some (.int v)) C1 M o) : RETH g K_L_abort mc ms [.ref (ad g 0), .int x, .ref (ad g 9)] nt C M o (some (.int 0)) C1 M v.toInt64 := by
  refine MTH_of (by decide +kernel) rfl (Nat.le_of_ble_eq_true rfl) (by simp [cat_int, cat_ref]) (fun h => ?_)
  refine V_aload_n (dG D_L_abort 0 rfl) rfl ?_
  refine V_iconst (v := 0) (dG D_L_abort 1 rfl) (by decide) ?_
  refine V_aload_n (dG D_L_abort 2 rfl) rfl ?_
  refine V_iload_n (dG D_L_abort 3 rfl) rfl ?_
  refine R_vb1 hO lk_L_58 (dG D_L_abort 4 rfl) rcv_4 ⟨Nat.le_of_ble_eq_true rfl, Nat.le_of_ble_eq_true rfl⟩ ⟨by show 0 + mc ≤ mc; omega, by show 0 + ms ≤ ms; omega⟩ (by simp [cat_int, cat_ref]) (fun h => ?_)
  refine V_i2l (dG D_L_abort 5 rfl) ?_
  refine V_last0 (dG D_L_abort 6 rfl) ?_
  refine V_goto (tgt := 15) (dG D_L_abort 7 rfl) (by decide) ?_
  refine V_iconst (v := 0) (dG D_L_abort 11 rfl) (by decide) ?_
  exact V_iret (dG D_L_abort 12 rfl) rfl (by omega) (by omega) ⟨rfl, rfl, rfl, rfl⟩
theorem wt_abort_1 {g : GT} {nt : Nat} {C M : St} {o : Int64} {x : Int32} (hO : THR g K_X4_abort 1 6 [.ref (ad g 0), .int x] nt C M o IOE) : RETH g K_L_abort 1 6 [.ref (ad g 0), .int x, .ref (ad g 9)] nt C M o (some (.int 1)) C M o := by
  refine MTH_of (by decide +kernel) rfl (Nat.le_of_ble_eq_true rfl) (by simp [cat_int, cat_ref]) (fun h => ?_)
  refine V_aload_n (dG D_L_abort 0 rfl) rfl ?_
  refine V_iconst (v := 0) (dG D_L_abort 1 rfl) (by decide) ?_
  refine V_aload_n (dG D_L_abort 2 rfl) rfl ?_
  refine V_iload_n (dG D_L_abort 3 rfl) rfl ?_
  refine T_b1 hO lk_L_58 (dG D_L_abort 4 rfl) rcv_4 ⟨Nat.le_of_ble_eq_true rfl, Nat.le_of_ble_eq_true rfl⟩ ⟨by show 0 + 1 ≤ 1; omega, by show 0 + 6 ≤ 6; omega⟩ (by simp [cat_int, cat_ref]) (fun h => ?_)
  refine V_catch (E := IOE) [] (0, 9, 12, 21) [] rfl (fun z hz => by cases hz) (by decide) (by decide) w_260 (by decide +kernel) (fun q9 => ?_)
  refine V_astore_n (dG D_L_abort 8 rfl) (by decide) ?_
  refine V_iconst (v := 1) (dG D_L_abort 9 rfl) (by decide) ?_
  exact V_iret (dG D_L_abort 10 rfl) rfl (by omega) (by omega) ⟨rfl, rfl, rfl, rfl⟩
theorem ow_abort {g : GT} {nt : Nat} {C M C1 : St} {x k v : Int32} (hO : Out g K_X4_abort [.ref (ad g 0), .int x] [(1, IOE)] nt C M k v C1) : ∃ mc ms, mc + cap C ≤ cap C1 + 1 ∧ ms + 4 * cap C ≤ 4 * cap C1 + 6 ∧ ∀ o, RETH g K_L_abort mc ms [.ref (ad g 0), .int x, .ref (ad g 9)] nt C M o (some (.int k)) C1 M (if k = 0 then v.toInt64 else o) := by
  rcases hO with ⟨rfl, mc, ms, h1, h2, h3⟩ | ⟨rfl, E, hE, h3⟩
  · exact ⟨mc, ms, by omega, by omega, fun o => by rw [if_pos rfl]; exact wr_abort (h3 o)⟩
  · simp only [List.mem_cons, List.not_mem_nil, or_false, Prod.mk.injEq] at hE
    obtain ⟨rfl, rfl⟩ := hE
    exact ⟨1, 6, by omega, by omega, fun o => by rw [if_neg (by decide)]; exact wt_abort_1 (h3 o)⟩
theorem wr_recover {g : GT} {nt : Nat} {C M C1 : St} {o : Int64} {x v : Int32} {mc ms : Nat} (hO : RET g K_X4_recover mc ms [.ref (ad g 0), .int x] nt C M o (some (.int v)) C1 M o) : RETH g K_L_recover mc ms [.ref (ad g 0), .int x, .ref (ad g 9)] nt C M o (some (.int 0)) C1 M v.toInt64 := by
  refine MTH_of (by decide +kernel) rfl (Nat.le_of_ble_eq_true rfl) (by simp [cat_int, cat_ref]) (fun h => ?_)
  refine V_aload_n (dG D_L_recover 0 rfl) rfl ?_
  refine V_iconst (v := 0) (dG D_L_recover 1 rfl) (by decide) ?_
  refine V_aload_n (dG D_L_recover 2 rfl) rfl ?_
  refine V_iload_n (dG D_L_recover 3 rfl) rfl ?_
  refine R_vb1 hO lk_L_61 (dG D_L_recover 4 rfl) rcv_4 ⟨Nat.le_of_ble_eq_true rfl, Nat.le_of_ble_eq_true rfl⟩ ⟨by show 0 + mc ≤ mc; omega, by show 0 + ms ≤ ms; omega⟩ (by simp [cat_int, cat_ref]) (fun h => ?_)
  refine V_i2l (dG D_L_recover 5 rfl) ?_
  refine V_last0 (dG D_L_recover 6 rfl) ?_
  refine V_goto (tgt := 15) (dG D_L_recover 7 rfl) (by decide) ?_
  refine V_iconst (v := 0) (dG D_L_recover 11 rfl) (by decide) ?_
  exact V_iret (dG D_L_recover 12 rfl) rfl (by omega) (by omega) ⟨rfl, rfl, rfl, rfl⟩
theorem wt_recover_1 {g : GT} {nt : Nat} {C M : St} {o : Int64} {x : Int32} (hO : THR g K_X4_recover 1 6 [.ref (ad g 0), .int x] nt C M o IOE) : RETH g K_L_recover 1 6 [.ref (ad g 0), .int x, .ref (ad g 9)] nt C M o (some (.int 1)) C M o := by
  refine MTH_of (by decide +kernel) rfl (Nat.le_of_ble_eq_true rfl) (by simp [cat_int, cat_ref]) (fun h => ?_)
  refine V_aload_n (dG D_L_recover 0 rfl) rfl ?_
  refine V_iconst (v := 0) (dG D_L_recover 1 rfl) (by decide) ?_
  refine V_aload_n (dG D_L_recover 2 rfl) rfl ?_
  refine V_iload_n (dG D_L_recover 3 rfl) rfl ?_
  refine T_b1 hO lk_L_61 (dG D_L_recover 4 rfl) rcv_4 ⟨Nat.le_of_ble_eq_true rfl, Nat.le_of_ble_eq_true rfl⟩ ⟨by show 0 + 1 ≤ 1; omega, by show 0 + 6 ≤ 6; omega⟩ (by simp [cat_int, cat_ref]) (fun h => ?_)
  refine V_catch (E := IOE) [] (0, 9, 12, 21) [] rfl (fun z hz => by cases hz) (by decide) (by decide) w_260 (by decide +kernel) (fun q9 => ?_)
  refine V_astore_n (dG D_L_recover 8 rfl) (by decide) ?_
  refine V_iconst (v := 1) (dG D_L_recover 9 rfl) (by decide) ?_
  exact V_iret (dG D_L_recover 10 rfl) rfl (by omega) (by omega) ⟨rfl, rfl, rfl, rfl⟩
theorem ow_recover {g : GT} {nt : Nat} {C M C1 : St} {x k v : Int32} (hO : Out g K_X4_recover [.ref (ad g 0), .int x] [(1, IOE)] nt C M k v C1) : ∃ mc ms, mc + cap C ≤ cap C1 + 1 ∧ ms + 4 * cap C ≤ 4 * cap C1 + 6 ∧ ∀ o, RETH g K_L_recover mc ms [.ref (ad g 0), .int x, .ref (ad g 9)] nt C M o (some (.int k)) C1 M (if k = 0 then v.toInt64 else o) := by
  rcases hO with ⟨rfl, mc, ms, h1, h2, h3⟩ | ⟨rfl, E, hE, h3⟩
  · exact ⟨mc, ms, by omega, by omega, fun o => by rw [if_pos rfl]; exact wr_recover (h3 o)⟩
  · simp only [List.mem_cons, List.not_mem_nil, or_false, Prod.mk.injEq] at hE
    obtain ⟨rfl, rfl⟩ := hE
    exact ⟨1, 6, by omega, by omega, fun o => by rw [if_neg (by decide)]; exact wt_recover_1 (h3 o)⟩
theorem wr_beat {g : GT} {nt : Nat} {C M C1 : St} {o : Int64} {x v : Int32} {mc ms : Nat} (hO : RET g K_X4_beat mc ms [.ref (ad g 0), .int x] nt C M o (some (.int v)) C1 M o) : RETH g K_L_beat mc ms [.ref (ad g 0), .int x, .ref (ad g 9)] nt C M o (some (.int 0)) C1 M v.toInt64 := by
  refine MTH_of (by decide +kernel) rfl (Nat.le_of_ble_eq_true rfl) (by simp [cat_int, cat_ref]) (fun h => ?_)
  refine V_aload_n (dG D_L_beat 0 rfl) rfl ?_
  refine V_iconst (v := 0) (dG D_L_beat 1 rfl) (by decide) ?_
  refine V_aload_n (dG D_L_beat 2 rfl) rfl ?_
  refine V_iload_n (dG D_L_beat 3 rfl) rfl ?_
  refine R_vb1 hO lk_L_64 (dG D_L_beat 4 rfl) rcv_4 ⟨Nat.le_of_ble_eq_true rfl, Nat.le_of_ble_eq_true rfl⟩ ⟨by show 0 + mc ≤ mc; omega, by show 0 + ms ≤ ms; omega⟩ (by simp [cat_int, cat_ref]) (fun h => ?_)
  refine V_i2l (dG D_L_beat 5 rfl) ?_
  refine V_last0 (dG D_L_beat 6 rfl) ?_
  refine V_goto (tgt := 15) (dG D_L_beat 7 rfl) (by decide) ?_
  refine V_iconst (v := 0) (dG D_L_beat 11 rfl) (by decide) ?_
  exact V_iret (dG D_L_beat 12 rfl) rfl (by omega) (by omega) ⟨rfl, rfl, rfl, rfl⟩
theorem wt_beat_1 {g : GT} {nt : Nat} {C M : St} {o : Int64} {x : Int32} (hO : THR g K_X4_beat 1 6 [.ref (ad g 0), .int x] nt C M o IOE) : RETH g K_L_beat 1 6 [.ref (ad g 0), .int x, .ref (ad g 9)] nt C M o (some (.int 1)) C M o := by
  refine MTH_of (by decide +kernel) rfl (Nat.le_of_ble_eq_true rfl) (by simp [cat_int, cat_ref]) (fun h => ?_)
  refine V_aload_n (dG D_L_beat 0 rfl) rfl ?_
  refine V_iconst (v := 0) (dG D_L_beat 1 rfl) (by decide) ?_
  refine V_aload_n (dG D_L_beat 2 rfl) rfl ?_
  refine V_iload_n (dG D_L_beat 3 rfl) rfl ?_
  refine T_b1 hO lk_L_64 (dG D_L_beat 4 rfl) rcv_4 ⟨Nat.le_of_ble_eq_true rfl, Nat.le_of_ble_eq_true rfl⟩ ⟨by show 0 + 1 ≤ 1; omega, by show 0 + 6 ≤ 6; omega⟩ (by simp [cat_int, cat_ref]) (fun h => ?_)
  refine V_catch (E := IOE) [] (0, 9, 12, 21) [] rfl (fun z hz => by cases hz) (by decide) (by decide) w_260 (by decide +kernel) (fun q9 => ?_)
  refine V_astore_n (dG D_L_beat 8 rfl) (by decide) ?_
  refine V_iconst (v := 1) (dG D_L_beat 9 rfl) (by decide) ?_
  exact V_iret (dG D_L_beat 10 rfl) rfl (by omega) (by omega) ⟨rfl, rfl, rfl, rfl⟩
theorem ow_beat {g : GT} {nt : Nat} {C M C1 : St} {x k v : Int32} (hO : Out g K_X4_beat [.ref (ad g 0), .int x] [(1, IOE)] nt C M k v C1) : ∃ mc ms, mc + cap C ≤ cap C1 + 1 ∧ ms + 4 * cap C ≤ 4 * cap C1 + 6 ∧ ∀ o, RETH g K_L_beat mc ms [.ref (ad g 0), .int x, .ref (ad g 9)] nt C M o (some (.int k)) C1 M (if k = 0 then v.toInt64 else o) := by
  rcases hO with ⟨rfl, mc, ms, h1, h2, h3⟩ | ⟨rfl, E, hE, h3⟩
  · exact ⟨mc, ms, by omega, by omega, fun o => by rw [if_pos rfl]; exact wr_beat (h3 o)⟩
  · simp only [List.mem_cons, List.not_mem_nil, or_false, Prod.mk.injEq] at hE
    obtain ⟨rfl, rfl⟩ := hE
    exact ⟨1, 6, by omega, by omega, fun o => by rw [if_neg (by decide)]; exact wt_beat_1 (h3 o)⟩
theorem wr_told {g : GT} {nt : Nat} {C M C1 : St} {o : Int64} {x y v : Int32} {mc ms : Nat} (hO : RET g K_X4_told mc ms [.ref (ad g 0), .int x, .int y] nt C M o (some (.int v)) C1 M o) : RETH g K_L_told mc ms [.ref (ad g 0), .int x, .int y, .ref (ad g 9)] nt C M o (some (.int 0)) C1 M v.toInt64 := by
  refine MTH_of (by decide +kernel) rfl (Nat.le_of_ble_eq_true rfl) (by simp [cat_int, cat_ref]) (fun h => ?_)
  refine V_aload_n (dG D_L_told 0 rfl) rfl ?_
  refine V_iconst (v := 0) (dG D_L_told 1 rfl) (by decide) ?_
  refine V_aload_n (dG D_L_told 2 rfl) rfl ?_
  refine V_iload_n (dG D_L_told 3 rfl) rfl ?_
  refine V_iload_n (dG D_L_told 4 rfl) rfl ?_
  refine R_vb2 hO lk_L_67 (dG D_L_told 5 rfl) rcv_4 ⟨Nat.le_of_ble_eq_true rfl, Nat.le_of_ble_eq_true rfl⟩ ⟨by show 0 + mc ≤ mc; omega, by show 0 + ms ≤ ms; omega⟩ (by simp [cat_int, cat_ref]) (fun h => ?_)
  refine V_i2l (dG D_L_told 6 rfl) ?_
  refine V_last0 (dG D_L_told 7 rfl) ?_
  refine V_goto (tgt := 21) (dG D_L_told 8 rfl) (by decide) ?_
  refine V_iconst (v := 0) (dG D_L_told 15 rfl) (by decide) ?_
  exact V_iret (dG D_L_told 16 rfl) rfl (by omega) (by omega) ⟨rfl, rfl, rfl, rfl⟩
theorem wt_told_1 {g : GT} {nt : Nat} {C M : St} {o : Int64} {x y : Int32} (hO : THR g K_X4_told 1 6 [.ref (ad g 0), .int x, .int y] nt C M o IOE) : RETH g K_L_told 1 6 [.ref (ad g 0), .int x, .int y, .ref (ad g 9)] nt C M o (some (.int 1)) C M o := by
  refine MTH_of (by decide +kernel) rfl (Nat.le_of_ble_eq_true rfl) (by simp [cat_int, cat_ref]) (fun h => ?_)
  refine V_aload_n (dG D_L_told 0 rfl) rfl ?_
  refine V_iconst (v := 0) (dG D_L_told 1 rfl) (by decide) ?_
  refine V_aload_n (dG D_L_told 2 rfl) rfl ?_
  refine V_iload_n (dG D_L_told 3 rfl) rfl ?_
  refine V_iload_n (dG D_L_told 4 rfl) rfl ?_
  refine T_b2 hO lk_L_67 (dG D_L_told 5 rfl) rcv_4 ⟨Nat.le_of_ble_eq_true rfl, Nat.le_of_ble_eq_true rfl⟩ ⟨by show 0 + 1 ≤ 1; omega, by show 0 + 6 ≤ 6; omega⟩ (by simp [cat_int, cat_ref]) (fun h => ?_)
  refine V_catch (E := IOE) [] (0, 10, 13, 21) [(0, 10, 17, 13)] rfl (fun z hz => by cases hz) (by decide) (by decide) w_260 (by decide +kernel) (fun q9 => ?_)
  refine V_astore (dG D_L_told 9 rfl) (by decide) ?_
  refine V_iconst (v := 1) (dG D_L_told 10 rfl) (by decide) ?_
  exact V_iret (dG D_L_told 11 rfl) rfl (by omega) (by omega) ⟨rfl, rfl, rfl, rfl⟩
theorem wt_told_2 {g : GT} {nt : Nat} {C M : St} {o : Int64} {x y : Int32} (hO : THR g K_X4_told 1 6 [.ref (ad g 0), .int x, .int y] nt C M o IAE) : RETH g K_L_told 1 6 [.ref (ad g 0), .int x, .int y, .ref (ad g 9)] nt C M o (some (.int 2)) C M o := by
  refine MTH_of (by decide +kernel) rfl (Nat.le_of_ble_eq_true rfl) (by simp [cat_int, cat_ref]) (fun h => ?_)
  refine V_aload_n (dG D_L_told 0 rfl) rfl ?_
  refine V_iconst (v := 0) (dG D_L_told 1 rfl) (by decide) ?_
  refine V_aload_n (dG D_L_told 2 rfl) rfl ?_
  refine V_iload_n (dG D_L_told 3 rfl) rfl ?_
  refine V_iload_n (dG D_L_told 4 rfl) rfl ?_
  refine T_b2 hO lk_L_67 (dG D_L_told 5 rfl) rcv_4 ⟨Nat.le_of_ble_eq_true rfl, Nat.le_of_ble_eq_true rfl⟩ ⟨by show 0 + 1 ≤ 1; omega, by show 0 + 6 ≤ 6; omega⟩ (by simp [cat_int, cat_ref]) (fun h => ?_)
  refine V_catch (E := IAE) [(0, 10, 13, 21)] (0, 10, 17, 13) [] rfl (fun z hz => by
    simp only [List.mem_cons, List.not_mem_nil, or_false] at hz
    rcases hz with rfl
    · exact ⟨by decide, IOE, w_260, by decide +kernel⟩) (by decide) (by decide) w_167 (by decide +kernel) (fun q9 => ?_)
  refine V_astore (dG D_L_told 12 rfl) (by decide) ?_
  refine V_iconst (v := 2) (dG D_L_told 13 rfl) (by decide) ?_
  exact V_iret (dG D_L_told 14 rfl) rfl (by omega) (by omega) ⟨rfl, rfl, rfl, rfl⟩
theorem ow_told {g : GT} {nt : Nat} {C M C1 : St} {x y k v : Int32} (hO : Out g K_X4_told [.ref (ad g 0), .int x, .int y] [(1, IOE), (2, IAE)] nt C M k v C1) : ∃ mc ms, mc + cap C ≤ cap C1 + 1 ∧ ms + 4 * cap C ≤ 4 * cap C1 + 6 ∧ ∀ o, RETH g K_L_told mc ms [.ref (ad g 0), .int x, .int y, .ref (ad g 9)] nt C M o (some (.int k)) C1 M (if k = 0 then v.toInt64 else o) := by
  rcases hO with ⟨rfl, mc, ms, h1, h2, h3⟩ | ⟨rfl, E, hE, h3⟩
  · exact ⟨mc, ms, by omega, by omega, fun o => by rw [if_pos rfl]; exact wr_told (h3 o)⟩
  · simp only [List.mem_cons, List.not_mem_nil, or_false, Prod.mk.injEq] at hE
    rcases hE with ⟨rfl, rfl⟩ | ⟨rfl, rfl⟩
    · exact ⟨1, 6, by omega, by omega, fun o => by rw [if_neg (by decide)]; exact wt_told_1 (h3 o)⟩
    · exact ⟨1, 6, by omega, by omega, fun o => by rw [if_neg (by decide)]; exact wt_told_2 (h3 o)⟩
theorem wr_key {g : GT} {nt : Nat} {C M C1 : St} {o : Int64} {x y v : Int32} {mc ms : Nat} (hO : RET g K_X4_key mc ms [.ref (ad g 0), .int x, .int y] nt C M o (some (.int v)) C1 M o) : RETH g K_L_key mc ms [.ref (ad g 0), .int x, .int y, .ref (ad g 9)] nt C M o (some (.int 0)) C1 M v.toInt64 := by
  refine MTH_of (by decide +kernel) rfl (Nat.le_of_ble_eq_true rfl) (by simp [cat_int, cat_ref]) (fun h => ?_)
  refine V_aload_n (dG D_L_key 0 rfl) rfl ?_
  refine V_iconst (v := 0) (dG D_L_key 1 rfl) (by decide) ?_
  refine V_aload_n (dG D_L_key 2 rfl) rfl ?_
  refine V_iload_n (dG D_L_key 3 rfl) rfl ?_
  refine V_iload_n (dG D_L_key 4 rfl) rfl ?_
  refine R_vb2 hO lk_L_70 (dG D_L_key 5 rfl) rcv_4 ⟨Nat.le_of_ble_eq_true rfl, Nat.le_of_ble_eq_true rfl⟩ ⟨by show 0 + mc ≤ mc; omega, by show 0 + ms ≤ ms; omega⟩ (by simp [cat_int, cat_ref]) (fun h => ?_)
  refine V_i2l (dG D_L_key 6 rfl) ?_
  refine V_last0 (dG D_L_key 7 rfl) ?_
  refine V_goto (tgt := 21) (dG D_L_key 8 rfl) (by decide) ?_
  refine V_iconst (v := 0) (dG D_L_key 15 rfl) (by decide) ?_
  exact V_iret (dG D_L_key 16 rfl) rfl (by omega) (by omega) ⟨rfl, rfl, rfl, rfl⟩
theorem wt_key_1 {g : GT} {nt : Nat} {C M : St} {o : Int64} {x y : Int32} (hO : THR g K_X4_key 1 6 [.ref (ad g 0), .int x, .int y] nt C M o IOE) : RETH g K_L_key 1 6 [.ref (ad g 0), .int x, .int y, .ref (ad g 9)] nt C M o (some (.int 1)) C M o := by
  refine MTH_of (by decide +kernel) rfl (Nat.le_of_ble_eq_true rfl) (by simp [cat_int, cat_ref]) (fun h => ?_)
  refine V_aload_n (dG D_L_key 0 rfl) rfl ?_
  refine V_iconst (v := 0) (dG D_L_key 1 rfl) (by decide) ?_
  refine V_aload_n (dG D_L_key 2 rfl) rfl ?_
  refine V_iload_n (dG D_L_key 3 rfl) rfl ?_
  refine V_iload_n (dG D_L_key 4 rfl) rfl ?_
  refine T_b2 hO lk_L_70 (dG D_L_key 5 rfl) rcv_4 ⟨Nat.le_of_ble_eq_true rfl, Nat.le_of_ble_eq_true rfl⟩ ⟨by show 0 + 1 ≤ 1; omega, by show 0 + 6 ≤ 6; omega⟩ (by simp [cat_int, cat_ref]) (fun h => ?_)
  refine V_catch (E := IOE) [] (0, 10, 13, 21) [(0, 10, 17, 13)] rfl (fun z hz => by cases hz) (by decide) (by decide) w_260 (by decide +kernel) (fun q9 => ?_)
  refine V_astore (dG D_L_key 9 rfl) (by decide) ?_
  refine V_iconst (v := 1) (dG D_L_key 10 rfl) (by decide) ?_
  exact V_iret (dG D_L_key 11 rfl) rfl (by omega) (by omega) ⟨rfl, rfl, rfl, rfl⟩
theorem wt_key_2 {g : GT} {nt : Nat} {C M : St} {o : Int64} {x y : Int32} (hO : THR g K_X4_key 1 6 [.ref (ad g 0), .int x, .int y] nt C M o IAE) : RETH g K_L_key 1 6 [.ref (ad g 0), .int x, .int y, .ref (ad g 9)] nt C M o (some (.int 2)) C M o := by
  refine MTH_of (by decide +kernel) rfl (Nat.le_of_ble_eq_true rfl) (by simp [cat_int, cat_ref]) (fun h => ?_)
  refine V_aload_n (dG D_L_key 0 rfl) rfl ?_
  refine V_iconst (v := 0) (dG D_L_key 1 rfl) (by decide) ?_
  refine V_aload_n (dG D_L_key 2 rfl) rfl ?_
  refine V_iload_n (dG D_L_key 3 rfl) rfl ?_
  refine V_iload_n (dG D_L_key 4 rfl) rfl ?_
  refine T_b2 hO lk_L_70 (dG D_L_key 5 rfl) rcv_4 ⟨Nat.le_of_ble_eq_true rfl, Nat.le_of_ble_eq_true rfl⟩ ⟨by show 0 + 1 ≤ 1; omega, by show 0 + 6 ≤ 6; omega⟩ (by simp [cat_int, cat_ref]) (fun h => ?_)
  refine V_catch (E := IAE) [(0, 10, 13, 21)] (0, 10, 17, 13) [] rfl (fun z hz => by
    simp only [List.mem_cons, List.not_mem_nil, or_false] at hz
    rcases hz with rfl
    · exact ⟨by decide, IOE, w_260, by decide +kernel⟩) (by decide) (by decide) w_167 (by decide +kernel) (fun q9 => ?_)
  refine V_astore (dG D_L_key 12 rfl) (by decide) ?_
  refine V_iconst (v := 2) (dG D_L_key 13 rfl) (by decide) ?_
  exact V_iret (dG D_L_key 14 rfl) rfl (by omega) (by omega) ⟨rfl, rfl, rfl, rfl⟩
theorem ow_key {g : GT} {nt : Nat} {C M C1 : St} {x y k v : Int32} (hO : Out g K_X4_key [.ref (ad g 0), .int x, .int y] [(1, IOE), (2, IAE)] nt C M k v C1) : ∃ mc ms, mc + cap C ≤ cap C1 + 1 ∧ ms + 4 * cap C ≤ 4 * cap C1 + 6 ∧ ∀ o, RETH g K_L_key mc ms [.ref (ad g 0), .int x, .int y, .ref (ad g 9)] nt C M o (some (.int k)) C1 M (if k = 0 then v.toInt64 else o) := by
  rcases hO with ⟨rfl, mc, ms, h1, h2, h3⟩ | ⟨rfl, E, hE, h3⟩
  · exact ⟨mc, ms, by omega, by omega, fun o => by rw [if_pos rfl]; exact wr_key (h3 o)⟩
  · simp only [List.mem_cons, List.not_mem_nil, or_false, Prod.mk.injEq] at hE
    rcases hE with ⟨rfl, rfl⟩ | ⟨rfl, rfl⟩
    · exact ⟨1, 6, by omega, by omega, fun o => by rw [if_neg (by decide)]; exact wt_key_1 (h3 o)⟩
    · exact ⟨1, 6, by omega, by omega, fun o => by rw [if_neg (by decide)]; exact wt_key_2 (h3 o)⟩
theorem wr_asOf {g : GT} {nt : Nat} {C M C1 : St} {o : Int64} {x y v : Int32} {mc ms : Nat} (hO : RET g K_X4_asOf mc ms [.ref (ad g 0), .int x, .int y] nt C M o (some (.int v)) C1 M o) : RETH g K_L_asOf mc ms [.ref (ad g 0), .int x, .int y, .ref (ad g 9)] nt C M o (some (.int 0)) C1 M v.toInt64 := by
  refine MTH_of (by decide +kernel) rfl (Nat.le_of_ble_eq_true rfl) (by simp [cat_int, cat_ref]) (fun h => ?_)
  refine V_aload_n (dG D_L_asOf 0 rfl) rfl ?_
  refine V_iconst (v := 0) (dG D_L_asOf 1 rfl) (by decide) ?_
  refine V_aload_n (dG D_L_asOf 2 rfl) rfl ?_
  refine V_iload_n (dG D_L_asOf 3 rfl) rfl ?_
  refine V_iload_n (dG D_L_asOf 4 rfl) rfl ?_
  refine R_vb2 hO lk_L_73 (dG D_L_asOf 5 rfl) rcv_4 ⟨Nat.le_of_ble_eq_true rfl, Nat.le_of_ble_eq_true rfl⟩ ⟨by show 0 + mc ≤ mc; omega, by show 0 + ms ≤ ms; omega⟩ (by simp [cat_int, cat_ref]) (fun h => ?_)
  refine V_i2l (dG D_L_asOf 6 rfl) ?_
  refine V_last0 (dG D_L_asOf 7 rfl) ?_
  refine V_goto (tgt := 21) (dG D_L_asOf 8 rfl) (by decide) ?_
  refine V_iconst (v := 0) (dG D_L_asOf 15 rfl) (by decide) ?_
  exact V_iret (dG D_L_asOf 16 rfl) rfl (by omega) (by omega) ⟨rfl, rfl, rfl, rfl⟩
theorem wt_asOf_1 {g : GT} {nt : Nat} {C M : St} {o : Int64} {x y : Int32} (hO : THR g K_X4_asOf 1 6 [.ref (ad g 0), .int x, .int y] nt C M o IOE) : RETH g K_L_asOf 1 6 [.ref (ad g 0), .int x, .int y, .ref (ad g 9)] nt C M o (some (.int 1)) C M o := by
  refine MTH_of (by decide +kernel) rfl (Nat.le_of_ble_eq_true rfl) (by simp [cat_int, cat_ref]) (fun h => ?_)
  refine V_aload_n (dG D_L_asOf 0 rfl) rfl ?_
  refine V_iconst (v := 0) (dG D_L_asOf 1 rfl) (by decide) ?_
  refine V_aload_n (dG D_L_asOf 2 rfl) rfl ?_
  refine V_iload_n (dG D_L_asOf 3 rfl) rfl ?_
  refine V_iload_n (dG D_L_asOf 4 rfl) rfl ?_
  refine T_b2 hO lk_L_73 (dG D_L_asOf 5 rfl) rcv_4 ⟨Nat.le_of_ble_eq_true rfl, Nat.le_of_ble_eq_true rfl⟩ ⟨by show 0 + 1 ≤ 1; omega, by show 0 + 6 ≤ 6; omega⟩ (by simp [cat_int, cat_ref]) (fun h => ?_)
  refine V_catch (E := IOE) [] (0, 10, 13, 21) [(0, 10, 17, 13)] rfl (fun z hz => by cases hz) (by decide) (by decide) w_260 (by decide +kernel) (fun q9 => ?_)
  refine V_astore (dG D_L_asOf 9 rfl) (by decide) ?_
  refine V_iconst (v := 1) (dG D_L_asOf 10 rfl) (by decide) ?_
  exact V_iret (dG D_L_asOf 11 rfl) rfl (by omega) (by omega) ⟨rfl, rfl, rfl, rfl⟩
theorem wt_asOf_2 {g : GT} {nt : Nat} {C M : St} {o : Int64} {x y : Int32} (hO : THR g K_X4_asOf 1 6 [.ref (ad g 0), .int x, .int y] nt C M o IAE) : RETH g K_L_asOf 1 6 [.ref (ad g 0), .int x, .int y, .ref (ad g 9)] nt C M o (some (.int 2)) C M o := by
  refine MTH_of (by decide +kernel) rfl (Nat.le_of_ble_eq_true rfl) (by simp [cat_int, cat_ref]) (fun h => ?_)
  refine V_aload_n (dG D_L_asOf 0 rfl) rfl ?_
  refine V_iconst (v := 0) (dG D_L_asOf 1 rfl) (by decide) ?_
  refine V_aload_n (dG D_L_asOf 2 rfl) rfl ?_
  refine V_iload_n (dG D_L_asOf 3 rfl) rfl ?_
  refine V_iload_n (dG D_L_asOf 4 rfl) rfl ?_
  refine T_b2 hO lk_L_73 (dG D_L_asOf 5 rfl) rcv_4 ⟨Nat.le_of_ble_eq_true rfl, Nat.le_of_ble_eq_true rfl⟩ ⟨by show 0 + 1 ≤ 1; omega, by show 0 + 6 ≤ 6; omega⟩ (by simp [cat_int, cat_ref]) (fun h => ?_)
  refine V_catch (E := IAE) [(0, 10, 13, 21)] (0, 10, 17, 13) [] rfl (fun z hz => by
    simp only [List.mem_cons, List.not_mem_nil, or_false] at hz
    rcases hz with rfl
    · exact ⟨by decide, IOE, w_260, by decide +kernel⟩) (by decide) (by decide) w_167 (by decide +kernel) (fun q9 => ?_)
  refine V_astore (dG D_L_asOf 12 rfl) (by decide) ?_
  refine V_iconst (v := 2) (dG D_L_asOf 13 rfl) (by decide) ?_
  exact V_iret (dG D_L_asOf 14 rfl) rfl (by omega) (by omega) ⟨rfl, rfl, rfl, rfl⟩
theorem ow_asOf {g : GT} {nt : Nat} {C M C1 : St} {x y k v : Int32} (hO : Out g K_X4_asOf [.ref (ad g 0), .int x, .int y] [(1, IOE), (2, IAE)] nt C M k v C1) : ∃ mc ms, mc + cap C ≤ cap C1 + 1 ∧ ms + 4 * cap C ≤ 4 * cap C1 + 6 ∧ ∀ o, RETH g K_L_asOf mc ms [.ref (ad g 0), .int x, .int y, .ref (ad g 9)] nt C M o (some (.int k)) C1 M (if k = 0 then v.toInt64 else o) := by
  rcases hO with ⟨rfl, mc, ms, h1, h2, h3⟩ | ⟨rfl, E, hE, h3⟩
  · exact ⟨mc, ms, by omega, by omega, fun o => by rw [if_pos rfl]; exact wr_asOf (h3 o)⟩
  · simp only [List.mem_cons, List.not_mem_nil, or_false, Prod.mk.injEq] at hE
    rcases hE with ⟨rfl, rfl⟩ | ⟨rfl, rfl⟩
    · exact ⟨1, 6, by omega, by omega, fun o => by rw [if_neg (by decide)]; exact wt_asOf_1 (h3 o)⟩
    · exact ⟨1, 6, by omega, by omega, fun o => by rw [if_neg (by decide)]; exact wt_asOf_2 (h3 o)⟩
theorem wr_feed {g : GT} {nt : Nat} {C M C1 : St} {o : Int64} {x v : Int32} {mc ms : Nat} (hO : RET g K_X4_feed mc ms [.ref (ad g 0), .int x] nt C M o (some (.int v)) C1 M o) : RETH g K_L_feed mc ms [.ref (ad g 0), .int x, .ref (ad g 9)] nt C M o (some (.int 0)) C1 M v.toInt64 := by
  refine MTH_of (by decide +kernel) rfl (Nat.le_of_ble_eq_true rfl) (by simp [cat_int, cat_ref]) (fun h => ?_)
  refine V_aload_n (dG D_L_feed 0 rfl) rfl ?_
  refine V_iconst (v := 0) (dG D_L_feed 1 rfl) (by decide) ?_
  refine V_aload_n (dG D_L_feed 2 rfl) rfl ?_
  refine V_iload_n (dG D_L_feed 3 rfl) rfl ?_
  refine R_vb1 hO lk_L_76 (dG D_L_feed 4 rfl) rcv_4 ⟨Nat.le_of_ble_eq_true rfl, Nat.le_of_ble_eq_true rfl⟩ ⟨by show 0 + mc ≤ mc; omega, by show 0 + ms ≤ ms; omega⟩ (by simp [cat_int, cat_ref]) (fun h => ?_)
  refine V_i2l (dG D_L_feed 5 rfl) ?_
  refine V_last0 (dG D_L_feed 6 rfl) ?_
  refine V_goto (tgt := 15) (dG D_L_feed 7 rfl) (by decide) ?_
  refine V_iconst (v := 0) (dG D_L_feed 11 rfl) (by decide) ?_
  exact V_iret (dG D_L_feed 12 rfl) rfl (by omega) (by omega) ⟨rfl, rfl, rfl, rfl⟩
theorem wt_feed_1 {g : GT} {nt : Nat} {C M : St} {o : Int64} {x : Int32} (hO : THR g K_X4_feed 1 6 [.ref (ad g 0), .int x] nt C M o IOE) : RETH g K_L_feed 1 6 [.ref (ad g 0), .int x, .ref (ad g 9)] nt C M o (some (.int 1)) C M o := by
  refine MTH_of (by decide +kernel) rfl (Nat.le_of_ble_eq_true rfl) (by simp [cat_int, cat_ref]) (fun h => ?_)
  refine V_aload_n (dG D_L_feed 0 rfl) rfl ?_
  refine V_iconst (v := 0) (dG D_L_feed 1 rfl) (by decide) ?_
  refine V_aload_n (dG D_L_feed 2 rfl) rfl ?_
  refine V_iload_n (dG D_L_feed 3 rfl) rfl ?_
  refine T_b1 hO lk_L_76 (dG D_L_feed 4 rfl) rcv_4 ⟨Nat.le_of_ble_eq_true rfl, Nat.le_of_ble_eq_true rfl⟩ ⟨by show 0 + 1 ≤ 1; omega, by show 0 + 6 ≤ 6; omega⟩ (by simp [cat_int, cat_ref]) (fun h => ?_)
  refine V_catch (E := IOE) [] (0, 9, 12, 21) [] rfl (fun z hz => by cases hz) (by decide) (by decide) w_260 (by decide +kernel) (fun q9 => ?_)
  refine V_astore_n (dG D_L_feed 8 rfl) (by decide) ?_
  refine V_iconst (v := 1) (dG D_L_feed 9 rfl) (by decide) ?_
  exact V_iret (dG D_L_feed 10 rfl) rfl (by omega) (by omega) ⟨rfl, rfl, rfl, rfl⟩
theorem ow_feed {g : GT} {nt : Nat} {C M C1 : St} {x k v : Int32} (hO : Out g K_X4_feed [.ref (ad g 0), .int x] [(1, IOE)] nt C M k v C1) : ∃ mc ms, mc + cap C ≤ cap C1 + 1 ∧ ms + 4 * cap C ≤ 4 * cap C1 + 6 ∧ ∀ o, RETH g K_L_feed mc ms [.ref (ad g 0), .int x, .ref (ad g 9)] nt C M o (some (.int k)) C1 M (if k = 0 then v.toInt64 else o) := by
  rcases hO with ⟨rfl, mc, ms, h1, h2, h3⟩ | ⟨rfl, E, hE, h3⟩
  · exact ⟨mc, ms, by omega, by omega, fun o => by rw [if_pos rfl]; exact wr_feed (h3 o)⟩
  · simp only [List.mem_cons, List.not_mem_nil, or_false, Prod.mk.injEq] at hE
    obtain ⟨rfl, rfl⟩ := hE
    exact ⟨1, 6, by omega, by omega, fun o => by rw [if_neg (by decide)]; exact wt_feed_1 (h3 o)⟩
theorem wr_order {g : GT} {nt : Nat} {C M C1 : St} {o : Int64} {x v : Int32} {mc ms : Nat} (hO : RET g K_X4_order mc ms [.ref (ad g 0), .int x] nt C M o (some (.int v)) C1 M o) : RETH g K_L_order mc ms [.ref (ad g 0), .int x, .ref (ad g 9)] nt C M o (some (.int 0)) C1 M v.toInt64 := by
  refine MTH_of (by decide +kernel) rfl (Nat.le_of_ble_eq_true rfl) (by simp [cat_int, cat_ref]) (fun h => ?_)
  refine V_aload_n (dG D_L_order 0 rfl) rfl ?_
  refine V_iconst (v := 0) (dG D_L_order 1 rfl) (by decide) ?_
  refine V_aload_n (dG D_L_order 2 rfl) rfl ?_
  refine V_iload_n (dG D_L_order 3 rfl) rfl ?_
  refine R_vb1 hO lk_L_79 (dG D_L_order 4 rfl) rcv_4 ⟨Nat.le_of_ble_eq_true rfl, Nat.le_of_ble_eq_true rfl⟩ ⟨by show 0 + mc ≤ mc; omega, by show 0 + ms ≤ ms; omega⟩ (by simp [cat_int, cat_ref]) (fun h => ?_)
  refine V_i2l (dG D_L_order 5 rfl) ?_
  refine V_last0 (dG D_L_order 6 rfl) ?_
  refine V_goto (tgt := 15) (dG D_L_order 7 rfl) (by decide) ?_
  refine V_iconst (v := 0) (dG D_L_order 11 rfl) (by decide) ?_
  exact V_iret (dG D_L_order 12 rfl) rfl (by omega) (by omega) ⟨rfl, rfl, rfl, rfl⟩
theorem wt_order_1 {g : GT} {nt : Nat} {C M : St} {o : Int64} {x : Int32} (hO : THR g K_X4_order 1 6 [.ref (ad g 0), .int x] nt C M o IOE) : RETH g K_L_order 1 6 [.ref (ad g 0), .int x, .ref (ad g 9)] nt C M o (some (.int 1)) C M o := by
  refine MTH_of (by decide +kernel) rfl (Nat.le_of_ble_eq_true rfl) (by simp [cat_int, cat_ref]) (fun h => ?_)
  refine V_aload_n (dG D_L_order 0 rfl) rfl ?_
  refine V_iconst (v := 0) (dG D_L_order 1 rfl) (by decide) ?_
  refine V_aload_n (dG D_L_order 2 rfl) rfl ?_
  refine V_iload_n (dG D_L_order 3 rfl) rfl ?_
  refine T_b1 hO lk_L_79 (dG D_L_order 4 rfl) rcv_4 ⟨Nat.le_of_ble_eq_true rfl, Nat.le_of_ble_eq_true rfl⟩ ⟨by show 0 + 1 ≤ 1; omega, by show 0 + 6 ≤ 6; omega⟩ (by simp [cat_int, cat_ref]) (fun h => ?_)
  refine V_catch (E := IOE) [] (0, 9, 12, 21) [] rfl (fun z hz => by cases hz) (by decide) (by decide) w_260 (by decide +kernel) (fun q9 => ?_)
  refine V_astore_n (dG D_L_order 8 rfl) (by decide) ?_
  refine V_iconst (v := 1) (dG D_L_order 9 rfl) (by decide) ?_
  exact V_iret (dG D_L_order 10 rfl) rfl (by omega) (by omega) ⟨rfl, rfl, rfl, rfl⟩
theorem ow_order {g : GT} {nt : Nat} {C M C1 : St} {x k v : Int32} (hO : Out g K_X4_order [.ref (ad g 0), .int x] [(1, IOE)] nt C M k v C1) : ∃ mc ms, mc + cap C ≤ cap C1 + 1 ∧ ms + 4 * cap C ≤ 4 * cap C1 + 6 ∧ ∀ o, RETH g K_L_order mc ms [.ref (ad g 0), .int x, .ref (ad g 9)] nt C M o (some (.int k)) C1 M (if k = 0 then v.toInt64 else o) := by
  rcases hO with ⟨rfl, mc, ms, h1, h2, h3⟩ | ⟨rfl, E, hE, h3⟩
  · exact ⟨mc, ms, by omega, by omega, fun o => by rw [if_pos rfl]; exact wr_order (h3 o)⟩
  · simp only [List.mem_cons, List.not_mem_nil, or_false, Prod.mk.injEq] at hE
    obtain ⟨rfl, rfl⟩ := hE
    exact ⟨1, 6, by omega, by omega, fun o => by rw [if_neg (by decide)]; exact wt_order_1 (h3 o)⟩
