/-! the model's get, put, commit where there is no such transaction or key -/
set_option maxHeartbeats 100000
def s_getx (x : Int32) (y : Int32) (M : St) : Int32 × St := ((0 : Int32), (s_areThere x y M).2)
theorem om_getx {g : GT} {nt : Nat} {C : St} {o : Int64} {x : Int32} {y : Int32} {M : St}  (hx : (s_areThere x y M).1 = 0) : RET g K_X5_get 0 0 [.ref (ad g 10), .int x, .int y] nt C M o (some (.int (s_getx x y M).1)) C (s_getx x y M).2 o := by
  refine MT_of (by decide +kernel) rfl rfl (Nat.le_of_ble_eq_true rfl) (by simp [cat_rf, cat_int, cat_ref]) (fun h => ?_)
  unfold s_getx
  refine V_aload_n (dG D_X5_get_0 0 rfl) rfl ?_
  refine V_iload_n (dG D_X5_get_0 1 rfl) rfl ?_
  refine V_iload_n (dG D_X5_get_0 2 rfl) rfl ?_
  refine R_vb2 om_areThere lk_X5_163 (dG D_X5_get_0 3 rfl) rcv_5 ⟨Nat.le_of_ble_eq_true rfl, Nat.le_of_ble_eq_true rfl⟩ ⟨(Nat.le_of_ble_eq_true rfl), (Nat.le_of_ble_eq_true rfl)⟩ (by first | exact Nat.le_of_ble_eq_true rfl | simp [cat_rf, cat_int, cat_ref]) (fun h => ?_)
  refine V_if_ne (tgt := 11) (dG D_X5_get_0 4 rfl) (by decide) (fun c_6 => absurd hx c_6) (fun c_6 => ?_)
  refine V_iconst (v := 0) (dG D_X5_get_0 5 rfl) (by decide) ?_
  exact V_iret (dG D_X5_get_0 6 rfl) rfl (Nat.le_of_ble_eq_true rfl) (Nat.le_of_ble_eq_true rfl) ⟨by first | with_reducible rfl | rfl, rfl, by first | with_reducible rfl | rfl, rfl⟩
def s_putx (x : Int32) (y : Int32) (v : Int32) (M : St) : Int32 × St := ((0 : Int32), (s_areThere x y M).2)
theorem om_putx {g : GT} {nt : Nat} {C : St} {o : Int64} {x : Int32} {y : Int32} {v : Int32} {M : St}  (hx : (s_areThere x y M).1 = 0) : RET g K_X5_put 0 0 [.ref (ad g 10), .int x, .int y, .int v] nt C M o (some (.int (s_putx x y v M).1)) C (s_putx x y v M).2 o := by
  refine MT_of (by decide +kernel) rfl rfl (Nat.le_of_ble_eq_true rfl) (by simp [cat_rf, cat_int, cat_ref]) (fun h => ?_)
  unfold s_putx
  refine V_aload_n (dG D_X5_put_0 0 rfl) rfl ?_
  refine V_iload_n (dG D_X5_put_0 1 rfl) rfl ?_
  refine V_iload_n (dG D_X5_put_0 2 rfl) rfl ?_
  refine R_vb2 om_areThere lk_X5_163 (dG D_X5_put_0 3 rfl) rcv_5 ⟨Nat.le_of_ble_eq_true rfl, Nat.le_of_ble_eq_true rfl⟩ ⟨(Nat.le_of_ble_eq_true rfl), (Nat.le_of_ble_eq_true rfl)⟩ (by first | exact Nat.le_of_ble_eq_true rfl | simp [cat_rf, cat_int, cat_ref]) (fun h => ?_)
  refine V_if_ne (tgt := 11) (dG D_X5_put_0 4 rfl) (by decide) (fun c_6 => absurd hx c_6) (fun c_6 => ?_)
  refine V_iconst (v := 0) (dG D_X5_put_0 5 rfl) (by decide) ?_
  exact V_iret (dG D_X5_put_0 6 rfl) rfl (Nat.le_of_ble_eq_true rfl) (Nat.le_of_ble_eq_true rfl) ⟨by first | with_reducible rfl | rfl, rfl, by first | with_reducible rfl | rfl, rfl⟩
def s_commitx (x : Int32) (p : Int32) (M : St) : Int32 × St := ((0 : Int32), (s_isTransaction x M).2)
theorem om_commitx {g : GT} {nt : Nat} {C : St} {o : Int64} {x : Int32} {p : Int32} {M : St}  (hx : (s_isTransaction x M).1 = 0) : RET g K_X5_commit 0 0 [.ref (ad g 10), .int x, .int p] nt C M o (some (.int (s_commitx x p M).1)) C (s_commitx x p M).2 o := by
  refine MT_of (by decide +kernel) rfl rfl (Nat.le_of_ble_eq_true rfl) (by simp [cat_rf, cat_int, cat_ref]) (fun h => ?_)
  unfold s_commitx
  refine V_aload_n (dG D_X5_commit_0 0 rfl) rfl ?_
  refine V_iload_n (dG D_X5_commit_0 1 rfl) rfl ?_
  refine R_vb1 om_isTransaction lk_X5_186 (dG D_X5_commit_0 2 rfl) rcv_5 ⟨Nat.le_of_ble_eq_true rfl, Nat.le_of_ble_eq_true rfl⟩ ⟨(Nat.le_of_ble_eq_true rfl), (Nat.le_of_ble_eq_true rfl)⟩ (by first | exact Nat.le_of_ble_eq_true rfl | simp [cat_rf, cat_int, cat_ref]) (fun h => ?_)
  refine V_if_ne (tgt := 10) (dG D_X5_commit_0 3 rfl) (by decide) (fun c_5 => absurd hx c_5) (fun c_5 => ?_)
  refine V_iconst (v := 0) (dG D_X5_commit_0 4 rfl) (by decide) ?_
  exact V_iret (dG D_X5_commit_0 5 rfl) rfl (Nat.le_of_ble_eq_true rfl) (Nat.le_of_ble_eq_true rfl) ⟨by first | with_reducible rfl | rfl, rfl, by first | with_reducible rfl | rfl, rfl⟩
