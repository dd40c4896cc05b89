/-! class: leaves, and the first calls -/
def mx (a b : Int32) : Int32 := if a < b then b else a
def mn (a b : Int32) : Int32 := if b < a then b else a
def meetS (C : St) (n : Nat) (s : Int32) : St := up C 2 n (mx (C 2 n) s)
def tellS (C : St) (n : Nat) (time : Int32) : St := meetS C n (mx (10 * (time + C 1 n)) (C 2 n + 1))
def noteR (C : St) (k : Nat) (num st : Int32) : St := if st ≤ C 8 k then (if st = C 8 k then (if C 9 k = num then C else up C 9 k (-2)) else C) else up (up C 8 k st) 9 k num
def noteS (C : St) (k : Nat) (st : Int32) : St := if st ≤ C 8 k then C else up (up C 8 k st) 9 k (-2)
def closedS (C : St) : Int32 := mx 0 (10 * (C 0 0 - 15))
section B1
variable {g : GT} {nt : Nat} {C M : St} {o : Int64}
theorem ok_meetStamp {n : Nat} (hn : n < 4) {s : Int32} : RET g K_X2_meetStamp 0 0 [.ref (ad g (37 + n)), .int s] nt C M o none (meetS C n s) M o := by
  refine MT_of (by decide +kernel) rfl rfl (Nat.le_of_ble_eq_true rfl) (by simp [cat_rf, cat_int, cat_ref]) (fun h => ?_)
  refine V_aload_n (dG D_X2_meetStamp 0 rfl) rfl ?_
  refine V_aload_n (dG D_X2_meetStamp 1 rfl) rfl ?_
  refine gf_X2_15 rfl (dG D_X2_meetStamp 2 rfl) (by first | assumption | omega) ?_
  refine V_iload_n (dG D_X2_meetStamp 3 rfl) rfl ?_
  refine V_max w_302 (dG D_X2_meetStamp 4 rfl) ⟨(Nat.le_of_ble_eq_true rfl), (by first | exact Nat.le_of_ble_eq_true rfl | (simp only [List.map, List.sum, cat_rf, cat_int, cat_ref]; exact Nat.le_of_ble_eq_true rfl))⟩ ⟨(Nat.le_of_ble_eq_true rfl), (Nat.le_of_ble_eq_true rfl)⟩ ?_
  refine pf_X2_15 rfl (dG D_X2_meetStamp 5 rfl) (by first | assumption | omega) ?_
  exact V_vret (dG D_X2_meetStamp 6 rfl) rfl (Nat.le_of_ble_eq_true rfl) (Nat.le_of_ble_eq_true rfl) ⟨rfl, rfl, rfl, rfl⟩
theorem ok_tellStamp {n : Nat} (hn : n < 4) {time : Int32} : RET g K_X2_tellStamp 0 0 [.ref (ad g (37 + n)), .int time] nt C M o (some (.int (tellS C n time 2 n))) (tellS C n time) M o := by
  refine MT_of (by decide +kernel) rfl rfl (Nat.le_of_ble_eq_true rfl) (by simp [cat_rf, cat_int, cat_ref]) (fun h => ?_)
  refine V_aload_n (dG D_X2_tellStamp 0 rfl) rfl ?_
  refine V_bipush (v := 10) (dG D_X2_tellStamp 1 rfl) (by decide) ?_
  refine V_iload_n (dG D_X2_tellStamp 2 rfl) rfl ?_
  refine V_aload_n (dG D_X2_tellStamp 3 rfl) rfl ?_
  refine gf_X2_9 rfl (dG D_X2_tellStamp 4 rfl) (by first | assumption | omega) ?_
  refine V_iadd (dG D_X2_tellStamp 5 rfl) ?_
  refine V_imul (dG D_X2_tellStamp 6 rfl) ?_
  refine V_aload_n (dG D_X2_tellStamp 7 rfl) rfl ?_
  refine gf_X2_15 rfl (dG D_X2_tellStamp 8 rfl) (by first | assumption | omega) ?_
  refine V_iconst (v := 1) (dG D_X2_tellStamp 9 rfl) (by decide) ?_
  refine V_iadd (dG D_X2_tellStamp 10 rfl) ?_
  refine V_max w_302 (dG D_X2_tellStamp 11 rfl) ⟨(Nat.le_of_ble_eq_true rfl), (by first | exact Nat.le_of_ble_eq_true rfl | (simp only [List.map, List.sum, cat_rf, cat_int, cat_ref]; exact Nat.le_of_ble_eq_true rfl))⟩ ⟨(Nat.le_of_ble_eq_true rfl), (Nat.le_of_ble_eq_true rfl)⟩ ?_
  refine R_nb1 (ok_meetStamp (by assumption)) lk_X2_24 (dG D_X2_tellStamp 12 rfl) (rcv_2 (by first | assumption | omega)) ⟨Nat.le_of_ble_eq_true rfl, Nat.le_of_ble_eq_true rfl⟩ ⟨(Nat.le_of_ble_eq_true rfl), (Nat.le_of_ble_eq_true rfl)⟩ (by first | exact Nat.le_of_ble_eq_true rfl | simp [cat_rf, cat_int, cat_ref]) (fun h => ?_)
  refine V_aload_n (dG D_X2_tellStamp 13 rfl) rfl ?_
  refine gf_X2_15 rfl (dG D_X2_tellStamp 14 rfl) (by first | assumption | omega) ?_
  exact V_iret (dG D_X2_tellStamp 15 rfl) rfl (Nat.le_of_ble_eq_true rfl) (Nat.le_of_ble_eq_true rfl) ⟨rfl, rfl, rfl, rfl⟩
theorem ok_noteReader {k : Nat} (hk : k < 32) {num st : Int32} : RET g K_X0_noteReader 0 0 [.ref (ad g (41 + k)), .int num, .int st] nt C M o none (noteR C k num st) M o := by
  refine MT_of (by decide +kernel) rfl rfl (Nat.le_of_ble_eq_true rfl) (by simp [cat_rf, cat_int, cat_ref]) (fun h => ?_)
  refine V_iload_n (dG D_X0_noteReader 0 rfl) rfl ?_
  refine V_aload_n (dG D_X0_noteReader 1 rfl) rfl ?_
  refine gf_X0_15 rfl (dG D_X0_noteReader 2 rfl) (by first | assumption | omega) ?_
  refine V_icmp_le (tgt := 21) (dG D_X0_noteReader 3 rfl) (by decide) (fun c_5 => ?_) (fun c_5 => ?_)
  · skip
    refine V_iload_n (dG D_X0_noteReader 11 rfl) rfl ?_
    refine V_aload_n (dG D_X0_noteReader 12 rfl) rfl ?_
    refine gf_X0_15 rfl (dG D_X0_noteReader 13 rfl) (by first | assumption | omega) ?_
    refine V_icmp_ne (tgt := 43) (dG D_X0_noteReader 14 rfl) (by decide) (fun c_26 => ?_) (fun c_26 => ?_)
    · skip
      exact V_vret (dG D_X0_noteReader 22 rfl) rfl (Nat.le_of_ble_eq_true rfl) (Nat.le_of_ble_eq_true rfl) ⟨rfl, (by simp [noteR, c_5, c_26]), rfl, rfl⟩
    · skip
      refine V_aload_n (dG D_X0_noteReader 15 rfl) rfl ?_
      refine gf_X0_9 rfl (dG D_X0_noteReader 16 rfl) (by first | assumption | omega) ?_
      refine V_iload_n (dG D_X0_noteReader 17 rfl) rfl ?_
      refine V_icmp_eq (tgt := 43) (dG D_X0_noteReader 18 rfl) (by decide) (fun c_34 => ?_) (fun c_34 => ?_)
      · skip
        exact V_vret (dG D_X0_noteReader 22 rfl) rfl (Nat.le_of_ble_eq_true rfl) (Nat.le_of_ble_eq_true rfl) ⟨rfl, (by simp [noteR, c_5, c_26, c_34]), rfl, rfl⟩
      · skip
        refine V_aload_n (dG D_X0_noteReader 19 rfl) rfl ?_
        refine V_bipush (v := -2) (dG D_X0_noteReader 20 rfl) (by decide) ?_
        refine pf_X0_9 rfl (dG D_X0_noteReader 21 rfl) (by first | assumption | omega) ?_
        exact V_vret (dG D_X0_noteReader 22 rfl) rfl (Nat.le_of_ble_eq_true rfl) (Nat.le_of_ble_eq_true rfl) ⟨rfl, (by simp [noteR, c_5, c_26, c_34]), rfl, rfl⟩
  · skip
    refine V_aload_n (dG D_X0_noteReader 4 rfl) rfl ?_
    refine V_iload_n (dG D_X0_noteReader 5 rfl) rfl ?_
    refine pf_X0_15 rfl (dG D_X0_noteReader 6 rfl) (by first | assumption | omega) ?_
    refine V_aload_n (dG D_X0_noteReader 7 rfl) rfl ?_
    refine V_iload_n (dG D_X0_noteReader 8 rfl) rfl ?_
    refine pf_X0_9 rfl (dG D_X0_noteReader 9 rfl) (by first | assumption | omega) ?_
    refine V_goto (tgt := 43) (dG D_X0_noteReader 10 rfl) (by decide) ?_
    exact V_vret (dG D_X0_noteReader 22 rfl) rfl (Nat.le_of_ble_eq_true rfl) (Nat.le_of_ble_eq_true rfl) ⟨rfl, (by simp [noteR, c_5]), rfl, rfl⟩
theorem ok_noteSeveral {k : Nat} (hk : k < 32) {st : Int32} : RET g K_X0_noteSeveral 0 0 [.ref (ad g (41 + k)), .int st] nt C M o none (noteS C k st) M o := by
  refine MT_of (by decide +kernel) rfl rfl (Nat.le_of_ble_eq_true rfl) (by simp [cat_rf, cat_int, cat_ref]) (fun h => ?_)
  refine V_iload_n (dG D_X0_noteSeveral 0 rfl) rfl ?_
  refine V_aload_n (dG D_X0_noteSeveral 1 rfl) rfl ?_
  refine gf_X0_15 rfl (dG D_X0_noteSeveral 2 rfl) (by first | assumption | omega) ?_
  refine V_icmp_le (tgt := 19) (dG D_X0_noteSeveral 3 rfl) (by decide) (fun c_5 => ?_) (fun c_5 => ?_)
  · skip
    exact V_vret (dG D_X0_noteSeveral 10 rfl) rfl (Nat.le_of_ble_eq_true rfl) (Nat.le_of_ble_eq_true rfl) ⟨rfl, (by simp [noteS, c_5]), rfl, rfl⟩
  · skip
    refine V_aload_n (dG D_X0_noteSeveral 4 rfl) rfl ?_
    refine V_iload_n (dG D_X0_noteSeveral 5 rfl) rfl ?_
    refine pf_X0_15 rfl (dG D_X0_noteSeveral 6 rfl) (by first | assumption | omega) ?_
    refine V_aload_n (dG D_X0_noteSeveral 7 rfl) rfl ?_
    refine V_bipush (v := -2) (dG D_X0_noteSeveral 8 rfl) (by decide) ?_
    refine pf_X0_9 rfl (dG D_X0_noteSeveral 9 rfl) (by first | assumption | omega) ?_
    exact V_vret (dG D_X0_noteSeveral 10 rfl) rfl (Nat.le_of_ble_eq_true rfl) (Nat.le_of_ble_eq_true rfl) ⟨rfl, (by simp [noteS, c_5]), rfl, rfl⟩
theorem ok_closedStamp : RET g K_X4_closedStamp 0 0 [.ref (ad g 0)] nt C M o (some (.int (closedS C))) C M o := by
  refine MT_of (by decide +kernel) rfl rfl (Nat.le_of_ble_eq_true rfl) (by simp [cat_rf, cat_int, cat_ref]) (fun h => ?_)
  refine V_iconst (v := 0) (dG D_X4_closedStamp 0 rfl) (by decide) ?_
  refine V_bipush (v := 10) (dG D_X4_closedStamp 1 rfl) (by decide) ?_
  refine V_aload_n (dG D_X4_closedStamp 2 rfl) rfl ?_
  refine gf_X4_47 rfl (dG D_X4_closedStamp 3 rfl) ?_
  refine V_bipush (v := 15) (dG D_X4_closedStamp 4 rfl) (by decide) ?_
  refine V_isub (dG D_X4_closedStamp 5 rfl) ?_
  refine V_imul (dG D_X4_closedStamp 6 rfl) ?_
  refine V_max w_127 (dG D_X4_closedStamp 7 rfl) ⟨(Nat.le_of_ble_eq_true rfl), (by first | exact Nat.le_of_ble_eq_true rfl | (simp only [List.map, List.sum, cat_rf, cat_int, cat_ref]; exact Nat.le_of_ble_eq_true rfl))⟩ ⟨(Nat.le_of_ble_eq_true rfl), (Nat.le_of_ble_eq_true rfl)⟩ ?_
  exact V_iret (dG D_X4_closedStamp 8 rfl) rfl (Nat.le_of_ble_eq_true rfl) (Nat.le_of_ble_eq_true rfl) ⟨rfl, rfl, rfl, rfl⟩
theorem ok_closed : RET g K_X4_closed 0 0 [.ref (ad g 0)] nt C M o (some (.int (closedS C))) C M o := by
  refine MT_of (by decide +kernel) rfl rfl (Nat.le_of_ble_eq_true rfl) (by simp [cat_rf, cat_int, cat_ref]) (fun h => ?_)
  refine V_aload_n (dG D_X4_closed 0 rfl) rfl ?_
  refine R_vb0 ok_closedStamp lk_X4_72 (dG D_X4_closed 1 rfl) rcv_4 ⟨Nat.le_of_ble_eq_true rfl, Nat.le_of_ble_eq_true rfl⟩ ⟨(Nat.le_of_ble_eq_true rfl), (Nat.le_of_ble_eq_true rfl)⟩ (by first | exact Nat.le_of_ble_eq_true rfl | simp [cat_rf, cat_int, cat_ref]) (fun h => ?_)
  exact V_iret (dG D_X4_closed 2 rfl) rfl (Nat.le_of_ble_eq_true rfl) (Nat.le_of_ble_eq_true rfl) ⟨rfl, rfl, rfl, rfl⟩
theorem ok_needNode {x : Int32} (h0 : ¬ x < 0) (h1 : x < 4) : RET g K_X4_needNode 0 0 [.ref (ad g 0), .int x] nt C M o none C M o := by
  refine MT_of (by decide +kernel) rfl rfl (Nat.le_of_ble_eq_true rfl) (by simp [cat_rf, cat_int, cat_ref]) (fun h => ?_)
  refine V_iload_n (dG D_X4_needNode 0 rfl) rfl ?_
  refine V_if_lt (tgt := 9) (dG D_X4_needNode 1 rfl) (by decide) (fun c_1 => absurd c_1 h0) (fun c_1 => ?_)
  refine V_iload_n (dG D_X4_needNode 2 rfl) rfl ?_
  refine V_iconst (v := 4) (dG D_X4_needNode 3 rfl) (by decide) ?_
  refine V_icmp_lt (tgt := 19) (dG D_X4_needNode 4 rfl) (by decide) (fun c_6 => ?_) (fun c_6 => absurd h1 c_6)
  exact V_vret (dG D_X4_needNode 10 rfl) rfl (Nat.le_of_ble_eq_true rfl) (Nat.le_of_ble_eq_true rfl) ⟨rfl, rfl, rfl, rfl⟩
theorem th_needNode {x : Int32} (h0 : x < 0 ∨ ¬ x < 4) : THR g K_X4_needNode 1 6 [.ref (ad g 0), .int x] nt C M o "java/lang/IndexOutOfBoundsException" := by
  refine MT_of (by decide +kernel) rfl rfl (Nat.le_of_ble_eq_true rfl) (by simp [cat_rf, cat_int, cat_ref]) (fun h => ?_)
  refine V_iload_n (dG D_X4_needNode 0 rfl) rfl ?_
  refine V_if_lt (tgt := 9) (dG D_X4_needNode 1 rfl) (by decide) (fun c_1 => ?_) (fun c_1 => ?_)
  · skip
    exact V_th98 (text := "no such node") rfl rfl (by decide +kernel) (dG D_X4_needNode 5 rfl) (dG D_X4_needNode 6 rfl) (dG D_X4_needNode 7 rfl) (dG D_X4_needNode 8 rfl) (dG D_X4_needNode 9 rfl) (Nat.le_of_ble_eq_true rfl) (Nat.le_of_ble_eq_true rfl) (Nat.le_of_ble_eq_true rfl) (Nat.le_of_ble_eq_true rfl) ⟨rfl, rfl, rfl, rfl⟩
  · skip
    refine V_iload_n (dG D_X4_needNode 2 rfl) rfl ?_
    refine V_iconst (v := 4) (dG D_X4_needNode 3 rfl) (by decide) ?_
    refine V_icmp_lt (tgt := 19) (dG D_X4_needNode 4 rfl) (by decide) (fun c_6 => absurd c_6 (h0.resolve_left c_1)) (fun c_6 => ?_)
    exact V_th98 (text := "no such node") rfl rfl (by decide +kernel) (dG D_X4_needNode 5 rfl) (dG D_X4_needNode 6 rfl) (dG D_X4_needNode 7 rfl) (dG D_X4_needNode 8 rfl) (dG D_X4_needNode 9 rfl) (Nat.le_of_ble_eq_true rfl) (Nat.le_of_ble_eq_true rfl) (Nat.le_of_ble_eq_true rfl) (Nat.le_of_ble_eq_true rfl) ⟨rfl, rfl, rfl, rfl⟩
end B1
