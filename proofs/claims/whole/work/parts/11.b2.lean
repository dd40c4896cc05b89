/-! class: the transaction's own methods -/
def vanB (C : St) (i : Nat) (time : Int32) : Int32 := if C 15 i = 0 ∨ C 15 i = 1 then (if time ≤ C 18 i + 20 then 0 else 1) else 0
def wfS (C : St) (i : Nat) : Int32 := if C 15 i = 0 ∧ ¬ C 19 i < 0 ∧ C 15 (C 19 i).toNatClampNeg = 0 then C 19 i else -1
def ybB (C : St) (i j : Nat) : Int32 := if C 13 i < C 13 j then 1 else if C 13 i = C 13 j then (if C 11 i ≤ C 11 j then 0 else 1) else 0
def noteClockS (C : St) (i n : Nat) (stamp : Int32) : St := up (up C 22 i (setb (C 22 i) n)) (52 + 3 * i) n (mn (C 14 i) stamp)
def noteReadS (C : St) (i k : Nat) (v : Int32) : St := up (up C 20 i (setb (C 20 i) k)) (50 + 3 * i) k v
def noteWriteS (C : St) (i k : Nat) (v : Int32) : St := up (up C 21 i (setb (C 21 i) k)) (51 + 3 * i) k v
def forgetS (C : St) (i : Nat) (s : Int32) : St := up (up (up (up C 20 i 0) 21 i 0) 17 i (mx s (C 17 i))) 16 i (mx s (C 17 i))
def raiseS (C : St) (i : Nat) (s : Int32) : St := up (up C 16 i s) 17 i (mx (C 17 i) s)
section B2
variable {g : GT} {nt : Nat} {C M : St} {o : Int64} {t : Int32}
theorem ok_isVanished (ht : tok nt t) {time : Int32} : RET g K_X3_isVanished 0 0 [va_rf (trO g t), .int time] nt C M o (some (.int (vanB C t.toNatClampNeg time))) C M o := by
  refine MT_of (by decide +kernel) rfl rfl (Nat.le_of_ble_eq_true rfl) (by simp [cat_rf, cat_int, cat_ref]) (fun h => ?_)
  refine V_aload_nt (dG D_X3_isVanished 0 rfl) rfl ?_
  refine gf_X3_9 rfl (dG D_X3_isVanished 1 rfl) (by assumption) ?_
  refine V_if_eq (tgt := 15) (dG D_X3_isVanished 2 rfl) (by decide) (fun c_4 => ?_) (fun c_4 => ?_)
  · skip
    refine V_iload_n (dG D_X3_isVanished 7 rfl) rfl ?_
    refine V_aload_nt (dG D_X3_isVanished 8 rfl) rfl ?_
    refine gf_X3_43 rfl (dG D_X3_isVanished 9 rfl) (by assumption) ?_
    refine V_bipush (v := 20) (dG D_X3_isVanished 10 rfl) (by decide) ?_
    refine V_iadd (dG D_X3_isVanished 11 rfl) ?_
    refine V_icmp_le (tgt := 30) (dG D_X3_isVanished 12 rfl) (by decide) (fun c_23 => ?_) (fun c_23 => ?_)
    · skip
      refine V_iconst (v := 0) (dG D_X3_isVanished 15 rfl) (by decide) ?_
      exact V_zret (dG D_X3_isVanished 16 rfl) rfl (by first | rfl | assumption) (Nat.le_of_ble_eq_true rfl) (Nat.le_of_ble_eq_true rfl) ⟨(by simp [vanB, c_4, c_23]), rfl, rfl, rfl⟩
    · skip
      refine V_iconst (v := 1) (dG D_X3_isVanished 13 rfl) (by decide) ?_
      refine V_goto (tgt := 31) (dG D_X3_isVanished 14 rfl) (by decide) ?_
      exact V_zret (dG D_X3_isVanished 16 rfl) rfl (by first | rfl | assumption) (Nat.le_of_ble_eq_true rfl) (Nat.le_of_ble_eq_true rfl) ⟨(by simp [vanB, c_4, c_23]), rfl, rfl, rfl⟩
  · skip
    refine V_aload_nt (dG D_X3_isVanished 3 rfl) rfl ?_
    refine gf_X3_9 rfl (dG D_X3_isVanished 4 rfl) (by assumption) ?_
    refine V_iconst (v := 1) (dG D_X3_isVanished 5 rfl) (by decide) ?_
    refine V_icmp_ne (tgt := 30) (dG D_X3_isVanished 6 rfl) (by decide) (fun c_12 => ?_) (fun c_12 => ?_)
    · skip
      refine V_iconst (v := 0) (dG D_X3_isVanished 15 rfl) (by decide) ?_
      exact V_zret (dG D_X3_isVanished 16 rfl) rfl (by first | rfl | assumption) (Nat.le_of_ble_eq_true rfl) (Nat.le_of_ble_eq_true rfl) ⟨(by simp [vanB, c_4, c_12]), rfl, rfl, rfl⟩
    · skip
      refine V_iload_n (dG D_X3_isVanished 7 rfl) rfl ?_
      refine V_aload_nt (dG D_X3_isVanished 8 rfl) rfl ?_
      refine gf_X3_43 rfl (dG D_X3_isVanished 9 rfl) (by assumption) ?_
      refine V_bipush (v := 20) (dG D_X3_isVanished 10 rfl) (by decide) ?_
      refine V_iadd (dG D_X3_isVanished 11 rfl) ?_
      refine V_icmp_le (tgt := 30) (dG D_X3_isVanished 12 rfl) (by decide) (fun c_23 => ?_) (fun c_23 => ?_)
      · skip
        refine V_iconst (v := 0) (dG D_X3_isVanished 15 rfl) (by decide) ?_
        exact V_zret (dG D_X3_isVanished 16 rfl) rfl (by first | rfl | assumption) (Nat.le_of_ble_eq_true rfl) (Nat.le_of_ble_eq_true rfl) ⟨(by simp [vanB, c_4, c_12, c_23]), rfl, rfl, rfl⟩
      · skip
        refine V_iconst (v := 1) (dG D_X3_isVanished 13 rfl) (by decide) ?_
        refine V_goto (tgt := 31) (dG D_X3_isVanished 14 rfl) (by decide) ?_
        exact V_zret (dG D_X3_isVanished 16 rfl) rfl (by first | rfl | assumption) (Nat.le_of_ble_eq_true rfl) (Nat.le_of_ble_eq_true rfl) ⟨(by simp [vanB, c_4, c_12, c_23]), rfl, rfl, rfl⟩
theorem ok_waitsFor (ht : tok nt t) (hw : trv nt (C 19 t.toNatClampNeg)) : RET g K_X3_waitsFor 0 0 [va_rf (trO g t)] nt C M o (some (va_rf (trO g (wfS C t.toNatClampNeg)))) C M o := by
  refine MT_of (by decide +kernel) rfl rfl (Nat.le_of_ble_eq_true rfl) (by simp [cat_rf, cat_int, cat_ref]) (fun h => ?_)
  refine V_aload_nt (dG D_X3_waitsFor 0 rfl) rfl ?_
  refine gf_X3_9 rfl (dG D_X3_waitsFor 1 rfl) (by assumption) ?_
  refine V_if_ne (tgt := 31) (dG D_X3_waitsFor 2 rfl) (by decide) (fun c_4 => ?_) (fun c_4 => ?_)
  · skip
    refine V_nullt (dG D_X3_waitsFor 13 rfl) ?_
    exact V_aret (dG D_X3_waitsFor 14 rfl) rfl (Nat.le_of_ble_eq_true rfl) (Nat.le_of_ble_eq_true rfl) ⟨(by simp [wfS, trO_none, c_4]), rfl, rfl, rfl⟩
  · skip
    refine V_aload_nt (dG D_X3_waitsFor 3 rfl) rfl ?_
    refine gf_X3_46 rfl (dG D_X3_waitsFor 4 rfl) (by assumption) ?_
    refine V_ifnullt (tgt := 31) (dG D_X3_waitsFor 5 rfl) (by decide) (fun c_11 => ?_) (fun c_11 => ?_)
    · skip
      refine V_nullt (dG D_X3_waitsFor 13 rfl) ?_
      exact V_aret (dG D_X3_waitsFor 14 rfl) rfl (Nat.le_of_ble_eq_true rfl) (Nat.le_of_ble_eq_true rfl) ⟨(by simp [wfS, trO_none, c_4, c_11]), rfl, rfl, rfl⟩
    · skip
      refine V_aload_nt (dG D_X3_waitsFor 6 rfl) rfl ?_
      refine gf_X3_46 rfl (dG D_X3_waitsFor 7 rfl) (by assumption) ?_
      refine gf_X3_9 rfl (dG D_X3_waitsFor 8 rfl) (trv_tok hw c_11) ?_
      refine V_if_ne (tgt := 31) (dG D_X3_waitsFor 9 rfl) (by decide) (fun c_21 => ?_) (fun c_21 => ?_)
      · skip
        refine V_nullt (dG D_X3_waitsFor 13 rfl) ?_
        exact V_aret (dG D_X3_waitsFor 14 rfl) rfl (Nat.le_of_ble_eq_true rfl) (Nat.le_of_ble_eq_true rfl) ⟨(by simp [wfS, trO_none, c_4, c_11, c_21]), rfl, rfl, rfl⟩
      · skip
        refine V_aload_nt (dG D_X3_waitsFor 10 rfl) rfl ?_
        refine gf_X3_46 rfl (dG D_X3_waitsFor 11 rfl) (by assumption) ?_
        refine V_goto (tgt := 32) (dG D_X3_waitsFor 12 rfl) (by decide) ?_
        exact V_aret (dG D_X3_waitsFor 14 rfl) rfl (Nat.le_of_ble_eq_true rfl) (Nat.le_of_ble_eq_true rfl) ⟨(by simp [wfS, trO_none, c_4, c_11, c_21]), rfl, rfl, rfl⟩
theorem ok_yieldsBefore (ht : tok nt t) {u : Int32} (hu : tok nt u) : RET g K_X3_yieldsBefore 0 0 [va_rf (trO g t), va_rf (trO g u)] nt C M o (some (.int (ybB C t.toNatClampNeg u.toNatClampNeg))) C M o := by
  refine MT_of (by decide +kernel) rfl rfl (Nat.le_of_ble_eq_true rfl) (by simp [cat_rf, cat_int, cat_ref]) (fun h => ?_)
  refine V_aload_nt (dG D_X3_yieldsBefore 0 rfl) rfl ?_
  refine gf_X3_31 rfl (dG D_X3_yieldsBefore 1 rfl) (by assumption) ?_
  refine V_aload_nt (dG D_X3_yieldsBefore 2 rfl) rfl ?_
  refine gf_X3_31 rfl (dG D_X3_yieldsBefore 3 rfl) (by assumption) ?_
  refine V_icmp_lt (tgt := 33) (dG D_X3_yieldsBefore 4 rfl) (by decide) (fun c_8 => ?_) (fun c_8 => ?_)
  · skip
    refine V_iconst (v := 1) (dG D_X3_yieldsBefore 15 rfl) (by decide) ?_
    refine V_goto (tgt := 38) (dG D_X3_yieldsBefore 16 rfl) (by decide) ?_
    exact V_zret (dG D_X3_yieldsBefore 18 rfl) rfl (by first | rfl | assumption) (Nat.le_of_ble_eq_true rfl) (Nat.le_of_ble_eq_true rfl) ⟨(by simp [ybB, c_8]), rfl, rfl, rfl⟩
  · skip
    refine V_aload_nt (dG D_X3_yieldsBefore 5 rfl) rfl ?_
    refine gf_X3_31 rfl (dG D_X3_yieldsBefore 6 rfl) (by assumption) ?_
    refine V_aload_nt (dG D_X3_yieldsBefore 7 rfl) rfl ?_
    refine gf_X3_31 rfl (dG D_X3_yieldsBefore 8 rfl) (by assumption) ?_
    refine V_icmp_ne (tgt := 37) (dG D_X3_yieldsBefore 9 rfl) (by decide) (fun c_19 => ?_) (fun c_19 => ?_)
    · skip
      refine V_iconst (v := 0) (dG D_X3_yieldsBefore 17 rfl) (by decide) ?_
      exact V_zret (dG D_X3_yieldsBefore 18 rfl) rfl (by first | rfl | assumption) (Nat.le_of_ble_eq_true rfl) (Nat.le_of_ble_eq_true rfl) ⟨(by simp [ybB, c_8, c_19]), rfl, rfl, rfl⟩
    · skip
      refine V_aload_nt (dG D_X3_yieldsBefore 10 rfl) rfl ?_
      refine gf_X3_25 rfl (dG D_X3_yieldsBefore 11 rfl) (by assumption) ?_
      refine V_aload_nt (dG D_X3_yieldsBefore 12 rfl) rfl ?_
      refine gf_X3_25 rfl (dG D_X3_yieldsBefore 13 rfl) (by assumption) ?_
      refine V_icmp_le (tgt := 37) (dG D_X3_yieldsBefore 14 rfl) (by decide) (fun c_30 => ?_) (fun c_30 => ?_)
      · skip
        refine V_iconst (v := 0) (dG D_X3_yieldsBefore 17 rfl) (by decide) ?_
        exact V_zret (dG D_X3_yieldsBefore 18 rfl) rfl (by first | rfl | assumption) (Nat.le_of_ble_eq_true rfl) (Nat.le_of_ble_eq_true rfl) ⟨(by simp [ybB, c_8, c_19, c_30]), rfl, rfl, rfl⟩
      · skip
        refine V_iconst (v := 1) (dG D_X3_yieldsBefore 15 rfl) (by decide) ?_
        refine V_goto (tgt := 38) (dG D_X3_yieldsBefore 16 rfl) (by decide) ?_
        exact V_zret (dG D_X3_yieldsBefore 18 rfl) rfl (by first | rfl | assumption) (Nat.le_of_ble_eq_true rfl) (Nat.le_of_ble_eq_true rfl) ⟨(by simp [ybB, c_8, c_19, c_30]), rfl, rfl, rfl⟩
theorem ok_hasAsked (ht : tok nt t) {n : Nat} (hn : n < 4) : RET g K_X3_hasAsked 0 0 [va_rf (trO g t), .int (nI n)] nt C M o (some (.int (bI (bt (C 22 t.toNatClampNeg) n)))) C M o := by
  refine MT_of (by decide +kernel) rfl rfl (Nat.le_of_ble_eq_true rfl) (by simp [cat_rf, cat_int, cat_ref]) (fun h => ?_)
  refine V_aload_nt (dG D_X3_hasAsked 0 rfl) rfl ?_
  refine gf_X3_50 rfl (dG D_X3_hasAsked 1 rfl) (by assumption) ?_
  refine V_iload_n (dG D_X3_hasAsked 2 rfl) rfl ?_
  refine V_iushr (dG D_X3_hasAsked 3 rfl) ?_
  refine V_iconst (v := 1) (dG D_X3_hasAsked 4 rfl) (by decide) ?_
  refine V_iand (dG D_X3_hasAsked 5 rfl) ?_
  refine V_if_eq (tgt := 15) (dG D_X3_hasAsked 6 rfl) (by decide) (fun c_8 => ?_) (fun c_8 => ?_)
  · skip
    have hb := bitF (show n < 32 by omega) c_8
    refine V_iconst (v := 0) (dG D_X3_hasAsked 9 rfl) (by decide) ?_
    exact V_zret (dG D_X3_hasAsked 10 rfl) rfl rfl (Nat.le_of_ble_eq_true rfl) (Nat.le_of_ble_eq_true rfl) ⟨by rw [hb]; rfl, rfl, rfl, rfl⟩
  · skip
    have hb := bitT (show n < 32 by omega) c_8
    refine V_iconst (v := 1) (dG D_X3_hasAsked 7 rfl) (by decide) ?_
    refine V_goto (tgt := 16) (dG D_X3_hasAsked 8 rfl) (by decide) ?_
    exact V_zret (dG D_X3_hasAsked 10 rfl) rfl rfl (Nat.le_of_ble_eq_true rfl) (Nat.le_of_ble_eq_true rfl) ⟨by rw [hb]; rfl, rfl, rfl, rfl⟩
theorem ok_hasRead (ht : tok nt t) {n : Nat} (hn : n < 32) : RET g K_X3_hasRead 0 0 [va_rf (trO g t), .int (nI n)] nt C M o (some (.int (bI (bt (C 20 t.toNatClampNeg) n)))) C M o := by
  refine MT_of (by decide +kernel) rfl rfl (Nat.le_of_ble_eq_true rfl) (by simp [cat_rf, cat_int, cat_ref]) (fun h => ?_)
  refine V_aload_nt (dG D_X3_hasRead 0 rfl) rfl ?_
  refine gf_X3_59 rfl (dG D_X3_hasRead 1 rfl) (by assumption) ?_
  refine V_iload_n (dG D_X3_hasRead 2 rfl) rfl ?_
  refine V_iushr (dG D_X3_hasRead 3 rfl) ?_
  refine V_iconst (v := 1) (dG D_X3_hasRead 4 rfl) (by decide) ?_
  refine V_iand (dG D_X3_hasRead 5 rfl) ?_
  refine V_if_eq (tgt := 15) (dG D_X3_hasRead 6 rfl) (by decide) (fun c_8 => ?_) (fun c_8 => ?_)
  · skip
    have hb := bitF (show n < 32 by omega) c_8
    refine V_iconst (v := 0) (dG D_X3_hasRead 9 rfl) (by decide) ?_
    exact V_zret (dG D_X3_hasRead 10 rfl) rfl rfl (Nat.le_of_ble_eq_true rfl) (Nat.le_of_ble_eq_true rfl) ⟨by rw [hb]; rfl, rfl, rfl, rfl⟩
  · skip
    have hb := bitT (show n < 32 by omega) c_8
    refine V_iconst (v := 1) (dG D_X3_hasRead 7 rfl) (by decide) ?_
    refine V_goto (tgt := 16) (dG D_X3_hasRead 8 rfl) (by decide) ?_
    exact V_zret (dG D_X3_hasRead 10 rfl) rfl rfl (Nat.le_of_ble_eq_true rfl) (Nat.le_of_ble_eq_true rfl) ⟨by rw [hb]; rfl, rfl, rfl, rfl⟩
theorem ok_writes (ht : tok nt t) {n : Nat} (hn : n < 32) : RET g K_X3_writes 0 0 [va_rf (trO g t), .int (nI n)] nt C M o (some (.int (bI (bt (C 21 t.toNatClampNeg) n)))) C M o := by
  refine MT_of (by decide +kernel) rfl rfl (Nat.le_of_ble_eq_true rfl) (by simp [cat_rf, cat_int, cat_ref]) (fun h => ?_)
  refine V_aload_nt (dG D_X3_writes 0 rfl) rfl ?_
  refine gf_X3_62 rfl (dG D_X3_writes 1 rfl) (by assumption) ?_
  refine V_iload_n (dG D_X3_writes 2 rfl) rfl ?_
  refine V_iushr (dG D_X3_writes 3 rfl) ?_
  refine V_iconst (v := 1) (dG D_X3_writes 4 rfl) (by decide) ?_
  refine V_iand (dG D_X3_writes 5 rfl) ?_
  refine V_if_eq (tgt := 15) (dG D_X3_writes 6 rfl) (by decide) (fun c_8 => ?_) (fun c_8 => ?_)
  · skip
    have hb := bitF (show n < 32 by omega) c_8
    refine V_iconst (v := 0) (dG D_X3_writes 9 rfl) (by decide) ?_
    exact V_zret (dG D_X3_writes 10 rfl) rfl rfl (Nat.le_of_ble_eq_true rfl) (Nat.le_of_ble_eq_true rfl) ⟨by rw [hb]; rfl, rfl, rfl, rfl⟩
  · skip
    have hb := bitT (show n < 32 by omega) c_8
    refine V_iconst (v := 1) (dG D_X3_writes 7 rfl) (by decide) ?_
    refine V_goto (tgt := 16) (dG D_X3_writes 8 rfl) (by decide) ?_
    exact V_zret (dG D_X3_writes 10 rfl) rfl rfl (Nat.le_of_ble_eq_true rfl) (Nat.le_of_ble_eq_true rfl) ⟨by rw [hb]; rfl, rfl, rfl, rfl⟩
theorem ok_noteClock (ht : tok nt t) {n : Nat} (hn : n < 4) {s : Int32} : RET g K_X3_noteClock 0 0 [va_rf (trO g t), .int (nI n), .int s] nt C M o none (noteClockS C t.toNatClampNeg n s) M o := by
  refine MT_of (by decide +kernel) rfl rfl (Nat.le_of_ble_eq_true rfl) (by simp [cat_rf, cat_int, cat_ref]) (fun h => ?_)
  refine V_aload_nt (dG D_X3_noteClock 0 rfl) rfl ?_
  refine V_dup (dG D_X3_noteClock 1 rfl) (cat_rf _) ?_
  refine gf_X3_50 rfl (dG D_X3_noteClock 2 rfl) (by assumption) ?_
  refine V_iconst (v := 1) (dG D_X3_noteClock 3 rfl) (by decide) ?_
  refine V_iload_n (dG D_X3_noteClock 4 rfl) rfl ?_
  refine V_ishl (dG D_X3_noteClock 5 rfl) ?_
  refine V_ior (dG D_X3_noteClock 6 rfl) ?_
  refine pf_X3_50 rfl (dG D_X3_noteClock 7 rfl) (by assumption) ?_
  refine V_aload_nt (dG D_X3_noteClock 8 rfl) rfl ?_
  refine gf_X3_22 rfl (dG D_X3_noteClock 9 rfl) (by assumption) ?_
  refine V_iload_n (dG D_X3_noteClock 10 rfl) rfl ?_
  refine V_aload_nt (dG D_X3_noteClock 11 rfl) rfl ?_
  refine gf_X3_34 rfl (dG D_X3_noteClock 12 rfl) (by assumption) ?_
  refine V_iload_n (dG D_X3_noteClock 13 rfl) rfl ?_
  refine V_min w_476 (dG D_X3_noteClock 14 rfl) ⟨(Nat.le_of_ble_eq_true rfl), (by first | exact Nat.le_of_ble_eq_true rfl | (simp only [List.map, List.sum, cat_rf, cat_int, cat_ref]; exact Nat.le_of_ble_eq_true rfl))⟩ ⟨(Nat.le_of_ble_eq_true rfl), (Nat.le_of_ble_eq_true rfl)⟩ ?_
  refine iast_t2 (by assumption) (dG D_X3_noteClock 15 rfl) (by first | assumption | exact inr_nI (by first | assumption | omega) (by decide) | exact inr_of (by assumption)) ?_
  exact V_vret (dG D_X3_noteClock 16 rfl) rfl (Nat.le_of_ble_eq_true rfl) (Nat.le_of_ble_eq_true rfl) ⟨rfl, rfl, rfl, rfl⟩
theorem ok_noteRead (ht : tok nt t) {n : Nat} (hn : n < 32) {v : Int32} : RET g K_X3_noteRead 0 0 [va_rf (trO g t), .int (nI n), .int v] nt C M o (some (.int v)) (noteReadS C t.toNatClampNeg n v) M o := by
  refine MT_of (by decide +kernel) rfl rfl (Nat.le_of_ble_eq_true rfl) (by simp [cat_rf, cat_int, cat_ref]) (fun h => ?_)
  refine V_aload_nt (dG D_X3_noteRead 0 rfl) rfl ?_
  refine V_dup (dG D_X3_noteRead 1 rfl) (cat_rf _) ?_
  refine gf_X3_59 rfl (dG D_X3_noteRead 2 rfl) (by assumption) ?_
  refine V_iconst (v := 1) (dG D_X3_noteRead 3 rfl) (by decide) ?_
  refine V_iload_n (dG D_X3_noteRead 4 rfl) rfl ?_
  refine V_ishl (dG D_X3_noteRead 5 rfl) ?_
  refine V_ior (dG D_X3_noteRead 6 rfl) ?_
  refine pf_X3_59 rfl (dG D_X3_noteRead 7 rfl) (by assumption) ?_
  refine V_aload_nt (dG D_X3_noteRead 8 rfl) rfl ?_
  refine gf_X3_15 rfl (dG D_X3_noteRead 9 rfl) (by assumption) ?_
  refine V_iload_n (dG D_X3_noteRead 10 rfl) rfl ?_
  refine V_iload_n (dG D_X3_noteRead 11 rfl) rfl ?_
  refine iast_t0 (by assumption) (dG D_X3_noteRead 12 rfl) (by first | assumption | exact inr_nI (by first | assumption | omega) (by decide) | exact inr_of (by assumption)) ?_
  refine V_iload_n (dG D_X3_noteRead 13 rfl) rfl ?_
  exact V_iret (dG D_X3_noteRead 14 rfl) rfl (Nat.le_of_ble_eq_true rfl) (Nat.le_of_ble_eq_true rfl) ⟨rfl, rfl, rfl, rfl⟩
theorem ok_noteWrite (ht : tok nt t) {n : Nat} (hn : n < 32) {v : Int32} : RET g K_X3_noteWrite 0 0 [va_rf (trO g t), .int (nI n), .int v] nt C M o none (noteWriteS C t.toNatClampNeg n v) M o := by
  refine MT_of (by decide +kernel) rfl rfl (Nat.le_of_ble_eq_true rfl) (by simp [cat_rf, cat_int, cat_ref]) (fun h => ?_)
  refine V_aload_nt (dG D_X3_noteWrite 0 rfl) rfl ?_
  refine V_dup (dG D_X3_noteWrite 1 rfl) (cat_rf _) ?_
  refine gf_X3_62 rfl (dG D_X3_noteWrite 2 rfl) (by assumption) ?_
  refine V_iconst (v := 1) (dG D_X3_noteWrite 3 rfl) (by decide) ?_
  refine V_iload_n (dG D_X3_noteWrite 4 rfl) rfl ?_
  refine V_ishl (dG D_X3_noteWrite 5 rfl) ?_
  refine V_ior (dG D_X3_noteWrite 6 rfl) ?_
  refine pf_X3_62 rfl (dG D_X3_noteWrite 7 rfl) (by assumption) ?_
  refine V_aload_nt (dG D_X3_noteWrite 8 rfl) rfl ?_
  refine gf_X3_19 rfl (dG D_X3_noteWrite 9 rfl) (by assumption) ?_
  refine V_iload_n (dG D_X3_noteWrite 10 rfl) rfl ?_
  refine V_iload_n (dG D_X3_noteWrite 11 rfl) rfl ?_
  refine iast_t1 (by assumption) (dG D_X3_noteWrite 12 rfl) (by first | assumption | exact inr_nI (by first | assumption | omega) (by decide) | exact inr_of (by assumption)) ?_
  exact V_vret (dG D_X3_noteWrite 13 rfl) rfl (Nat.le_of_ble_eq_true rfl) (Nat.le_of_ble_eq_true rfl) ⟨rfl, rfl, rfl, rfl⟩
theorem ok_forgetAll (ht : tok nt t) {s : Int32} : RET g K_X3_forgetAll 0 0 [va_rf (trO g t), .int s] nt C M o none (forgetS C t.toNatClampNeg s) M o := by
  refine MT_of (by decide +kernel) rfl rfl (Nat.le_of_ble_eq_true rfl) (by simp [cat_rf, cat_int, cat_ref]) (fun h => ?_)
  refine V_aload_nt (dG D_X3_forgetAll 0 rfl) rfl ?_
  refine V_iconst (v := 0) (dG D_X3_forgetAll 1 rfl) (by decide) ?_
  refine pf_X3_59 rfl (dG D_X3_forgetAll 2 rfl) (by assumption) ?_
  refine V_aload_nt (dG D_X3_forgetAll 3 rfl) rfl ?_
  refine V_iconst (v := 0) (dG D_X3_forgetAll 4 rfl) (by decide) ?_
  refine pf_X3_62 rfl (dG D_X3_forgetAll 5 rfl) (by assumption) ?_
  refine V_aload_nt (dG D_X3_forgetAll 6 rfl) rfl ?_
  refine V_iload_n (dG D_X3_forgetAll 7 rfl) rfl ?_
  refine V_aload_nt (dG D_X3_forgetAll 8 rfl) rfl ?_
  refine gf_X3_40 rfl (dG D_X3_forgetAll 9 rfl) (by assumption) ?_
  refine V_max w_558 (dG D_X3_forgetAll 10 rfl) ⟨(Nat.le_of_ble_eq_true rfl), (by first | exact Nat.le_of_ble_eq_true rfl | (simp only [List.map, List.sum, cat_rf, cat_int, cat_ref]; exact Nat.le_of_ble_eq_true rfl))⟩ ⟨(Nat.le_of_ble_eq_true rfl), (Nat.le_of_ble_eq_true rfl)⟩ ?_
  refine pf_X3_40 rfl (dG D_X3_forgetAll 11 rfl) (by assumption) ?_
  refine V_aload_nt (dG D_X3_forgetAll 12 rfl) rfl ?_
  refine V_aload_nt (dG D_X3_forgetAll 13 rfl) rfl ?_
  refine gf_X3_40 rfl (dG D_X3_forgetAll 14 rfl) (by assumption) ?_
  refine pf_X3_37 rfl (dG D_X3_forgetAll 15 rfl) (by assumption) ?_
  exact V_vret (dG D_X3_forgetAll 16 rfl) rfl (Nat.le_of_ble_eq_true rfl) (Nat.le_of_ble_eq_true rfl) ⟨rfl, (by simp [forgetS, up, mx]), rfl, rfl⟩
theorem ok_raiseStamps (ht : tok nt t) {s : Int32} : RET g K_X3_raiseStamps 0 0 [va_rf (trO g t), .int s] nt C M o none (raiseS C t.toNatClampNeg s) M o := by
  refine MT_of (by decide +kernel) rfl rfl (Nat.le_of_ble_eq_true rfl) (by simp [cat_rf, cat_int, cat_ref]) (fun h => ?_)
  refine V_aload_nt (dG D_X3_raiseStamps 0 rfl) rfl ?_
  refine V_iload_n (dG D_X3_raiseStamps 1 rfl) rfl ?_
  refine pf_X3_37 rfl (dG D_X3_raiseStamps 2 rfl) (by assumption) ?_
  refine V_aload_nt (dG D_X3_raiseStamps 3 rfl) rfl ?_
  refine V_aload_nt (dG D_X3_raiseStamps 4 rfl) rfl ?_
  refine gf_X3_40 rfl (dG D_X3_raiseStamps 5 rfl) (by assumption) ?_
  refine V_iload_n (dG D_X3_raiseStamps 6 rfl) rfl ?_
  refine V_max w_558 (dG D_X3_raiseStamps 7 rfl) ⟨(Nat.le_of_ble_eq_true rfl), (by first | exact Nat.le_of_ble_eq_true rfl | (simp only [List.map, List.sum, cat_rf, cat_int, cat_ref]; exact Nat.le_of_ble_eq_true rfl))⟩ ⟨(Nat.le_of_ble_eq_true rfl), (Nat.le_of_ble_eq_true rfl)⟩ ?_
  refine pf_X3_40 rfl (dG D_X3_raiseStamps 8 rfl) (by assumption) ?_
  exact V_vret (dG D_X3_raiseStamps 9 rfl) rfl (Nat.le_of_ble_eq_true rfl) (Nat.le_of_ble_eq_true rfl) ⟨rfl, rfl, rfl, rfl⟩
end B2
