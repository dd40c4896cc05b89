/-! class: deciding one that is staged -/
def HH (C : St) (n : Nat) : Prop := ∃ c : Nat, C 26 0 = nI c ∧ c + n ≤ 1280 ∧ c ≤ cap C ∧ cap C = capv C ∧ 32 ≤ cap C ∧ cap C ≤ 2560
theorem HH.skip {C : St} {n : Nat} (h : HH C (n + 1)) : HH C n := by
  obtain ⟨c, h1, h2, h3⟩ := h
  exact ⟨c, h1, by omega, h3⟩
theorem HH_up {C : St} {n v i : Nat} {x : Int32} (h : HH C n) (h1 : 26 ≠ v) (h2 : 27 ≠ v) (h3 : 34 ≠ v) : HH (up C v i x) n := by
  obtain ⟨c, q1, q2, q3, q4, q5, q6⟩ := h
  have e1 : cap (up C v i x) = cap C := by unfold cap; rw [up_row h2]
  have e2 : capv (up C v i x) = capv C := by unfold capv; rw [up_row h3]
  exact ⟨c, by rw [up_row h1]; exact q1, q2, by rw [e1]; exact q3, by rw [e1, e2]; exact q4, by rw [e1]; exact q5, by rw [e1]; exact q6⟩
theorem HH.add {C : St} {n : Nat} {st key v : Int32} (h : HH C (n + 1)) : HH (addS C st key v) n := by
  obtain ⟨c, q1, q2, q3, q4, q5, q6⟩ := h
  have e1 := cap_grC q1 q3 (by omega)
  have e2 := capv_grC q1 q3 q4 (by omega)
  refine ⟨c + 1, ?_, by omega, ?_, ?_, ?_, ?_⟩
  · show up (inS (32 * st + key) v (cn C) (grC C)) 26 0 (C 26 0 + 1) 26 0 = _
    rw [up_eq, q1, nI_1]
  · rw [cap_addS, e1]; split <;> omega
  · rw [cap_addS, capv_addS, e1, e2]
  · rw [cap_addS, e1]; split <;> omega
  · rw [cap_addS, e1]; split <;> omega
theorem cap_add_le {C : St} {n : Nat} {st key v : Int32} (h : HH C n) : cap C ≤ cap (addS C st key v) := by
  obtain ⟨c, q1, q2, q3, q4, q5, q6⟩ := h
  rw [cap_addS, cap_grC q1 q3 (by omega)]
  split <;> omega
theorem cn_add {C : St} {n c : Nat} {st key v : Int32} (h : C 26 0 = nI c) : addS C st key v 26 0 = nI (c + 1) := by
  show up (inS (32 * st + key) v (cn C) (grC C)) 26 0 (C 26 0 + 1) 26 0 = _
  rw [up_eq, h, nI_1]
def ds1 (t i : Nat) (C : St) : St := addS (up C 6 i (-1)) (up C 6 i (-1) 17 t) (nI i) (up C 6 i (-1) (51 + 3 * t) i)
def dsL (t : Nat) : Nat → Nat → St → St
  | 0, _, C => C
  | n + 1, i, C => dsL t n (i + 1) (if bI (bt (C 21 t) i) = 0 then C else ds1 t i C)
theorem ds1_row {t i w : Nat} {C : St} (h6 : w ≠ 6) (h0 : w ≠ 26) (h1 : w ≠ 27) (h2 : w ≠ 28) (h3 : w ≠ 34) (h4 : w ≠ 29) : ds1 t i C w = C w := by
  unfold ds1
  rw [addS_row h0 h1 h2 h3 h4, up_row h6]
theorem HH.ds1 {C : St} {n t i : Nat} (h : HH C (n + 1)) : HH (ds1 t i C) n := (HH_up h (by decide) (by decide) (by decide)).add
theorem cap_ds1 {C : St} {n t i : Nat} (h : HH C n) : cap C ≤ cap (ds1 t i C) := by
  have e : cap (up C 6 i (-1)) = cap C := by unfold cap; rw [up_row (by decide)]
  have h1 := cap_add_le (st := up C 6 i (-1) 17 t) (key := nI i) (v := up C 6 i (-1) (51 + 3 * t) i) (HH_up (v := 6) (i := i) (x := -1) h (by decide) (by decide) (by decide))
  rw [e] at h1
  exact h1
theorem dsL_row {t w : Nat} (h6 : w ≠ 6) (h0 : w ≠ 26) (h1 : w ≠ 27) (h2 : w ≠ 28) (h3 : w ≠ 34) (h4 : w ≠ 29) : ∀ {n i : Nat} {C : St}, dsL t n i C w = C w
  | 0, _, _ => rfl
  | n + 1, i, C => by
    unfold dsL
    rw [dsL_row h6 h0 h1 h2 h3 h4]
    split
    · rfl
    · exact ds1_row h6 h0 h1 h2 h3 h4
theorem dsL_HH {t : Nat} : ∀ {n i : Nat} {C : St}, HH C n → HH (dsL t n i C) 0 ∧ cap C ≤ cap (dsL t n i C)
  | 0, _, _, h => ⟨h, Nat.le_refl _⟩
  | n + 1, i, C, h => by
    unfold dsL
    split
    · exact dsL_HH h.skip
    · have h1 := dsL_HH (t := t) (i := i + 1) (h.ds1 (t := t) (i := i))
      exact ⟨h1.1, Nat.le_trans (cap_ds1 h) h1.2⟩
theorem dsL_26 {t : Nat} : ∀ {n i : Nat} {C : St} {c : Nat}, C 26 0 = nI c → ∃ c', dsL t n i C 26 0 = nI c' ∧ c' ≤ c + n
  | 0, _, _, c, h => ⟨c, h, Nat.le_refl _⟩
  | n + 1, i, C, c, h => by
    unfold dsL
    split
    · obtain ⟨c', h1, h2⟩ := dsL_26 (t := t) (n := n) (i := i + 1) h
      exact ⟨c', h1, by omega⟩
    · obtain ⟨c', h1, h2⟩ := dsL_26 (t := t) (n := n) (i := i + 1) (C := ds1 t i C) (c := c + 1) (cn_add (n := 0) (by rw [up_row (by decide)]; exact h))
      exact ⟨c', h1, by omega⟩
theorem dsL_6 {t k : Nat} : ∀ {n i : Nat} {C : St}, dsL t n i C 6 k = C 6 k ∨ dsL t n i C 6 k = -1
  | 0, _, _ => Or.inl rfl
  | n + 1, i, C => by
    unfold dsL
    split
    · exact dsL_6
    · rcases dsL_6 (t := t) (k := k) (n := n) (i := i + 1) (C := ds1 t i C) with h | h
      · rw [h]
        have e : ds1 t i C 6 k = up C 6 i (-1) 6 k := by unfold ds1; rw [addS_row (by decide) (by decide) (by decide) (by decide) (by decide)]
        rw [e]
        by_cases q : k = i
        · subst q; rw [up_eq]; exact Or.inr rfl
        · rw [up_ne (Or.inr q)]; exact Or.inl rfl
      · exact Or.inr h
theorem acS_row {t : Int32} {w : Nat} (hw : w ≠ 30) : ∀ {p : Nat} {C : St}, acS t p C w = C w
  | 0, C => up_row hw
  | p + 1, C => by
    unfold acS
    split
    · exact up_row hw
    · rw [acS_row hw, up_row hw]
theorem acS_hi {t : Int32} : ∀ {p q : Nat} {C : St}, p < q → acS t p C 30 q = C 30 q
  | 0, q, C, h => up_ne (Or.inr (by omega))
  | p + 1, q, C, h => by
    unfold acS
    split
    · exact up_ne (Or.inr (by omega))
    · rw [acS_hi (by omega), up_ne (Or.inr (by omega))]
theorem acS_tok {nt : Nat} {t : Int32} (ht : tok nt t) : ∀ {p : Nat} {C : St}, (∀ q, q < p → tok nt (C 30 q)) → ∀ q, q < p + 1 → tok nt (acS t p C 30 q)
  | 0, C, _, q, hq => by
    have e : q = 0 := by omega
    subst e
    unfold acS
    rw [up_eq]
    exact ht
  | p + 1, C, h, q, hq => by
    unfold acS
    split
    · by_cases e : q = p + 1
      · subst e; rw [up_eq]; exact ht
      · rw [up_ne (Or.inr e)]; exact h q (by omega)
    · by_cases e : q = p + 1
      · subst e
        rw [acS_hi (by omega), up_eq]
        exact h p (by omega)
      · refine acS_tok ht (fun q2 h2 => ?_) q (by omega)
        rw [up_ne (Or.inr (by omega))]
        exact h q2 (by omega)
def dsC (C : St) (t : Int32) : St := addCoS (up C 15 t.toNatClampNeg 2) (km C) t
def decS (C : St) (t : Int32) : St := if haS C t 32 0 = 0 then up C 15 t.toNatClampNeg 3 else dsL t.toNatClampNeg 32 0 (dsC C t)
theorem addCoS_row {C : St} {k w : Nat} {t : Int32} (h0 : w ≠ 30) (h1 : w ≠ 31) : addCoS C k t w = C w := by
  unfold addCoS
  split
  · rw [up_row h1, acS_row h0]
  · rfl
theorem dsC_row {C : St} {t : Int32} {w : Nat} (h0 : w ≠ 30) (h1 : w ≠ 31) (h2 : w ≠ 15) : dsC C t w = C w := by
  unfold dsC
  rw [addCoS_row h0 h1, up_row h2]
theorem WF.k40 {nt : Nat} {C : St} {c k i : Nat} (h : WFh nt C c k) (h2 : C 15 i ≠ 2) (hi : i < nt) (hn : nt ≤ 40) : k < 40 := by
  have h4 := h.2.2.2.1
  have h5 := ct2_lt h2 hi
  omega
theorem WF.HHc {nt : Nat} {C : St} {t : Int32} (h : WF nt C) (ht : tok nt t) (h2 : C 15 t.toNatClampNeg ≠ 2) : HH (dsC C t) 32 := by
  obtain ⟨c, k, hw⟩ := h.hi
  have hk := WF.k40 hw h2 ht.2 h.n40
  obtain ⟨q1, q2, q3, q4, q5, q6, q7, q8, q9⟩ := hw
  have e1 : cap (dsC C t) = cap C := by unfold cap; rw [dsC_row (by decide) (by decide) (by decide)]
  have e2 : capv (dsC C t) = capv C := by unfold capv; rw [dsC_row (by decide) (by decide) (by decide)]
  exact ⟨c, by rw [dsC_row (by decide) (by decide) (by decide)]; exact q1, by omega, by rw [e1]; exact q5, by rw [e1, e2]; exact q6, by rw [e1]; exact q7, by rw [e1]; exact q8⟩
theorem cap_decS {nt : Nat} {C : St} {t : Int32} (h : WF nt C) (ht : tok nt t) (h2 : C 15 t.toNatClampNeg ≠ 2) : cap C ≤ cap (decS C t) := by
  unfold decS
  split
  · exact Nat.le_of_eq (by unfold cap; rw [up_row (by decide)])
  · have h1 := (dsL_HH (t := t.toNatClampNeg) (i := 0) (h.HHc ht h2)).2
    have e1 : cap (dsC C t) = cap C := by unfold cap; rw [dsC_row (by decide) (by decide) (by decide)]
    omega
theorem WF_dec {nt : Nat} {C : St} {t : Int32} (h : WF nt C) (ht : tok nt t) (h2 : C 15 t.toNatClampNeg ≠ 2) : WF nt (decS C t) := by
  unfold decS
  split
  · exact WF_up15 h h2 (by decide)
  · obtain ⟨c, k, hw⟩ := h.hi
    have hk := WF.k40 hw h2 ht.2 h.n40
    have hH := h.HHc ht h2
    obtain ⟨q1, q2, q3, q4, q5, q6, q7, q8, q9⟩ := hw
    have hkm : km C = k := by unfold km; rw [q2, nI_clamp (by omega)]
    have hr : ∀ {w : Nat}, w ≠ 6 → w ≠ 26 → w ≠ 27 → w ≠ 28 → w ≠ 34 → w ≠ 29 → w ≠ 30 → w ≠ 31 → w ≠ 15 → dsL t.toNatClampNeg 32 0 (dsC C t) w = C w := fun a1 a2 a3 a4 a5 a6 a7 a8 a9 => by rw [dsL_row a1 a2 a3 a4 a5 a6, dsC_row a7 a8 a9]
    obtain ⟨c', z1, z2⟩ := dsL_26 (t := t.toNatClampNeg) (n := 32) (i := 0) (C := dsC C t) (c := c) (by rw [dsC_row (by decide) (by decide) (by decide)]; exact q1)
    obtain ⟨⟨c2, y1, y2, y3, y4, y5, y6⟩, -⟩ := dsL_HH (t := t.toNatClampNeg) (i := 0) hH
    have hc2 : c2 = c' := by
      have e := y1.symm.trans z1
      exact (nI_eq (by omega) (by omega)).mp e
    subst hc2
    have e31 : dsC C t 31 0 = nI (k + 1) := by
      unfold dsC addCoS
      rw [if_pos (by rw [up_row (by decide), q2]; exact nI_lt (b := 40) hk (by decide)), up_eq, acS_row (by decide), up_row (by decide), q2, nI_1]
    refine ⟨h.n40, ?_, ?_, ?_, ?_, ?_, ?_, c2, k + 1, y1, ?_, by omega, ?_, y3, y4, y5, y6, ?_⟩
    · rw [hr (by decide) (by decide) (by decide) (by decide) (by decide) (by decide) (by decide) (by decide) (by decide)]; exact h.b
    · rw [hr (by decide) (by decide) (by decide) (by decide) (by decide) (by decide) (by decide) (by decide) (by decide)]; exact h.x33
    · rw [hr (by decide) (by decide) (by decide) (by decide) (by decide) (by decide) (by decide) (by decide) (by decide)]; exact h.aw
    · intro j hj
      rcases dsL_6 (t := t.toNatClampNeg) (k := j) (n := 32) (i := 0) (C := dsC C t) with e | e
      · rw [e, dsC_row (by decide) (by decide) (by decide)]; exact h.wo j hj
      · rw [e]; exact trv_null
    · rw [hr (by decide) (by decide) (by decide) (by decide) (by decide) (by decide) (by decide) (by decide) (by decide)]; exact h.wn
    · rw [hr (by decide) (by decide) (by decide) (by decide) (by decide) (by decide) (by decide) (by decide) (by decide)]; exact h.wh
    · rw [dsL_row (by decide) (by decide) (by decide) (by decide) (by decide) (by decide)]; exact e31
    · have e15 : dsL t.toNatClampNeg 32 0 (dsC C t) 15 = up C 15 t.toNatClampNeg 2 15 := by
        rw [dsL_row (by decide) (by decide) (by decide) (by decide) (by decide) (by decide)]
        unfold dsC
        rw [addCoS_row (by decide) (by decide)]
      rw [ct2_congr e15, ct2_set h2 ht.2, q4]
    · intro q hq
      rw [dsL_row (by decide) (by decide) (by decide) (by decide) (by decide) (by decide)]
      unfold dsC addCoS
      rw [if_pos (by rw [up_row (by decide), q2]; exact nI_lt (b := 40) hk (by decide)), up_row (by decide), hkm]
      refine acS_tok ht (fun q2 hq2 => ?_) q hq
      rw [up_row (by decide)]
      exact q9 q2 hq2
section B7
variable {g : GT} {nt : Nat} {C M : St} {o : Int64} {t : Int32}
theorem lp_decide (ht : tok nt t) {mc ms c0 : Nat} : ∀ (n : Nat) (i : Nat) (C : St) (_ : i + n = 32) (_ : HH C n) (_ : c0 ≤ cap C) (_ : cap (dsL t.toNatClampNeg n i C) - c0 ≤ mc) (_ : 4 * (cap (dsL t.toNatClampNeg n i C) - c0) ≤ ms) (h : Nat × Nat), V g K_X4_decideStaged (kR K_X4_decideStaged mc ms) (qM g mc ms nt (fun v9 C9 M9 o9 => v9 = none ∧ C9 = dsL t.toNatClampNeg n i C ∧ M9 = M ∧ o9 = o) (fun _ _ _ _ => False)) (cap C - c0) (4 * (cap C - c0)) nt h C M o 29 [(0, .ref (ad g 0)), (1, va_rf (trO g t)), (2, .int (nI i))] [] := by
  intro n
  induction n with
  | zero =>
    intro i C hi hH h0 hk hn h
    refine V_iload_n (dG D_X4_decideStaged 17 rfl) rfl ?_
    refine V_bipush (v := 32) (dG D_X4_decideStaged 18 rfl) (by decide) ?_
    refine V_icmp_ge (tgt := 77) (dG D_X4_decideStaged 19 rfl) (by decide) (fun c_32 => ?_) (fun c_32 => absurd (l32 (by omega)) c_32)
    exact V_vret (dG D_X4_decideStaged 42 rfl) rfl hk hn ⟨rfl, rfl, rfl, rfl⟩
  | succ n ih =>
    intro i C hi hH h0 hk hn h
    have hm := (dsL_HH (t := t.toNatClampNeg) (i := i) hH).2
    refine V_iload_n (dG D_X4_decideStaged 17 rfl) rfl ?_
    refine V_bipush (v := 32) (dG D_X4_decideStaged 18 rfl) (by decide) ?_
    refine V_icmp_ge (tgt := 77) (dG D_X4_decideStaged 19 rfl) (by decide) (fun c_32 => absurd c_32 (g32 (by omega))) (fun c_32 => ?_)
    refine V_aload_nt (dG D_X4_decideStaged 20 rfl) rfl ?_
    refine V_iload_n (dG D_X4_decideStaged 21 rfl) rfl ?_
    refine R_vt1 (by assumption) (ok_writes ht (show i < 32 by omega)) lk_X4_274 (dG D_X4_decideStaged 22 rfl) ⟨Nat.le_of_ble_eq_true rfl, Nat.le_of_ble_eq_true rfl⟩ ⟨show cap C - c0 + 0 ≤ mc by omega, show 4 * (cap C - c0) + 0 ≤ ms by omega⟩ (by first | exact Nat.le_of_ble_eq_true rfl | simp [cat_rf, cat_int, cat_ref]) (fun h => ?_)
    refine V_if_eq (tgt := 71) (dG D_X4_decideStaged 23 rfl) (by decide) (fun c_40 => ?_) (fun c_40 => ?_)
    · rw [show dsL t.toNatClampNeg (n + 1) i C = dsL t.toNatClampNeg n (i + 1) C from by simp [dsL, c_40]] at hk hn ⊢
      refine V_iinc (dG D_X4_decideStaged 40 rfl) rfl (inc1 _) (Nat.le_of_ble_eq_true rfl) ?_
      refine V_goto (tgt := 29) (dG D_X4_decideStaged 41 rfl) (by decide) ?_
      exact ih (i + 1) C (by omega) hH.skip h0 hk hn h
    · rw [show dsL t.toNatClampNeg (n + 1) i C = dsL t.toNatClampNeg n (i + 1) (ds1 t.toNatClampNeg i C) from by simp [dsL, c_40]] at hk hn ⊢
      have hm1 := cap_ds1 (t := t.toNatClampNeg) (i := i) hH
      have hm2 := (dsL_HH (t := t.toNatClampNeg) (i := i + 1) (hH.ds1 (t := t.toNatClampNeg) (i := i))).2
      obtain ⟨c, q1, q2, q3, q4, q5, q6⟩ := HH_up (v := 6) (i := i) (x := -1) hH (by decide) (by decide) (by decide)
      refine V_aload_n (dG D_X4_decideStaged 24 rfl) rfl ?_
      refine gf_X4_17 rfl (dG D_X4_decideStaged 25 rfl) ?_
      refine V_iload_n (dG D_X4_decideStaged 26 rfl) rfl ?_
      refine aald_cells (dG D_X4_decideStaged 27 rfl) (inr_nI (by omega) (by decide)) ?_
      refine V_nullt (dG D_X4_decideStaged 28 rfl) ?_
      refine pf_X4_82 rfl (dG D_X4_decideStaged 29 rfl) (by first | assumption | omega) ?_
      refine V_aload_n (dG D_X4_decideStaged 30 rfl) rfl ?_
      refine gf_X4_30 rfl (dG D_X4_decideStaged 31 rfl) ?_
      refine V_aload_nt (dG D_X4_decideStaged 32 rfl) rfl ?_
      refine gf_X4_163 rfl (dG D_X4_decideStaged 33 rfl) (by assumption) ?_
      refine V_iload_n (dG D_X4_decideStaged 34 rfl) rfl ?_
      refine V_aload_nt (dG D_X4_decideStaged 35 rfl) rfl ?_
      refine gf_X4_277 rfl (dG D_X4_decideStaged 36 rfl) (by assumption) ?_
      refine V_iload_n (dG D_X4_decideStaged 37 rfl) rfl ?_
      refine iald_t1 (by assumption) (dG D_X4_decideStaged 38 rfl) (inr_nI (by omega) (by decide)) ?_
      refine R_nb3 (ok_addChange q1 q3 q4 (by omega) q5) lk_X4_320 (dG D_X4_decideStaged 39 rfl) rcv_1 ⟨Nat.le_of_ble_eq_true rfl, Nat.le_of_ble_eq_true rfl⟩ ⟨show cap C - c0 + (cap (ds1 t.toNatClampNeg i C) - cap C) ≤ mc by omega, show 4 * (cap C - c0) + 4 * (cap (ds1 t.toNatClampNeg i C) - cap C) ≤ ms by omega⟩ (by first | exact Nat.le_of_ble_eq_true rfl | simp [cat_rf, cat_int, cat_ref]) (fun h => ?_)
      refine V_mono (kb' := cap (ds1 t.toNatClampNeg i C) - c0) (nb' := 4 * (cap (ds1 t.toNatClampNeg i C) - c0)) (show cap C - c0 + (cap (ds1 t.toNatClampNeg i C) - cap C) ≤ _ by omega) (show 4 * (cap C - c0) + 4 * (cap (ds1 t.toNatClampNeg i C) - cap C) ≤ _ by omega) ?_
      refine V_iinc (dG D_X4_decideStaged 40 rfl) rfl (inc1 _) (Nat.le_of_ble_eq_true rfl) ?_
      refine V_goto (tgt := 29) (dG D_X4_decideStaged 41 rfl) (by decide) ?_
      exact ih (i + 1) (ds1 t.toNatClampNeg i C) (by omega) hH.ds1 (by omega) hk hn h
theorem ok_decideStaged (ht : tok nt t) (hW : WF nt C) (h2 : C 15 t.toNatClampNeg ≠ 2) : RET g K_X4_decideStaged (cap (decS C t) - cap C) (4 * (cap (decS C t) - cap C)) [.ref (ad g 0), va_rf (trO g t)] nt C M o none (decS C t) M o := by
  refine MT_of (by decide +kernel) rfl rfl (Nat.le_of_ble_eq_true rfl) (by simp [cat_rf, cat_int, cat_ref]) (fun h => ?_)
  have hH := hW.HHc ht h2
  obtain ⟨c, k, hw⟩ := hW.hi
  have hk40 := WF.k40 hw h2 ht.2 hW.n40
  obtain ⟨w1, w2, w3, w4, w5, w6, w7, w8, w9⟩ := hw
  have hkm : km C = k := by unfold km; rw [w2, nI_clamp (by omega)]
  refine V_aload_n (dG D_X4_decideStaged 0 rfl) rfl ?_
  refine V_aload_nt (dG D_X4_decideStaged 1 rfl) rfl ?_
  refine R_vb1 (ok_hasAllIntents ht hW.wo) lk_X4_182 (dG D_X4_decideStaged 2 rfl) rcv_4 ⟨Nat.le_of_ble_eq_true rfl, Nat.le_of_ble_eq_true rfl⟩ ⟨Nat.zero_le _, Nat.zero_le _⟩ (by first | exact Nat.le_of_ble_eq_true rfl | simp [cat_rf, cat_int, cat_ref]) (fun h => ?_)
  refine V_if_ne (tgt := 14) (dG D_X4_decideStaged 3 rfl) (by decide) (fun c_5 => ?_) (fun c_5 => ?_)
  · rw [show decS C t = dsL t.toNatClampNeg 32 0 (dsC C t) from by simp [decS, c_5]]
    refine V_aload_nt (dG D_X4_decideStaged 8 rfl) rfl ?_
    refine V_iconst (v := 2) (dG D_X4_decideStaged 9 rfl) (by decide) ?_
    refine pf_X4_147 rfl (dG D_X4_decideStaged 10 rfl) (by assumption) ?_
    refine V_aload_n (dG D_X4_decideStaged 11 rfl) rfl ?_
    refine gf_X4_30 rfl (dG D_X4_decideStaged 12 rfl) ?_
    refine V_aload_nt (dG D_X4_decideStaged 13 rfl) rfl ?_
    refine R_nb1 (ok_addCommitted ht (k := k) (by omega) (show C 31 0 = nI k from w2) (fun q hq => show tok nt (C 30 q) from w9 q hq)) lk_X4_317 (dG D_X4_decideStaged 14 rfl) rcv_1 ⟨Nat.le_of_ble_eq_true rfl, Nat.le_of_ble_eq_true rfl⟩ ⟨Nat.zero_le _, Nat.zero_le _⟩ (by first | exact Nat.le_of_ble_eq_true rfl | simp [cat_rf, cat_int, cat_ref]) (fun h => ?_)
    refine V_iconst (v := 0) (dG D_X4_decideStaged 15 rfl) (by decide) ?_
    refine V_istore_n (dG D_X4_decideStaged 16 rfl) (Nat.le_of_ble_eq_true rfl) ?_
    have e9 : addCoS (up C 15 t.toNatClampNeg 2) k t = dsC C t := by unfold dsC; rw [hkm]
    rw [e9]
    have e1 : cap (dsC C t) = cap C := by unfold cap; rw [dsC_row (by decide) (by decide) (by decide)]
    have hmono := (dsL_HH (t := t.toNatClampNeg) (i := 0) hH).2
    refine V_mono (kb' := cap (dsC C t) - cap C) (nb' := 4 * (cap (dsC C t) - cap C)) (Nat.zero_le _) (Nat.zero_le _) ?_
    exact lp_decide ht 32 0 (dsC C t) (by omega) hH (by omega) (Nat.le_refl _) (Nat.le_refl _) h
  · rw [show decS C t = up C 15 t.toNatClampNeg 3 from by simp [decS, c_5]]
    refine V_aload_nt (dG D_X4_decideStaged 4 rfl) rfl ?_
    refine V_iconst (v := 3) (dG D_X4_decideStaged 5 rfl) (by decide) ?_
    refine pf_X4_147 rfl (dG D_X4_decideStaged 6 rfl) (by assumption) ?_
    exact V_vret (dG D_X4_decideStaged 7 rfl) rfl (Nat.zero_le _) (Nat.zero_le _) ⟨rfl, rfl, rfl, rfl⟩
end B7
