/-! what holds of the class's cells in every run, and the history's changes -/
def ct2 (C : St) : Nat → Nat
  | 0 => 0
  | n + 1 => ct2 C n + (if C 15 n = 2 then 1 else 0)
theorem ct2_le {C : St} : ∀ {n : Nat}, ct2 C n ≤ n
  | 0 => Nat.le_refl 0
  | n + 1 => by
    have := ct2_le (C := C) (n := n)
    unfold ct2
    split <;> omega
theorem ct2_congr {C C' : St} (h : C' 15 = C 15) : ∀ {n : Nat}, ct2 C' n = ct2 C n
  | 0 => rfl
  | n + 1 => by
    unfold ct2
    rw [ct2_congr h, h]
theorem ct2_out {C : St} {x : Int32} {i : Nat} : ∀ {n : Nat}, n ≤ i → ct2 (up C 15 i x) n = ct2 C n
  | 0, _ => rfl
  | n + 1, h => by
    unfold ct2
    rw [ct2_out (by omega), up_ne (Or.inr (by omega))]
theorem ct2_set {C : St} {i : Nat} (h2 : C 15 i ≠ 2) : ∀ {n : Nat}, i < n → ct2 (up C 15 i 2) n = ct2 C n + 1
  | 0, h => absurd h (Nat.not_lt_zero i)
  | n + 1, h => by
    unfold ct2
    by_cases e : i = n
    · subst e
      rw [ct2_out (Nat.le_refl i), up_eq, if_pos rfl, if_neg h2]
    · rw [ct2_set h2 (by omega), up_ne (Or.inr (by omega))]
      omega
theorem ct2_keep {C : St} {x : Int32} {i : Nat} (h2 : C 15 i ≠ 2) (hx : x ≠ 2) : ∀ {n : Nat}, ct2 (up C 15 i x) n = ct2 C n
  | 0 => rfl
  | n + 1 => by
    unfold ct2
    rw [ct2_keep h2 hx]
    by_cases e : n = i
    · subst e
      rw [up_eq, if_neg hx, if_neg h2]
    · rw [up_ne (Or.inr e)]
theorem ct2_lt {C : St} {i : Nat} (h2 : C 15 i ≠ 2) {n : Nat} (h : i < n) : ct2 C n < n := by
  have h1 := ct2_set h2 h
  have h3 := ct2_le (C := up C 15 i 2) (n := n)
  omega
/-- the history: c changes, k committed -/
def WFh (nt : Nat) (C : St) (c k : Nat) : Prop := C 26 0 = nI c ∧ C 31 0 = nI k ∧ c ≤ 32 * k ∧ k = ct2 C nt ∧ c ≤ cap C ∧ cap C = capv C ∧ 32 ≤ cap C ∧ cap C ≤ 2560 ∧ ∀ q, q < k → tok nt (C 30 q)
def WF (nt : Nat) (C : St) : Prop := nt ≤ 40 ∧ C 10 0 = nI nt ∧ (∀ i, i < nt → C 33 i = nI i) ∧ (∀ i, i < nt → trv nt (C 19 i)) ∧ (∀ k, k < 32 → trv nt (C 6 k)) ∧ (∀ k, k < 32 → vp_in (C 4 k) 4) ∧ (∀ i, i < nt → vp_in (C 12 i) 4) ∧ ∃ c k, WFh nt C c k
theorem WF.n40 {nt : Nat} {C : St} (h : WF nt C) : nt ≤ 40 := h.1
theorem WF.b {nt : Nat} {C : St} (h : WF nt C) : C 10 0 = nI nt := h.2.1
theorem WF.x33 {nt : Nat} {C : St} (h : WF nt C) : ∀ i, i < nt → C 33 i = nI i := h.2.2.1
theorem WF.aw {nt : Nat} {C : St} (h : WF nt C) : ∀ i, i < nt → trv nt (C 19 i) := h.2.2.2.1
theorem WF.wo {nt : Nat} {C : St} (h : WF nt C) : ∀ k, k < 32 → trv nt (C 6 k) := h.2.2.2.2.1
theorem WF.wn {nt : Nat} {C : St} (h : WF nt C) : ∀ k, k < 32 → vp_in (C 4 k) 4 := h.2.2.2.2.2.1
theorem WF.wh {nt : Nat} {C : St} (h : WF nt C) : ∀ i, i < nt → vp_in (C 12 i) 4 := h.2.2.2.2.2.2.1
theorem WF.hi {nt : Nat} {C : St} (h : WF nt C) : ∃ c k, WFh nt C c k := h.2.2.2.2.2.2.2
theorem tok_nI {nt i : Nat} (h : i < nt) (hn : nt ≤ 40) : tok nt (nI i) := by
  refine ⟨nI_pos (by omega), ?_⟩
  rw [nI_clamp (by omega)]
  exact h
theorem WF.t33 {nt : Nat} {C : St} (h : WF nt C) : ∀ i, i < nt → tok nt (C 33 i) := fun i hi => by rw [h.x33 i hi]; exact tok_nI hi h.n40
theorem WF.congr {nt : Nat} {C C' : St} (h : WF nt C) (e4 : C' 4 = C 4) (e6 : C' 6 = C 6) (e10 : C' 10 = C 10) (e12 : C' 12 = C 12) (e15 : C' 15 = C 15) (e19 : C' 19 = C 19) (e26 : C' 26 = C 26) (e27 : C' 27 = C 27) (e30 : C' 30 = C 30) (e31 : C' 31 = C 31) (e33 : C' 33 = C 33) (e34 : C' 34 = C 34) : WF nt C' := by
  obtain ⟨h1, h2, h3, h4, h5, h6, h7, c, k, h8⟩ := h
  refine ⟨h1, by rw [e10]; exact h2, by rw [e33]; exact h3, by rw [e19]; exact h4, by rw [e6]; exact h5, by rw [e4]; exact h6, by rw [e12]; exact h7, c, k, ?_⟩
  obtain ⟨q1, q2, q3, q4, q5, q6, q7, q8, q9⟩ := h8
  refine ⟨by rw [e26]; exact q1, by rw [e31]; exact q2, q3, by rw [ct2_congr e15]; exact q4, ?_, ?_, ?_, ?_, by rw [e30]; exact q9⟩
  · unfold cap; rw [e27]; exact q5
  · unfold cap capv; rw [e27, e34]; exact q6
  · unfold cap; rw [e27]; exact q7
  · unfold cap; rw [e27]; exact q8
theorem WF_up {nt : Nat} {C : St} (h : WF nt C) {v i : Nat} {x : Int32} (hv : v ≠ 4 ∧ v ≠ 6 ∧ v ≠ 10 ∧ v ≠ 12 ∧ v ≠ 15 ∧ v ≠ 19 ∧ v ≠ 26 ∧ v ≠ 27 ∧ v ≠ 30 ∧ v ≠ 31 ∧ v ≠ 33 ∧ v ≠ 34) : WF nt (up C v i x) := h.congr (up_row (fun q => hv.1 q.symm)) (up_row (fun q => hv.2.1 q.symm)) (up_row (fun q => hv.2.2.1 q.symm)) (up_row (fun q => hv.2.2.2.1 q.symm)) (up_row (fun q => hv.2.2.2.2.1 q.symm)) (up_row (fun q => hv.2.2.2.2.2.1 q.symm)) (up_row (fun q => hv.2.2.2.2.2.2.1 q.symm)) (up_row (fun q => hv.2.2.2.2.2.2.2.1 q.symm)) (up_row (fun q => hv.2.2.2.2.2.2.2.2.1 q.symm)) (up_row (fun q => hv.2.2.2.2.2.2.2.2.2.1 q.symm)) (up_row (fun q => hv.2.2.2.2.2.2.2.2.2.2.1 q.symm)) (up_row (fun q => hv.2.2.2.2.2.2.2.2.2.2.2 q.symm))
theorem WF_up6 {nt : Nat} {C : St} (h : WF nt C) {i : Nat} {x : Int32} (hx : trv nt x) : WF nt (up C 6 i x) := by
  obtain ⟨h1, h2, h3, h4, h5, h6, h7, c, k, q1, q2, q3, q4, q5, q6, q7, q8, q9⟩ := h
  refine ⟨h1, h2, h3, ?_, ?_, h6, h7, c, k, q1, q2, q3, ?_, q5, q6, q7, q8, q9⟩
  · intro j hj; rw [up_ne (Or.inl (by decide))]; exact h4 j hj
  · intro j hj
    by_cases e : j = i
    · subst e; rw [up_eq]; exact hx
    · rw [up_ne (Or.inr e)]; exact h5 j hj
  · rw [ct2_congr (up_row (by decide))]; exact q4
theorem WF_up19 {nt : Nat} {C : St} (h : WF nt C) {i : Nat} {x : Int32} (hx : trv nt x) : WF nt (up C 19 i x) := by
  obtain ⟨h1, h2, h3, h4, h5, h6, h7, c, k, q1, q2, q3, q4, q5, q6, q7, q8, q9⟩ := h
  refine ⟨h1, h2, h3, ?_, ?_, h6, h7, c, k, q1, q2, q3, ?_, q5, q6, q7, q8, q9⟩
  · intro j hj
    by_cases e : j = i
    · subst e; rw [up_eq]; exact hx
    · rw [up_ne (Or.inr e)]; exact h4 j hj
  · intro j hj; rw [up_ne (Or.inl (by decide))]; exact h5 j hj
  · rw [ct2_congr (up_row (by decide))]; exact q4
theorem WF_up15 {nt : Nat} {C : St} (h : WF nt C) {i : Nat} {x : Int32} (h2 : C 15 i ≠ 2) (hx : x ≠ 2) : WF nt (up C 15 i x) := by
  obtain ⟨h1, h3, h4, h5, h6, h7, h8, c, k, q1, q2, q3, q4, q5, q6, q7, q8, q9⟩ := h
  exact ⟨h1, h3, h4, h5, h6, h7, h8, c, k, q1, q2, q3, by rw [ct2_keep h2 hx]; exact q4, q5, q6, q7, q8, q9⟩
theorem trv_null {nt : Nat} : trv nt (-1) := Or.inl rfl
-- the changes
def cn (C : St) : Nat := (C 26 0).toNatClampNeg
def km (C : St) : Nat := (C 31 0).toNatClampNeg
def grC (C : St) : St := if C 26 0 = nI (cap C) then growC6 (growC5 C (2 * cap C)) (2 * cap C) else C
theorem grC_row {C : St} {w : Nat} (h1 : w ≠ 27) (h2 : w ≠ 28) (h3 : w ≠ 34) (h4 : w ≠ 29) : grC C w = C w := by
  unfold grC
  split
  · rw [growC6_row h3 h4, growC5_row h1 h2]
  · rfl
def inS (ch v : Int32) : Nat → St → St
  | 0, C => up (up C 28 0 ch) 29 0 v
  | p + 1, C => if C 28 p ≤ ch then up (up C 28 (p + 1) ch) 29 (p + 1) v else inS ch v p (up (up C 28 (p + 1) (C 28 p)) 29 (p + 1) (C 29 p))
theorem inS_row {ch v : Int32} {w : Nat} (h1 : w ≠ 28) (h2 : w ≠ 29) : ∀ {p : Nat} {C : St}, inS ch v p C w = C w
  | 0, C => by unfold inS; rw [up_row h2, up_row h1]
  | p + 1, C => by
    unfold inS
    split
    · rw [up_row h2, up_row h1]
    · rw [inS_row h1 h2, up_row h2, up_row h1]
def addS (C : St) (st key v : Int32) : St := up (inS (32 * st + key) v (cn C) (grC C)) 26 0 (C 26 0 + 1)
theorem addS_row {C : St} {st key v : Int32} {w : Nat} (h0 : w ≠ 26) (h1 : w ≠ 27) (h2 : w ≠ 28) (h3 : w ≠ 34) (h4 : w ≠ 29) : addS C st key v w = C w := by
  unfold addS
  rw [up_row h0, inS_row h2 h4, grC_row h1 h2 h3 h4]
theorem addS_27 {C : St} {st key v : Int32} : addS C st key v 27 = grC C 27 := by
  unfold addS
  rw [up_row (by decide), inS_row (by decide) (by decide)]
theorem addS_34 {C : St} {st key v : Int32} : addS C st key v 34 = grC C 34 := by
  unfold addS
  rw [up_row (by decide), inS_row (by decide) (by decide)]
theorem growC5_27 {C : St} {m : Nat} : growC5 C m 27 0 = nI m := rfl
theorem growC6_34 {C : St} {m : Nat} : growC6 C m 34 0 = nI m := rfl
theorem cap_grC {C : St} {c : Nat} (hcn : C 26 0 = nI c) (hle : c ≤ cap C) (hb : cap C ≤ 100000) : cap (grC C) = if c = cap C then 2 * cap C else cap C := by
  unfold grC
  by_cases e : c = cap C
  · rw [if_pos (by rw [hcn, e]), if_pos e]
    show (growC6 (growC5 C (2 * cap C)) (2 * cap C) 27 0).toNatClampNeg = _
    rw [growC6_row (by decide) (by decide), growC5_27]
    exact nI_clamp (by omega)
  · rw [if_neg (fun q => e ((nI_eq (by omega) (by omega)).mp (hcn.symm.trans q))), if_neg e]
theorem capv_grC {C : St} {c : Nat} (hcn : C 26 0 = nI c) (hle : c ≤ cap C) (hv : cap C = capv C) (hb : cap C ≤ 100000) : capv (grC C) = if c = cap C then 2 * cap C else cap C := by
  unfold grC
  by_cases e : c = cap C
  · rw [if_pos (by rw [hcn, e]), if_pos e]
    show (growC6 (growC5 C (2 * cap C)) (2 * cap C) 34 0).toNatClampNeg = _
    rw [growC6_34]
    exact nI_clamp (by omega)
  · rw [if_neg (fun q => e ((nI_eq (by omega) (by omega)).mp (hcn.symm.trans q))), if_neg e]
    exact hv.symm
theorem cap_addS {C : St} {st key v : Int32} : cap (addS C st key v) = cap (grC C) := by
  unfold cap
  rw [addS_27]
theorem capv_addS {C : St} {st key v : Int32} : capv (addS C st key v) = capv (grC C) := by
  unfold capv
  rw [addS_34]
section B6
variable {g : GT} {nt : Nat} {C M : St} {o : Int64} {t : Int32}
theorem lp_addChange {st key v ch : Int32} {mc ms kb nb : Nat} (hk : kb ≤ mc) (hn : nb ≤ ms) : ∀ (p : Nat) {C : St} (_ : p < cap C) (_ : cap C = capv C) (_ : cap C ≤ 100000) (h : Nat × Nat), V g K_X1_addChange (kR K_X1_addChange mc ms) (qM g mc ms nt (fun v9 C9 M9 o9 => v9 = none ∧ C9 = up (inS ch v p C) 26 0 (inS ch v p C 26 0 + 1) ∧ M9 = M ∧ o9 = o) (fun _ _ _ _ => False)) kb nb nt h C M o 60 [(0, .ref (ad g 4)), (1, .int st), (2, .int key), (3, .int v), (4, .int ch), (5, .int (nI p))] [] := by
  intro p
  induction p with
  | zero =>
    intro C hp hv hcb h
    refine V_iload (dG D_X1_addChange 33 rfl) rfl ?_
    refine V_if_le (tgt := 117) (dG D_X1_addChange 34 rfl) (by decide) (fun c_62 => ?_) (fun c_62 => absurd (by decide) c_62)
    refine V_aload_n (dG D_X1_addChange 65 rfl) rfl ?_
    refine gf_X1_9 rfl (dG D_X1_addChange 66 rfl) ?_
    refine V_iload (dG D_X1_addChange 67 rfl) rfl ?_
    refine V_iload (dG D_X1_addChange 68 rfl) rfl ?_
    refine iast_ch (dG D_X1_addChange 69 rfl) (inr_nI (n := cap C) (j := 0) (by omega) (by omega)) ?_
    refine V_aload_n (dG D_X1_addChange 70 rfl) rfl ?_
    refine gf_X1_15 rfl (dG D_X1_addChange 71 rfl) ?_
    refine V_iload (dG D_X1_addChange 72 rfl) rfl ?_
    refine V_iload_n (dG D_X1_addChange 73 rfl) rfl ?_
    refine iast_va (dG D_X1_addChange 74 rfl) (inr_nI (n := capv C) (j := 0) (by omega) (by omega)) ?_
    refine V_aload_n (dG D_X1_addChange 75 rfl) rfl ?_
    refine V_dup (dG D_X1_addChange 76 rfl) rfl ?_
    refine gf_X1_27 rfl (dG D_X1_addChange 77 rfl) ?_
    refine V_iconst (v := 1) (dG D_X1_addChange 78 rfl) (by decide) ?_
    refine V_iadd (dG D_X1_addChange 79 rfl) ?_
    refine pf_X1_27 rfl (dG D_X1_addChange 80 rfl) ?_
    exact V_vret (dG D_X1_addChange 81 rfl) rfl hk hn ⟨rfl, rfl, rfl, rfl⟩
  | succ p ih =>
    intro C hp hv hcb h
    refine V_iload (dG D_X1_addChange 33 rfl) rfl ?_
    refine V_if_le (tgt := 117) (dG D_X1_addChange 34 rfl) (by decide) (fun c_62 => absurd c_62 (nI_nle (by omega) (by omega))) (fun c_62 => ?_)
    refine V_aload_n (dG D_X1_addChange 35 rfl) rfl ?_
    refine gf_X1_9 rfl (dG D_X1_addChange 36 rfl) ?_
    refine V_iload (dG D_X1_addChange 37 rfl) rfl ?_
    refine V_iconst (v := 1) (dG D_X1_addChange 38 rfl) (by decide) ?_
    refine V_isub (dG D_X1_addChange 39 rfl) ?_
    refine iald_ch (dG D_X1_addChange 40 rfl) (show inr (nI (p + 1) - 1) (cap C) p from inr_pred (by omega) (by omega)) ?_
    refine V_iload (dG D_X1_addChange 41 rfl) rfl ?_
    refine V_icmp_le (tgt := 117) (dG D_X1_addChange 42 rfl) (by decide) (fun c_76 => ?_) (fun c_76 => ?_)
    · skip
      refine V_aload_n (dG D_X1_addChange 65 rfl) rfl ?_
      refine gf_X1_9 rfl (dG D_X1_addChange 66 rfl) ?_
      refine V_iload (dG D_X1_addChange 67 rfl) rfl ?_
      refine V_iload (dG D_X1_addChange 68 rfl) rfl ?_
      refine iast_ch (dG D_X1_addChange 69 rfl) (show inr (nI (p + 1)) (cap C) (p + 1) from inr_nI (by omega) (by omega)) ?_
      refine V_aload_n (dG D_X1_addChange 70 rfl) rfl ?_
      refine gf_X1_15 rfl (dG D_X1_addChange 71 rfl) ?_
      refine V_iload (dG D_X1_addChange 72 rfl) rfl ?_
      refine V_iload_n (dG D_X1_addChange 73 rfl) rfl ?_
      refine iast_va (dG D_X1_addChange 74 rfl) (show inr (nI (p + 1)) (capv C) (p + 1) from inr_nI (by omega) (by omega)) ?_
      refine V_aload_n (dG D_X1_addChange 75 rfl) rfl ?_
      refine V_dup (dG D_X1_addChange 76 rfl) rfl ?_
      refine gf_X1_27 rfl (dG D_X1_addChange 77 rfl) ?_
      refine V_iconst (v := 1) (dG D_X1_addChange 78 rfl) (by decide) ?_
      refine V_iadd (dG D_X1_addChange 79 rfl) ?_
      refine pf_X1_27 rfl (dG D_X1_addChange 80 rfl) ?_
      exact V_vret (dG D_X1_addChange 81 rfl) rfl hk hn ⟨rfl, by rw [show inS ch v (p + 1) C = up (up C 28 (p + 1) ch) 29 (p + 1) v from by simp [inS, c_76]], rfl, rfl⟩
    · skip
      refine V_aload_n (dG D_X1_addChange 43 rfl) rfl ?_
      refine gf_X1_9 rfl (dG D_X1_addChange 44 rfl) ?_
      refine V_iload (dG D_X1_addChange 45 rfl) rfl ?_
      refine V_aload_n (dG D_X1_addChange 46 rfl) rfl ?_
      refine gf_X1_9 rfl (dG D_X1_addChange 47 rfl) ?_
      refine V_iload (dG D_X1_addChange 48 rfl) rfl ?_
      refine V_iconst (v := 1) (dG D_X1_addChange 49 rfl) (by decide) ?_
      refine V_isub (dG D_X1_addChange 50 rfl) ?_
      refine iald_ch (dG D_X1_addChange 51 rfl) (show inr (nI (p + 1) - 1) (cap C) p from inr_pred (by omega) (by omega)) ?_
      refine iast_ch (dG D_X1_addChange 52 rfl) (show inr (nI (p + 1)) (cap C) (p + 1) from inr_nI (by omega) (by omega)) ?_
      refine V_aload_n (dG D_X1_addChange 53 rfl) rfl ?_
      refine gf_X1_15 rfl (dG D_X1_addChange 54 rfl) ?_
      refine V_iload (dG D_X1_addChange 55 rfl) rfl ?_
      refine V_aload_n (dG D_X1_addChange 56 rfl) rfl ?_
      refine gf_X1_15 rfl (dG D_X1_addChange 57 rfl) ?_
      refine V_iload (dG D_X1_addChange 58 rfl) rfl ?_
      refine V_iconst (v := 1) (dG D_X1_addChange 59 rfl) (by decide) ?_
      refine V_isub (dG D_X1_addChange 60 rfl) ?_
      refine iald_va (dG D_X1_addChange 61 rfl) (show inr (nI (p + 1) - 1) (capv C) p from inr_pred (by omega) (by omega)) ?_
      refine iast_va (dG D_X1_addChange 62 rfl) (show inr (nI (p + 1)) (capv C) (p + 1) from inr_nI (by omega) (by omega)) ?_
      refine V_iinc (dG D_X1_addChange 63 rfl) rfl (dec1 _) (Nat.le_of_ble_eq_true rfl) ?_
      refine V_goto (tgt := 60) (dG D_X1_addChange 64 rfl) (by decide) ?_
      rw [show inS ch v (p + 1) C = inS ch v p (up (up C 28 (p + 1) (C 28 p)) 29 (p + 1) (C 29 p)) from by simp [inS, c_76]]
      refine ih ?_ ?_ ?_ h
      · show p < cap C; omega
      · exact hv
      · exact hcb
theorem ok_addChange {c : Nat} {st key v : Int32} (hcn : C 26 0 = nI c) (hle : c ≤ cap C) (hv : cap C = capv C) (hb : cap C ≤ 50000) (h32 : 32 ≤ cap C) : RET g K_X1_addChange (cap (addS C st key v) - cap C) (4 * (cap (addS C st key v) - cap C)) [.ref (ad g 4), .int st, .int key, .int v] nt C M o none (addS C st key v) M o := by
  refine MT_of (by decide +kernel) rfl rfl (Nat.le_of_ble_eq_true rfl) (by simp [cat_rf, cat_int, cat_ref]) (fun h => ?_)
  have hc1 := cap_grC hcn hle (by omega)
  have hc2 := capv_grC hcn hle hv (by omega)
  have hc3 : cap (addS C st key v) = cap (grC C) := cap_addS
  obtain ⟨mc, hmc⟩ : ∃ z, z = cap (addS C st key v) - cap C := ⟨_, rfl⟩
  rw [← hmc]
  have hadd : addS C st key v = up (inS (32 * st + key) v c (grC C)) 26 0 (inS (32 * st + key) v c (grC C) 26 0 + 1) := by rw [inS_row (by decide) (by decide), grC_row (by decide) (by decide) (by decide) (by decide)]; unfold addS cn; rw [show (C 26 0).toNatClampNeg = c from by rw [hcn, nI_clamp (by omega)]]
  refine V_aload_n (dG D_X1_addChange 0 rfl) rfl ?_
  refine gf_X1_27 rfl (dG D_X1_addChange 1 rfl) ?_
  refine V_aload_n (dG D_X1_addChange 2 rfl) rfl ?_
  refine gf_X1_9 rfl (dG D_X1_addChange 3 rfl) ?_
  rw [show (.ref h.1 : Value) = .ref (hp g h 5) from rfl]
  refine V_alen (n := 5) (nn := cap C) (f := C 28) (v := nI (cap C)) (dG D_X1_addChange 4 rfl) (by omega) (ent_fix (by decide)) rfl ?_
  refine V_icmp_ne (tgt := 46) (dG D_X1_addChange 5 rfl) (by decide) (fun c_9 => ?_) (fun c_9 => ?_)
  · have hg : grC C = C := by unfold grC; rw [if_neg c_9]
    have hcc : c ≠ cap C := fun q => c_9 (by rw [hcn, q])
    rw [if_neg hcc] at hc1 hc2
    refine V_bipush (v := 32) (dG D_X1_addChange 24 rfl) (by decide) ?_
    refine V_iload_n (dG D_X1_addChange 25 rfl) rfl ?_
    refine V_imul (dG D_X1_addChange 26 rfl) ?_
    refine V_iload_n (dG D_X1_addChange 27 rfl) rfl ?_
    refine V_iadd (dG D_X1_addChange 28 rfl) ?_
    refine V_istore (dG D_X1_addChange 29 rfl) (Nat.le_of_ble_eq_true rfl) ?_
    refine V_aload_n (dG D_X1_addChange 30 rfl) rfl ?_
    refine gf_X1_27 rfl (dG D_X1_addChange 31 rfl) ?_
    refine V_istore (dG D_X1_addChange 32 rfl) (Nat.le_of_ble_eq_true rfl) ?_
    rw [hadd, hg, hcn]
    exact lp_addChange (Nat.zero_le _) (Nat.zero_le _) c (by omega) hv (by omega) h
  · have hg : grC C = growC6 (growC5 C (2 * cap C)) (2 * cap C) := by unfold grC; rw [if_pos c_9]
    have hcc : c = cap C := (nI_eq (by omega) (by omega)).mp (hcn.symm.trans c_9)
    rw [if_pos hcc] at hc1 hc2
    refine V_aload_n (dG D_X1_addChange 6 rfl) rfl ?_
    refine V_aload_n (dG D_X1_addChange 7 rfl) rfl ?_
    refine gf_X1_9 rfl (dG D_X1_addChange 8 rfl) ?_
    refine V_iconst (v := 2) (dG D_X1_addChange 9 rfl) (by decide) ?_
    refine V_aload_n (dG D_X1_addChange 10 rfl) rfl ?_
    refine gf_X1_27 rfl (dG D_X1_addChange 11 rfl) ?_
    refine V_imul (dG D_X1_addChange 12 rfl) ?_
    rw [show (2 : Int32) * C 26 0 = nI (2 * cap C) from by rw [hcn, hcc]; exact pk_mul 2 _]
    refine V_copy5 rfl (dG D_X1_addChange 13 rfl) (dG D_X1_addChange 14 rfl) (by omega) (by omega) ⟨Nat.le_of_ble_eq_true rfl, Nat.le_of_ble_eq_true rfl⟩ ⟨show 0 + 1 ≤ mc by omega, show 0 + 2 * cap C ≤ 4 * mc by omega⟩ (Nat.le_of_ble_eq_true rfl) (fun h => ?_)
    refine V_aload_n (dG D_X1_addChange 15 rfl) rfl ?_
    refine V_aload_n (dG D_X1_addChange 16 rfl) rfl ?_
    refine gf_X1_15 rfl (dG D_X1_addChange 17 rfl) ?_
    refine V_iconst (v := 2) (dG D_X1_addChange 18 rfl) (by decide) ?_
    refine V_aload_n (dG D_X1_addChange 19 rfl) rfl ?_
    refine gf_X1_27 rfl (dG D_X1_addChange 20 rfl) ?_
    refine V_imul (dG D_X1_addChange 21 rfl) ?_
    rw [show (2 : Int32) * growC5 C (2 * cap C) 26 0 = nI (2 * cap C) from by rw [growC5_row (by decide) (by decide), hcn, hcc]; exact pk_mul 2 _]
    refine V_copy6 rfl (dG D_X1_addChange 22 rfl) (dG D_X1_addChange 23 rfl) (show capv C < 2 * cap C by omega) (by omega) ⟨Nat.le_of_ble_eq_true rfl, Nat.le_of_ble_eq_true rfl⟩ ⟨show 0 + 1 + 1 ≤ mc by omega, show 0 + 2 * cap C + 2 * cap C ≤ 4 * mc by omega⟩ (Nat.le_of_ble_eq_true rfl) (fun h => ?_)
    rw [← hg]
    refine V_bipush (v := 32) (dG D_X1_addChange 24 rfl) (by decide) ?_
    refine V_iload_n (dG D_X1_addChange 25 rfl) rfl ?_
    refine V_imul (dG D_X1_addChange 26 rfl) ?_
    refine V_iload_n (dG D_X1_addChange 27 rfl) rfl ?_
    refine V_iadd (dG D_X1_addChange 28 rfl) ?_
    refine V_istore (dG D_X1_addChange 29 rfl) (Nat.le_of_ble_eq_true rfl) ?_
    refine V_aload_n (dG D_X1_addChange 30 rfl) rfl ?_
    refine gf_X1_27 rfl (dG D_X1_addChange 31 rfl) ?_
    refine V_istore (dG D_X1_addChange 32 rfl) (Nat.le_of_ble_eq_true rfl) ?_
    rw [hadd, show grC C 26 0 = nI c from by rw [grC_row (by decide) (by decide) (by decide) (by decide)]; exact hcn]
    exact lp_addChange (by omega) (by omega) c (by omega) (by omega) (by omega) h
end B6
