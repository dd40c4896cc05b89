/-! the model's judged -/
set_option maxHeartbeats 100000
abbrev aP (M : St) (a b : Nat) : Prop := M 20 a < M 20 b ∨ (M 20 a = M 20 b ∧ M 25 a < M 25 b)
theorem ah_iff {M : St} {a b : Nat} (h : ¬ s_isAhead a b M = 0) : aP M a b := by
  unfold s_isAhead at h
  by_cases c1 : M 20 a < M 20 b
  · exact Or.inl c1
  · rw [if_neg c1] at h
    by_cases c2 : M 20 a = M 20 b
    · rw [if_pos c2] at h
      by_cases c3 : M 25 b ≤ M 25 a
      · rw [if_pos c3] at h; exact absurd rfl h
      · exact Or.inr ⟨c2, Int32.not_le.mp c3⟩
    · rw [if_neg c2] at h; exact absurd rfl h
theorem aP_trans {M : St} {a b c : Nat} (h1 : aP M a b) (h2 : aP M b c) : aP M a c := by
  rcases h1 with h1 | ⟨h1, h1'⟩
  · rcases h2 with h2 | ⟨h2, h2'⟩
    · exact Or.inl (Int32.lt_trans h1 h2)
    · exact Or.inl (h2 ▸ h1)
  · rcases h2 with h2 | ⟨h2, h2'⟩
    · exact Or.inl (h1 ▸ h2)
    · exact Or.inr ⟨h1.trans h2, Int32.lt_trans h1' h2'⟩
theorem aP_irr {M : St} {a : Nat} (h : aP M a a) : False := by
  rcases h with h | ⟨_, h⟩
  · exact Int32.lt_irrefl h
  · exact Int32.lt_irrefl h
def aJ (M : St) (t : Nat) : Nat → Nat
  | 0 => 0
  | n + 1 => aJ M t n + (if M 23 n = 2 ∧ aP M t n then 1 else 0)
theorem aJ_le {M : St} {t : Nat} : ∀ {n : Nat}, aJ M t n ≤ n
  | 0 => Nat.le_refl 0
  | n + 1 => by
    have := aJ_le (M := M) (t := t) (n := n)
    unfold aJ
    split <;> omega
theorem aJ_mono {M : St} {t u : Nat} (h : aP M t u) : ∀ {n : Nat}, aJ M u n ≤ aJ M t n
  | 0 => Nat.le_refl 0
  | n + 1 => by
    have := aJ_mono (M := M) h (n := n)
    unfold aJ
    by_cases e : M 23 n = 2 ∧ aP M u n
    · rw [if_pos e, if_pos ⟨e.1, aP_trans h e.2⟩]
      omega
    · rw [if_neg e]
      split <;> omega
theorem aJ_lt {M : St} {t u : Nat} (h : aP M t u) (h2 : M 23 u = 2) : ∀ {n : Nat}, u < n → aJ M u n + 1 ≤ aJ M t n
  | 0, q => absurd q (Nat.not_lt_zero u)
  | n + 1, q => by
    unfold aJ
    by_cases e : n = u
    · subst e
      have := aJ_mono (M := M) h (n := n)
      rw [if_neg (fun z => aP_irr z.2), if_pos ⟨h2, h⟩]
      omega
    · have := aJ_lt (M := M) h h2 (n := n) (by omega)
      by_cases e2 : M 23 n = 2 ∧ aP M u n
      · rw [if_pos e2, if_pos ⟨e2.1, aP_trans h e2.2⟩]
        omega
      · rw [if_neg e2]
        split <;> omega
theorem aJ_congr {M M' : St} {t : Nat} (e20 : M' 20 = M 20) (e23 : M' 23 = M 23) (e25 : M' 25 = M 25) : ∀ {n : Nat}, aJ M' t n = aJ M t n
  | 0 => rfl
  | n + 1 => by
    unfold aJ
    rw [aJ_congr e20 e23 e25]
    have : (M' 23 n = 2 ∧ aP M' t n) ↔ (M 23 n = 2 ∧ aP M t n) := by unfold aP; rw [e20, e23, e25]
    simp only [this]
theorem nx4 {M : St} {last : Int32} : ∀ {n i : Nat} {b : Int32}, s_next_4 last n b i M = b ∨ ∃ j, j < i + n ∧ s_next_4 last n b i M = nI j ∧ M 23 j = 2 ∧ (last = -1 ∨ ¬ s_isAhead last.toNatClampNeg j M = 0)
  | 0, i, b => Or.inl rfl
  | n + 1, i, b => by
    have k0 : s_next_4 last n b (i + 1) M = b ∨ ∃ j, j < i + (n + 1) ∧ s_next_4 last n b (i + 1) M = nI j ∧ M 23 j = 2 ∧ (last = -1 ∨ ¬ s_isAhead last.toNatClampNeg j M = 0) := by
      rcases nx4 (M := M) (last := last) (n := n) (i := i + 1) (b := b) with e | ⟨j, h1, h2⟩
      · exact Or.inl e
      · exact Or.inr ⟨j, by omega, h2⟩
    have k1 : M 23 i = 2 → (last = -1 ∨ ¬ s_isAhead last.toNatClampNeg i M = 0) → (s_next_4 last n (nI i) (i + 1) M = b ∨ ∃ j, j < i + (n + 1) ∧ s_next_4 last n (nI i) (i + 1) M = nI j ∧ M 23 j = 2 ∧ (last = -1 ∨ ¬ s_isAhead last.toNatClampNeg j M = 0)) := fun q1 q2 => by
      rcases nx4 (M := M) (last := last) (n := n) (i := i + 1) (b := nI i) with e | ⟨j, h1, h2⟩
      · exact Or.inr ⟨i, by omega, e, q1, q2⟩
      · exact Or.inr ⟨j, by omega, h2⟩
    unfold s_next_4
    repeat' split
    all_goals first | exact k0 | (refine k1 (by assumption) (Or.inl ?_); assumption) | (refine k1 (by assumption) (Or.inr ?_); assumption)
theorem j7_row {w : Nat} (h : w ≠ 30) : ∀ {n i : Nat} {M : St}, s_judged_7 n i M w = M w
  | 0, _, _ => rfl
  | n + 1, i, M => by
    unfold s_judged_7
    rw [j7_row h, up_row h]
theorem j100_row {w : Nat} (h : w ≠ 30) : ∀ {n i : Nat} {c t : Int32} {M : St}, s_judged_100 n c t i M w = M w
  | 0, _, _, _, _ => rfl
  | n + 1, i, c, t, M => by
    unfold s_judged_100
    repeat' split
    all_goals rw [j100_row h, up_row h]
theorem jd_step {M : St} {t : Int32} {N n : Nat} (hN : N ≤ 40) (hm : M 16 0 = nI N) (ht : ¬ t = -1) (hf : aJ M t.toNatClampNeg N < n + 1) (c : ¬ s_next t M = -1) : aJ M (s_next t M).toNatClampNeg N < n := by
  unfold s_next at c ⊢
  rcases nx4 (M := M) (last := t) (n := (M 16 0).toNatClampNeg) (i := 0) (b := -1) with e | ⟨j, h1, h2, h3, h4⟩
  · exact absurd e c
  · rw [hm, nI_clamp (by omega)] at h1
    rw [h2, nI_clamp (by omega)]
    have h5 := ah_iff (h4.resolve_left ht)
    have := aJ_lt h5 h3 (n := N) (by omega)
    omega
def s_judged_36 : Nat → Int32 → Int32 → St → Int32 × St
  | 0, c, t, M => (c, M)
  | n + 1, c, t, M => (if t = (-1 : Int32) then (c, M) else (s_judged_36 n (s_judged_43 32 c t 0 M) (s_next t (s_judged_100 32 (s_judged_43 32 c t 0 M) t 0 M)) (s_judged_100 32 (s_judged_43 32 c t 0 M) t 0 M)))
theorem bm_judged_36 {g : GT} {nt : Nat} {C : St} {o : Int64}  {N : Nat} (hN : N ≤ 40) : ∀ (n : Nat) (c : Int32) (t : Int32) (M : St) (hm : M 16 0 = nI N) (ht : ¬ t = (-1 : Int32) → vp_in t 40) (hf : ¬ t = (-1 : Int32) → aJ M t.toNatClampNeg N < n) (h : Nat × Nat), V g K_X5_judged (kR K_X5_judged 0 0) (qM g 0 0 nt (fun v9 C9 M9 o9 => v9 = some (.int (s_judged_36 n c t M).1) ∧ C9 = C ∧ M9 = (s_judged_36 n c t M).2 ∧ o9 = o) (fun _ _ _ _ => False)) 0 0 nt h C M o 36 [(0, .ref (ad g 10)), (1, .int c), (2, .int t)] [] := by
  intro n
  induction n with
  | zero =>
    intro c t M hm ht hf h
    unfold s_judged_36
    refine V_iload_n (dG D_X5_judged 21 rfl) rfl ?_
    refine V_iconst (v := -1) (dG D_X5_judged 22 rfl) (by decide) ?_
    refine V_icmp_eq (tgt := 162) (dG D_X5_judged 23 rfl) (by decide) (fun c_38 => ?_) (fun c_38 => absurd (hf c_38) (Nat.not_lt_zero _))
    refine V_iload_n (dG D_X5_judged 99 rfl) rfl ?_
    exact V_iret (dG D_X5_judged 100 rfl) rfl (Nat.le_of_ble_eq_true rfl) (Nat.le_of_ble_eq_true rfl) ⟨by first | with_reducible rfl | rfl, rfl, by first | with_reducible rfl | rfl, rfl⟩
  | succ n ih =>
    intro c t M hm ht hf h
    unfold s_judged_36
    refine V_iload_n (dG D_X5_judged 21 rfl) rfl ?_
    refine V_iconst (v := -1) (dG D_X5_judged 22 rfl) (by decide) ?_
    refine V_icmp_eq (tgt := 162) (dG D_X5_judged 23 rfl) (by decide) (fun c_38 => ?_) (fun c_38 => ?_)
    · try rw [if_pos c_38]
      refine V_iload_n (dG D_X5_judged 99 rfl) rfl ?_
      exact V_iret (dG D_X5_judged 100 rfl) rfl (Nat.le_of_ble_eq_true rfl) (Nat.le_of_ble_eq_true rfl) ⟨by first | with_reducible rfl | rfl, rfl, by first | with_reducible rfl | rfl, rfl⟩
    · try rw [if_neg c_38]
      refine V_iconst (v := 0) (dG D_X5_judged 24 rfl) (by decide) ?_
      refine V_istore_n (dG D_X5_judged 25 rfl) (Nat.le_of_ble_eq_true rfl) ?_
      refine V_sub [0, 1, 2, 3] rfl ?_
      refine bmi_judged_43  32 c t 0 M (by omega) (ht c_38) (fun h => ?_) h
      refine V_iconst (v := 0) (dG D_X5_judged 60 rfl) (by decide) ?_
      refine V_istore_n (dG D_X5_judged 61 rfl) (Nat.le_of_ble_eq_true rfl) ?_
      refine V_sub [0, 1, 2, 3] rfl ?_
      refine bmi_judged_100  32 (s_judged_43 32 c t 0 M) t 0 M (by omega) (ht c_38) (fun h => ?_) h
      refine V_aload_n (dG D_X5_judged 94 rfl) rfl ?_
      refine V_iload_n (dG D_X5_judged 95 rfl) rfl ?_
      refine R_vb1 (om_next hN (by rw [j100_row (by decide)]; exact hm) ht) lk_X5_199 (dG D_X5_judged 96 rfl) rcv_5 ⟨Nat.le_of_ble_eq_true rfl, Nat.le_of_ble_eq_true rfl⟩ ⟨(Nat.le_of_ble_eq_true rfl), (Nat.le_of_ble_eq_true rfl)⟩ (by first | exact Nat.le_of_ble_eq_true rfl | simp [cat_rf, cat_int, cat_ref]) (fun h => ?_)
      refine V_istore_n (dG D_X5_judged 97 rfl) (Nat.le_of_ble_eq_true rfl) ?_
      refine V_goto (tgt := 36) (dG D_X5_judged 98 rfl) (by decide) ?_
      refine V_sub [0, 1, 2] rfl ?_
      exact ih (s_judged_43 32 c t 0 M) (s_next t (s_judged_100 32 (s_judged_43 32 c t 0 M) t 0 M)) (s_judged_100 32 (s_judged_43 32 c t 0 M) t 0 M) (by rw [j100_row (by decide)]; exact hm) (fun q => next_vp hN (by rw [j100_row (by decide)]; exact hm) q) (fun q => jd_step hN (by rw [j100_row (by decide)]; exact hm) c_38 (by rw [aJ_congr (j100_row (by decide)) (j100_row (by decide)) (j100_row (by decide))]; exact hf c_38) q) h
def s_judged (M : St) : Int32 × St := (s_judged_36 41 (0 : Int32) (s_next (-1 : Int32) (s_judged_7 32 0 (up M 31 0 (0 : Int32)))) (s_judged_7 32 0 (up M 31 0 (0 : Int32))))
theorem om_judged {g : GT} {nt : Nat} {C : St} {o : Int64} {M : St} {N : Nat} (hN : N ≤ 40) (hm : M 16 0 = nI N) : RET g K_X5_judged 0 0 [.ref (ad g 10)] nt C M o (some (.int (s_judged M).1)) C (s_judged M).2 o := by
  refine MT_of (by decide +kernel) rfl rfl (Nat.le_of_ble_eq_true rfl) (by simp [cat_rf, cat_int, cat_ref]) (fun h => ?_)
  unfold s_judged
  refine V_aload_n (dG D_X5_judged 0 rfl) rfl ?_
  refine V_iconst (v := 0) (dG D_X5_judged 1 rfl) (by decide) ?_
  refine pf_X5_93 rfl (dG D_X5_judged 2 rfl) ?_
  refine V_iconst (v := 0) (dG D_X5_judged 3 rfl) (by decide) ?_
  refine V_istore_n (dG D_X5_judged 4 rfl) (Nat.le_of_ble_eq_true rfl) ?_
  refine V_sub [0, 1] rfl ?_
  refine bmi_judged_7  32 0 (up M 31 0 (0 : Int32)) (by omega) (fun h => ?_) h
  refine V_iconst (v := 0) (dG D_X5_judged 15 rfl) (by decide) ?_
  refine V_istore_n (dG D_X5_judged 16 rfl) (Nat.le_of_ble_eq_true rfl) ?_
  refine V_aload_n (dG D_X5_judged 17 rfl) rfl ?_
  refine V_iconst (v := -1) (dG D_X5_judged 18 rfl) (by decide) ?_
  refine R_vb1 (om_next hN (by rw [j7_row (by decide), up_row (by decide)]; exact hm) (fun q => absurd rfl q)) lk_X5_199 (dG D_X5_judged 19 rfl) rcv_5 ⟨Nat.le_of_ble_eq_true rfl, Nat.le_of_ble_eq_true rfl⟩ ⟨(Nat.le_of_ble_eq_true rfl), (Nat.le_of_ble_eq_true rfl)⟩ (by first | exact Nat.le_of_ble_eq_true rfl | simp [cat_rf, cat_int, cat_ref]) (fun h => ?_)
  refine V_istore_n (dG D_X5_judged 20 rfl) (Nat.le_of_ble_eq_true rfl) ?_
  refine V_sub [0, 1, 2] rfl ?_
  exact bm_judged_36 hN  41 (0 : Int32) (s_next (-1 : Int32) (s_judged_7 32 0 (up M 31 0 (0 : Int32)))) (s_judged_7 32 0 (up M 31 0 (0 : Int32))) (by rw [j7_row (by decide), up_row (by decide)]; exact hm) (fun q => next_vp hN (by rw [j7_row (by decide), up_row (by decide)]; exact hm) q) (fun _ => Nat.lt_of_le_of_lt aJ_le (by omega)) h
