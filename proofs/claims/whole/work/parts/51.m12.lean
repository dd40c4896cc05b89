/-! the model's feed -/
set_option maxHeartbeats 100000
def itS (M : St) (j : Nat) : Int32 := ((32 : Int32) * (M 14 j)) + (M 13 j)
def cL (M : St) (l : Int32) : Nat → Nat
  | 0 => 0
  | n + 1 => cL M l n + (if itS M n ≤ l then 1 else 0)
theorem cL_le {M : St} {l : Int32} : ∀ {n : Nat}, cL M l n ≤ n
  | 0 => Nat.le_refl 0
  | n + 1 => by
    have := cL_le (M := M) (l := l) (n := n)
    unfold cL
    split <;> omega
theorem cL_mono {M : St} {l b : Int32} (h : l < b) : ∀ {n : Nat}, cL M l n ≤ cL M b n
  | 0 => Nat.le_refl 0
  | n + 1 => by
    have := cL_mono (M := M) h (n := n)
    unfold cL
    by_cases e : itS M n ≤ l
    · rw [if_pos e, if_pos (Int32.le_trans e (Int32.le_of_lt h))]
      omega
    · rw [if_neg e]
      split <;> omega
theorem cL_lt {M : St} {l b : Int32} (h : l < b) {j : Nat} (hj : itS M j = b) : ∀ {n : Nat}, j < n → cL M l n + 1 ≤ cL M b n
  | 0, q => absurd q (Nat.not_lt_zero j)
  | n + 1, q => by
    unfold cL
    by_cases e : n = j
    · subst e
      have := cL_mono (M := M) h (n := n)
      rw [hj, if_neg (Int32.not_le.mpr h), if_pos (Int32.le_refl _)]
      omega
    · have := cL_lt (M := M) h hj (n := n) (by omega)
      by_cases e2 : itS M n ≤ l
      · rw [if_pos e2, if_pos (Int32.le_trans e2 (Int32.le_of_lt h))]
        omega
      · rw [if_neg e2]
        split <;> omega
theorem fd42 {M : St} {x l s z : Int32} : ∀ {n i : Nat} {b : Int32}, s_feed_42 x n l s z b i M = b ∨ ∃ j, i ≤ j ∧ j < i + n ∧ s_feed_42 x n l s z b i M = itS M j ∧ l < itS M j
  | 0, i, b => Or.inl rfl
  | n + 1, i, b => by
    have k : ∀ c : Int32, (c = b ∨ (c = itS M i ∧ l < itS M i)) → (s_feed_42 x n l s z c (i + 1) M = b ∨ ∃ j, i ≤ j ∧ j < i + (n + 1) ∧ s_feed_42 x n l s z c (i + 1) M = itS M j ∧ l < itS M j) := fun c hc => by
      rcases fd42 (M := M) (x := x) (l := l) (s := s) (z := z) (n := n) (i := i + 1) (b := c) with e | ⟨j, h1, h2, h3, h4⟩
      · rcases hc with q | ⟨q1, q2⟩
        · exact Or.inl (e.trans q)
        · exact Or.inr ⟨i, Nat.le_refl _, by omega, e.trans q1, q2⟩
      · exact Or.inr ⟨j, by omega, by omega, h3, h4⟩
    unfold s_feed_42
    by_cases c1 : s < M 14 i
    · rw [if_pos c1]; exact k b (Or.inl rfl)
    · rw [if_neg c1]
      by_cases c2 : (((32 : Int32) * (M 14 i)) + (M 13 i)) ≤ l
      · rw [if_pos c2]; exact k b (Or.inl rfl)
      · rw [if_neg c2]
        have hl : l < itS M i := Int32.not_le.mp c2
        by_cases c3 : b = (-1 : Int32)
        · rw [if_pos c3]; exact k _ (Or.inr ⟨rfl, hl⟩)
        · rw [if_neg c3]
          by_cases c4 : b ≤ (((32 : Int32) * (M 14 i)) + (M 13 i))
          · rw [if_pos c4]; exact k b (Or.inl rfl)
          · rw [if_neg c4]; exact k _ (Or.inr ⟨rfl, hl⟩)
theorem fd_step {M : St} {x l s z : Int32} {vn n : Nat} (c : ¬ s_feed_42 x vn l s z (-1) 0 M = (-1 : Int32)) (h : vn + 1 ≤ cL M l vn + (n + 1)) : vn + 1 ≤ cL M (s_feed_42 x vn l s z (-1) 0 M) vn + n := by
  rcases fd42 (M := M) (x := x) (l := l) (s := s) (z := z) (n := vn) (i := 0) (b := -1) with e | ⟨j, h1, h2, h3, h4⟩
  · exact absurd e c
  · rw [h3]
    have := cL_lt (M := M) h4 (j := j) rfl (n := vn) (by omega)
    omega
def s_feed_23 (x : Int32) : Nat → Int32 → Int32 → Nat → St → Int32 × St
  | 0, l, s, i, M => (if (M 31 0) = (0 : Int32) then (l, M) else ((0 : Int32), M))
  | n + 1, l, s, i, M => (if x < (nI i) then (if (M 31 0) = (0 : Int32) then (l, M) else ((0 : Int32), M)) else (if (M 31 0) = (0 : Int32) then (if (s_feed_42 x ((M 12 0).toNatClampNeg) l s (nI i) (-1 : Int32) 0 M) = (-1 : Int32) then ((-1 : Int32), M) else (s_feed_23 x n (s_feed_42 x ((M 12 0).toNatClampNeg) l s (nI i) (-1 : Int32) 0 M) s (i + 1) M)) else (if (M 31 0) = (0 : Int32) then (l, M) else ((0 : Int32), M))))
theorem bm_feed_23 {g : GT} {nt : Nat} {C : St} {o : Int64}  {x : Int32} {vn N : Nat} (hVb : vn ≤ 1300) (hN : N ≤ 40) : ∀ (n : Nat) (l : Int32) (s : Int32) (i : Nat) (M : St) (hV : M 12 0 = nI vn) (hf : vn + 1 ≤ cL M l vn + n) (h : Nat × Nat), V g K_X5_feed (kR K_X5_feed 0 0) (qM g 0 0 nt (fun v9 C9 M9 o9 => v9 = some (.int (s_feed_23 x n l s i M).1) ∧ C9 = C ∧ M9 = (s_feed_23 x n l s i M).2 ∧ o9 = o) (fun _ _ _ _ => False)) 0 0 nt h C M o 23 [(0, .ref (ad g 10)), (1, .int x), (2, .int l), (3, .int s), (4, .int (nI i))] [] := by
  intro n
  induction n with
  | zero =>
    intro l s i M hV hf h
    unfold s_feed_23
    refine V_iload (dG D_X5_feed 14 rfl) rfl ?_
    refine V_iload_n (dG D_X5_feed 15 rfl) rfl ?_
    refine V_icmp_gt (tgt := 133) (dG D_X5_feed 16 rfl) (by decide) (fun c_26 => ?_) (fun c_26 => absurd hf (by have := cL_le (M := M) (l := l) (n := vn); omega))
    refine V_aload_n (dG D_X5_feed 70 rfl) rfl ?_
    refine gf_X5_93 rfl (dG D_X5_feed 71 rfl) ?_
    refine V_if_ne (tgt := 144) (dG D_X5_feed 72 rfl) (by decide) (fun c_137 => ?_) (fun c_137 => ?_)
    · try rw [if_neg c_137]
      refine V_iconst (v := 0) (dG D_X5_feed 75 rfl) (by decide) ?_
      exact V_iret (dG D_X5_feed 76 rfl) rfl (Nat.le_of_ble_eq_true rfl) (Nat.le_of_ble_eq_true rfl) ⟨by first | with_reducible rfl | rfl, rfl, by first | with_reducible rfl | rfl, rfl⟩
    · try rw [if_pos c_137]
      refine V_iload_n (dG D_X5_feed 73 rfl) rfl ?_
      refine V_goto (tgt := 145) (dG D_X5_feed 74 rfl) (by decide) ?_
      exact V_iret (dG D_X5_feed 76 rfl) rfl (Nat.le_of_ble_eq_true rfl) (Nat.le_of_ble_eq_true rfl) ⟨by first | with_reducible rfl | rfl, rfl, by first | with_reducible rfl | rfl, rfl⟩
  | succ n ih =>
    intro l s i M hV hf h
    unfold s_feed_23
    refine V_iload (dG D_X5_feed 14 rfl) rfl ?_
    refine V_iload_n (dG D_X5_feed 15 rfl) rfl ?_
    refine V_icmp_gt (tgt := 133) (dG D_X5_feed 16 rfl) (by decide) (fun c_26 => ?_) (fun c_26 => ?_)
    · try rw [if_pos c_26]
      refine V_aload_n (dG D_X5_feed 70 rfl) rfl ?_
      refine gf_X5_93 rfl (dG D_X5_feed 71 rfl) ?_
      refine V_if_ne (tgt := 144) (dG D_X5_feed 72 rfl) (by decide) (fun c_137 => ?_) (fun c_137 => ?_)
      · try rw [if_neg c_137]
        refine V_iconst (v := 0) (dG D_X5_feed 75 rfl) (by decide) ?_
        exact V_iret (dG D_X5_feed 76 rfl) rfl (Nat.le_of_ble_eq_true rfl) (Nat.le_of_ble_eq_true rfl) ⟨by first | with_reducible rfl | rfl, rfl, by first | with_reducible rfl | rfl, rfl⟩
      · try rw [if_pos c_137]
        refine V_iload_n (dG D_X5_feed 73 rfl) rfl ?_
        refine V_goto (tgt := 145) (dG D_X5_feed 74 rfl) (by decide) ?_
        exact V_iret (dG D_X5_feed 76 rfl) rfl (Nat.le_of_ble_eq_true rfl) (Nat.le_of_ble_eq_true rfl) ⟨by first | with_reducible rfl | rfl, rfl, by first | with_reducible rfl | rfl, rfl⟩
    · try rw [if_neg c_26]
      refine V_aload_n (dG D_X5_feed 17 rfl) rfl ?_
      refine gf_X5_93 rfl (dG D_X5_feed 18 rfl) ?_
      refine V_if_ne (tgt := 133) (dG D_X5_feed 19 rfl) (by decide) (fun c_33 => ?_) (fun c_33 => ?_)
      · try rw [if_neg c_33]
        refine V_aload_n (dG D_X5_feed 70 rfl) rfl ?_
        refine gf_X5_93 rfl (dG D_X5_feed 71 rfl) ?_
        refine V_if_ne (tgt := 144) (dG D_X5_feed 72 rfl) (by decide) (fun c_137 => ?_) (fun c_137 => ?_)
        · try rw [if_neg c_137]
          refine V_iconst (v := 0) (dG D_X5_feed 75 rfl) (by decide) ?_
          exact V_iret (dG D_X5_feed 76 rfl) rfl (Nat.le_of_ble_eq_true rfl) (Nat.le_of_ble_eq_true rfl) ⟨by first | with_reducible rfl | rfl, rfl, by first | with_reducible rfl | rfl, rfl⟩
        · try rw [if_pos c_137]
          refine V_iload_n (dG D_X5_feed 73 rfl) rfl ?_
          refine V_goto (tgt := 145) (dG D_X5_feed 74 rfl) (by decide) ?_
          exact V_iret (dG D_X5_feed 76 rfl) rfl (Nat.le_of_ble_eq_true rfl) (Nat.le_of_ble_eq_true rfl) ⟨by first | with_reducible rfl | rfl, rfl, by first | with_reducible rfl | rfl, rfl⟩
      · try rw [if_pos c_33]
        refine V_iconst (v := -1) (dG D_X5_feed 20 rfl) (by decide) ?_
        refine V_istore (dG D_X5_feed 21 rfl) (Nat.le_of_ble_eq_true rfl) ?_
        refine V_iconst (v := 0) (dG D_X5_feed 22 rfl) (by decide) ?_
        refine V_istore (dG D_X5_feed 23 rfl) (Nat.le_of_ble_eq_true rfl) ?_
        refine V_sub [0, 1, 2, 3, 4, 5, 6] rfl ?_
        refine bmi_feed_42 hVb ((M 12 0).toNatClampNeg) l s (nI i) (-1 : Int32) 0 M (by rw [hV, nI_clamp (by omega)]; omega) hV (fun h => ?_) h
        refine V_iload (dG D_X5_feed 61 rfl) rfl ?_
        refine V_iconst (v := -1) (dG D_X5_feed 62 rfl) (by decide) ?_
        refine V_icmp_ne (tgt := 124) (dG D_X5_feed 63 rfl) (by decide) (fun c_119 => ?_) (fun c_119 => ?_)
        · try rw [if_neg c_119]
          refine V_iload (dG D_X5_feed 66 rfl) rfl ?_
          refine V_istore_n (dG D_X5_feed 67 rfl) (Nat.le_of_ble_eq_true rfl) ?_
          refine V_iinc (dG D_X5_feed 68 rfl) rfl (inc1 _) (Nat.le_of_ble_eq_true rfl) ?_
          refine V_goto (tgt := 23) (dG D_X5_feed 69 rfl) (by decide) ?_
          refine V_sub [0, 1, 2, 3, 4] rfl ?_
          exact ih (s_feed_42 x ((M 12 0).toNatClampNeg) l s (nI i) (-1 : Int32) 0 M) s (i + 1) M hV (by rw [hV, nI_clamp (by omega)] at c_119 ⊢; exact fd_step c_119 hf) h
        · try rw [if_pos c_119]
          refine V_iconst (v := -1) (dG D_X5_feed 64 rfl) (by decide) ?_
          exact V_iret (dG D_X5_feed 65 rfl) rfl (Nat.le_of_ble_eq_true rfl) (Nat.le_of_ble_eq_true rfl) ⟨by first | with_reducible rfl | rfl, rfl, by first | with_reducible rfl | rfl, rfl⟩
def s_feed (x : Int32) (M : St) : Int32 × St := (if (0 : Int32) ≤ x then (s_feed_23 x 1301 (-1 : Int32) (s_resolvedNow (up M 31 0 (0 : Int32))) 0 (up M 31 0 (0 : Int32))) else (s_feed_23 x 1301 (-1 : Int32) (s_resolvedNow (up M 31 0 (1 : Int32))) 0 (up M 31 0 (1 : Int32))))
theorem om_feed {g : GT} {nt : Nat} {C : St} {o : Int64} {x : Int32} {M : St} {vn N : Nat} (hVb : vn ≤ 1300) (hN : N ≤ 40) (hV : M 12 0 = nI vn) (hm : M 16 0 = nI N) : RET g K_X5_feed 0 0 [.ref (ad g 10), .int x] nt C M o (some (.int (s_feed x M).1)) C (s_feed x M).2 o := by
  refine MT_of (by decide +kernel) rfl rfl (Nat.le_of_ble_eq_true rfl) (by simp [cat_rf, cat_int, cat_ref]) (fun h => ?_)
  unfold s_feed
  refine V_aload_n (dG D_X5_feed 0 rfl) rfl ?_
  refine V_iload_n (dG D_X5_feed 1 rfl) rfl ?_
  refine V_if_ge (tgt := 9) (dG D_X5_feed 2 rfl) (by decide) (fun c_2 => ?_) (fun c_2 => ?_)
  · try rw [if_pos c_2]
    refine V_iconst (v := 0) (dG D_X5_feed 5 rfl) (by decide) ?_
    refine pf_X5_93 rfl (dG D_X5_feed 6 rfl) ?_
    refine V_iconst (v := -1) (dG D_X5_feed 7 rfl) (by decide) ?_
    refine V_istore_n (dG D_X5_feed 8 rfl) (Nat.le_of_ble_eq_true rfl) ?_
    refine V_aload_n (dG D_X5_feed 9 rfl) rfl ?_
    refine R_vb0 (om_resolvedNow hN (by rw [up_row (by decide)]; exact hm)) lk_X5_193 (dG D_X5_feed 10 rfl) rcv_5 ⟨Nat.le_of_ble_eq_true rfl, Nat.le_of_ble_eq_true rfl⟩ ⟨(Nat.le_of_ble_eq_true rfl), (Nat.le_of_ble_eq_true rfl)⟩ (by first | exact Nat.le_of_ble_eq_true rfl | simp [cat_rf, cat_int, cat_ref]) (fun h => ?_)
    refine V_istore_n (dG D_X5_feed 11 rfl) (Nat.le_of_ble_eq_true rfl) ?_
    refine V_iconst (v := 0) (dG D_X5_feed 12 rfl) (by decide) ?_
    refine V_istore (dG D_X5_feed 13 rfl) (Nat.le_of_ble_eq_true rfl) ?_
    refine V_sub [0, 1, 2, 3, 4] rfl ?_
    exact bm_feed_23 hVb hN  1301 (-1 : Int32) (s_resolvedNow (up M 31 0 (0 : Int32))) 0 (up M 31 0 (0 : Int32)) (by rw [up_row (by decide)]; exact hV) (by omega) h
  · try rw [if_neg c_2]
    refine V_iconst (v := 1) (dG D_X5_feed 3 rfl) (by decide) ?_
    refine V_goto (tgt := 10) (dG D_X5_feed 4 rfl) (by decide) ?_
    refine pf_X5_93 rfl (dG D_X5_feed 6 rfl) ?_
    refine V_iconst (v := -1) (dG D_X5_feed 7 rfl) (by decide) ?_
    refine V_istore_n (dG D_X5_feed 8 rfl) (Nat.le_of_ble_eq_true rfl) ?_
    refine V_aload_n (dG D_X5_feed 9 rfl) rfl ?_
    refine R_vb0 (om_resolvedNow hN (by rw [up_row (by decide)]; exact hm)) lk_X5_193 (dG D_X5_feed 10 rfl) rcv_5 ⟨Nat.le_of_ble_eq_true rfl, Nat.le_of_ble_eq_true rfl⟩ ⟨(Nat.le_of_ble_eq_true rfl), (Nat.le_of_ble_eq_true rfl)⟩ (by first | exact Nat.le_of_ble_eq_true rfl | simp [cat_rf, cat_int, cat_ref]) (fun h => ?_)
    refine V_istore_n (dG D_X5_feed 11 rfl) (Nat.le_of_ble_eq_true rfl) ?_
    refine V_iconst (v := 0) (dG D_X5_feed 12 rfl) (by decide) ?_
    refine V_istore (dG D_X5_feed 13 rfl) (Nat.le_of_ble_eq_true rfl) ?_
    refine V_sub [0, 1, 2, 3, 4] rfl ?_
    exact bm_feed_23 hVb hN  1301 (-1 : Int32) (s_resolvedNow (up M 31 0 (1 : Int32))) 0 (up M 31 0 (1 : Int32)) (by rw [up_row (by decide)]; exact hV) (by omega) h
