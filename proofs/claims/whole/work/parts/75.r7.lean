/-! call by call: ranges, transactions, questions -/
theorem om_recoverx {g : GT} {nt : Nat} {C : St} {o : Int64} {x : Int32} {M : St} (hx : (s_isTransaction x M).1 = 0) : RET g K_X5_recover 0 0 [.ref (ad g 10), .int x] nt C M o (some (.int 0)) C (s_isTransaction x M).2 o := by
  refine MT_of (by decide +kernel) rfl rfl (Nat.le_of_ble_eq_true rfl) (by simp [cat_rf, cat_int, cat_ref]) (fun h => ?_)
  refine V_aload_n (dG D_X5_recover 0 rfl) rfl ?_
  refine V_iload_n (dG D_X5_recover 1 rfl) rfl ?_
  refine R_vb1 om_isTransaction lk_X5_186 (dG D_X5_recover 2 rfl) rcv_5 ⟨Nat.le_of_ble_eq_true rfl, Nat.le_of_ble_eq_true rfl⟩ ⟨(Nat.le_of_ble_eq_true rfl), (Nat.le_of_ble_eq_true rfl)⟩ (by first | exact Nat.le_of_ble_eq_true rfl | simp [cat_rf, cat_int, cat_ref]) (fun h => ?_)
  refine V_if_ne (tgt := 10) (dG D_X5_recover 3 rfl) (by decide) (fun c_5 => absurd hx c_5) (fun c_5 => ?_)
  refine V_iconst (v := 0) (dG D_X5_recover 4 rfl) (by decide) ?_
  exact V_iret (dG D_X5_recover 5 rfl) rfl (Nat.le_of_ble_eq_true rfl) (Nat.le_of_ble_eq_true rfl) ⟨by first | with_reducible rfl | rfl, rfl, by first | with_reducible rfl | rfl, rfl⟩
section CFT
variable {g : GT} {nt B R : Nat} {C M : St}
theorem cf_split (h : Inv nt B R C M) (x : Int32) : CF g K_X4_split K_X5_split [.int x] [(1, IOE), (2, ISE)] nt B R C M := by
  obtain ⟨r1, r2, r3, -⟩ := h.r
  have hm : Inv nt B R C (up M 31 0 0) := h.m31
  by_cases q : x < 1 ∨ ¬ x < 32
  · have e0 : s_in x 1 31 = 0 := in_0 (q.imp id (fun z => Int32.lt_of_lt_of_le (show (31 : Int32) < 32 by decide) (Int32.not_lt.mp z)))
    have es : s_split x M = (0, up M 31 0 1) := by
      unfold s_split
      rw [e0, if_pos rfl]
    refine cf_thr (k := 1) (E := IOE) (r := s_split x M) (R' := R) (by decide) (by decide) (fun o => th_split1 q) (fun o => om_split r1 r2 r3 (fun z => absurd e0 z)) ?_ ?_
    · rw [es]; exact h.w
    · rw [es]; exact m31z (M := M)
  · have q2 : ¬ x < 1 := fun z => q (Or.inl z)
    have q3 : x < 32 := Classical.not_not.mp (fun z => q (Or.inr z))
    obtain ⟨k, hk, rfl⟩ : ∃ k, k < 32 ∧ x = nI k := by
      rcases ix_lt x (N := 32) (by decide) with z | z
      · rcases z with z | z
        · exact absurd (Int32.lt_trans z (show (0 : Int32) < 1 by decide)) q2
        · exact absurd q3 z
      · exact z
    have e1 : s_in (nI k) 1 31 = 1 := in_1 q2 (show ¬ nI 31 < nI k from nI_nlt (by omega) (by decide))
    obtain ⟨s1, s2⟩ := hm.split hk
    have erg : s_rangeOf (nI k) (up M 31 0 0) = s_rangeOf (nI k) M := rO_cg (up_row (by decide)) (up_row (by decide))
    rw [erg, up_row (v := 31) (w := 5) (by decide)] at s1
    rw [erg, up_row (v := 31) (w := 4) (by decide)] at s2
    have hR : ¬ s_in (nI k) 1 31 = 0 → ¬ M 5 (s_rangeOf (nI k) M).toNatClampNeg = nI k → R < 32 := fun _ z => by
      by_cases q4 : C 5 k = 0
      · exact (s2 q4).1
      · exact absurd (s1.mpr q4) z
    by_cases q4 : C 5 k = 0
    · obtain ⟨z1, z2, z3, z4⟩ := s2 q4
      have es : s_split (nI k) M = s_split_59 (nI k) 32 ((s_rangeOf (nI k) M) + 1) (M 4 0) (up M 31 0 0) := by
        unfold s_split
        rw [e1, if_neg (by decide), if_neg (fun z => (s1.mp z) q4), erg]
      refine cf_ret (r := s_split (nI k) M) (R' := R + 1) ?_ (fun o => ok_split hk q2 q4) (fun o => om_split r1 r2 r3 hR) ?_ ?_ ?_
      · rw [cap_up (by decide)]; exact Nat.le_refl _
      · rw [es]; exact z2.mono (by omega)
      · rw [es, z4, up_eq]
      · rw [es]; exact z3
    · have es : s_split (nI k) M = (0, up M 31 0 2) := by
        unfold s_split
        rw [e1, if_neg (by decide), if_pos (s1.mpr q4)]
      refine cf_thr (k := 2) (E := ISE) (r := s_split (nI k) M) (R' := R) (by decide) (by decide) (fun o => th_split2 hk q2 q4) (fun o => om_split r1 r2 r3 hR) ?_ ?_
      · rw [es]; exact h.w
      · rw [es]; exact m31z (M := M)
/-- no range of that number: no first key -/
theorem fk_out {f : Nat → Nat} (h32 : ∀ r, r < R → f r < 32) (hf : ∀ r, r + 1 < R → f r < f (r + 1)) (h5 : ∀ k, k < 32 → (¬ C 5 k = 0 ↔ ∃ r, r < R ∧ f r = k)) {y : Int32} (hy : ∀ r, r < R → nI r ≠ y) : ∀ (n i a : Nat), i + n = 32 → a ≤ R → (∀ j, j < a → f j < i) → (a < R → i ≤ f a) → fkS C y n i (nI a) = 32
  | 0, i, a, h1, h2b, h3, h4 => rfl
  | n + 1, i, a, h1, h2b, h3, h4 => by
    unfold fkS
    by_cases q : C 5 i = 0
    · rw [if_pos q]
      refine fk_out h32 hf h5 hy n (i + 1) a (by omega) h2b (fun j hj => by have := h3 j hj; omega) (fun z => ?_)
      have y := h4 z
      have : f a ≠ i := fun w => (h5 i (by omega)).mpr ⟨a, z, w⟩ q
      omega
    · rw [if_neg q]
      obtain ⟨p, p1, p2⟩ := (h5 i (by omega)).mp q
      have e : p = a := by
        have ha : a ≤ p := by
          apply Classical.byContradiction
          intro z
          have := h3 p (by omega)
          omega
        have y := h4 (by omega)
        have := f_mono hf ha p1
        omega
      subst e
      rw [if_neg (hy p p1), nI_1]
      refine fk_out h32 hf h5 hy n (i + 1) (p + 1) (by omega) (by omega) (fun j hj => ?_) (fun z => ?_)
      · rcases Nat.lt_or_eq_of_le (show j ≤ p by omega) with y | y
        · have := h3 j y; omega
        · subst y; omega
      · have := hf p z
        omega
theorem Inv.fk_no (h : Inv nt B R C M) {y : Int32} (hy : ∀ r, r < R → nI r ≠ y) : ¬ fkS C y 32 0 0 < 32 := by
  obtain ⟨h1, h2, h3, h4, f, f0, f1, f2, f3, f4⟩ := h.r
  have e1 := fk_out (C := C) (fun r hr => (f2 r hr).1) f1 f3 hy 32 0 0 (by omega) (by omega) (fun j hj => by omega) (fun _ => by omega)
  rw [show nI 0 = 0 from rfl] at e1
  rw [e1]
  decide
theorem cf_merge (h : Inv nt B R C M) (x : Int32) : CF g K_X4_merge K_X5_merge [.int x] [(1, IOE), (2, ISE)] nt B R C M := by
  obtain ⟨r1, r2, r3, -⟩ := h.r
  have hl := h.last
  have ev : (M 4 0 - 2).toInt = (R : Int) - 2 := by
    rw [r3]
    exact pk_sub_toInt (a := R) (b := 2) (by omega) (by decide)
  by_cases q : x < 0 ∨ ¬ x < rgS C 31 1 0
  · have e0 : s_in x 0 (M 4 0 - 2) = 0 := by
      refine in_0 (q.imp id (fun z => ?_))
      rw [hl] at z
      have z2 := Int32.le_iff_toInt_le.mp (Int32.not_lt.mp z)
      rw [nI_toInt (by omega)] at z2
      rw [Int32.lt_iff_toInt_lt, ev]
      omega
    have es : s_merge x M = (0, up M 31 0 1) := by
      unfold s_merge
      rw [e0, if_pos rfl]
    have qn : x < 0 ∨ ¬ fkS C (x + 1) 32 0 0 < 32 := q.imp id (fun z => h.fk_no (fun r hr e => z (by
      have ex : x = nI r - 1 := by rw [e]; exact (Int32.add_sub_cancel x 1).symm
      rw [hl, ex]
      rcases r with _ | r
      · rw [show nI 0 - 1 = -1 from rfl]
        exact Int32.lt_of_lt_of_le (show (-1 : Int32) < 0 by decide) (Int32.not_lt.mp (nI_pos (by omega)))
      · rw [nI_pred]
        exact nI_lt (by omega) (by omega))))
    refine cf_thr (k := 1) (E := IOE) (r := s_merge x M) (R' := R) (by decide) (by decide) (fun o => th_merge1 qn) (fun o => om_merge r1 r2 r3) ?_ ?_
    · rw [es]; exact h.w
    · rw [es]; exact m31z (M := M)
  · have q2 : ¬ x < 0 := fun z => q (Or.inl z)
    have q3 : x < rgS C 31 1 0 := Classical.not_not.mp (fun z => q (Or.inr z))
    obtain ⟨r, hr, rfl⟩ : ∃ r, r < R - 1 ∧ x = nI r := by
      rcases ix_lt x (N := R - 1) (by omega) with z | z
      · rcases z with z | z
        · exact absurd z q2
        · rw [hl] at q3
          exact absurd q3 z
      · exact z
    have e1 : s_in (nI r) 0 (M 4 0 - 2) = 1 := by
      refine in_1 q2 (fun z => ?_)
      have := Int32.lt_iff_toInt_lt.mp z
      rw [ev, nI_toInt (by omega)] at this
      omega
    obtain ⟨a, b, f1, f2, f3, f4, f5, f6, f7⟩ := h.first (show r < R by omega)
    obtain ⟨f8, f9, f10⟩ := f6 (by omega)
    obtain ⟨f, rfl⟩ : ∃ f, b = f + 1 := ⟨b - 1, by omega⟩
    rw [Nat.add_sub_cancel] at f10
    have ec1 : (nI r).toNatClampNeg = r := nI_clamp (by omega)
    have ec2 : (nI r + 1).toNatClampNeg = r + 1 := by rw [nI_1, nI_clamp (by omega)]
    have hM : M 6 r = M 6 (r + 1) ↔ C 4 (f + 1) = C 4 f := by
      rw [f9, f10]
      exact ⟨Eq.symm, Eq.symm⟩
    have q5 : ¬ nI (f + 1) < 1 := fun z => by
      have z1 := Int32.lt_iff_toInt_lt.mp z
      rw [nI_toInt (by omega), show (1 : Int32).toInt = 1 from rfl] at z1
      omega
    by_cases q4 : C 4 (f + 1) = C 4 f
    · obtain ⟨m1, m2, m3⟩ := h.merge (show r + 1 < R by omega) f2 f8 (hM.mpr q4) (x := nI r)
      have es : s_merge (nI r) M = s_merge_67 (nI r) 32 (nI r + 1) (up (up M 31 0 0) 4 0 (M 4 0 - 1)) := by
        unfold s_merge
        rw [e1, if_neg (by decide), ec1, ec2, if_pos (hM.mpr q4)]
      refine cf_ret (r := s_merge (nI r) M) (R' := R - 1) ?_ (fun o => ok_merge q2 q5 f2 f8 q4) (fun o => om_merge r1 r2 r3) ?_ ?_ ?_
      · rw [cap_up (by decide)]; exact Nat.le_refl _
      · rw [es]; exact m1.mono (by omega)
      · rw [es]; exact m3
      · rw [es, m2, m1.last, nI_1, show R - 1 - 1 + 1 = R - 1 by omega]
    · have es : s_merge (nI r) M = (0, up M 31 0 2) := by
        unfold s_merge
        rw [e1, if_neg (by decide), ec1, ec2, if_neg (fun z => q4 (hM.mp z))]
      refine cf_thr (k := 2) (E := ISE) (r := s_merge (nI r) M) (R' := R) (by decide) (by decide) (fun o => th_merge2 q2 q5 f2 f8 q4) (fun o => om_merge r1 r2 r3) ?_ ?_
      · rw [es]; exact h.w
      · rw [es]; exact m31z (M := M)
theorem cf_move (h : Inv nt B R C M) (hB : B ≤ 800000) (x y : Int32) : CF g K_X4_move K_X5_move [.int x, .int y] [(1, IOE), (2, ISE)] nt B R C M := by
  obtain ⟨r1, r2, r3, r4, -⟩ := h.r
  have hl := h.last
  have eR : M 4 0 - 1 = nI (R - 1) := by
    obtain ⟨R', rfl⟩ : ∃ R', R = R' + 1 := ⟨R - 1, by omega⟩
    rw [r3, nI_pred, Nat.add_sub_cancel]
  by_cases q : x < 0 ∨ ¬ x ≤ rgS C 31 1 0
  · have e0 : s_in x 0 (M 4 0 - 1) = 0 := by
      rw [eR]
      refine in_0 (q.imp id (fun z => ?_))
      rw [hl] at z
      exact Int32.not_le.mp z
    have es : s_move x y M = (0, up M 31 0 1) := by
      unfold s_move
      rw [e0, if_pos rfl]
    have qn : ¬ fkS C x 32 0 0 < 32 := h.fk_no (fun r hr e => by
      subst e
      rcases q with z | z
      · exact nI_pos (by omega) z
      · rw [hl, nI_leI (by omega) (by omega)] at z
        omega)
    refine cf_thr (k := 1) (E := IOE) (r := s_move x y M) (R' := R) (by decide) (by decide) (fun o => th_move1 qn) (fun o => om_move r1 r2 r3 r4) ?_ ?_
    · rw [es]; exact h.w
    · rw [es]; exact m31z (M := M)
  · have q2 : ¬ x < 0 := fun z => q (Or.inl z)
    have q3 : x ≤ rgS C 31 1 0 := Classical.not_not.mp (fun z => q (Or.inr z))
    obtain ⟨r, hr, rfl⟩ : ∃ r, r < R ∧ x = nI r := by
      rcases ix_lt x (N := R) (by omega) with z | z
      · rcases z with z | z
        · exact absurd z q2
        · rw [hl] at q3
          have z2 := Int32.not_lt.mp z
          have := Int32.le_trans z2 q3
          rw [nI_leI (by omega) (by omega)] at this
          omega
      · exact z
    have e1 : s_in (nI r) 0 (M 4 0 - 1) = 1 := by
      rw [eR]
      exact in_in (by omega) (by omega)
    rcases ix_lt y (N := 4) (by decide) with p | ⟨n, hn, rfl⟩
    · have es : s_move (nI r) y M = (0, up M 31 0 1) := by
        unfold s_move
        rw [e1, if_neg (by decide), show s_in y 0 3 = 0 from in_out (N := 3) (by decide) p, if_pos rfl]
      obtain ⟨a, b, f1, f2, f3, f4, -⟩ := h.first hr
      refine cf_thr (k := 1) (E := IOE) (r := s_move (nI r) y M) (R' := R) (by decide) (by decide) (fun o => th_move2 f1 (by omega) p) (fun o => om_move r1 r2 r3 r4) ?_ ?_
      · rw [es]; exact h.w
      · rw [es]; exact m31z (M := M)
    · have ec1 : (nI r).toNatClampNeg = r := nI_clamp (by omega)
      have ec2 : (nI n).toNatClampNeg = n := nI_clamp (by omega)
      have hi : s_in (nI n) 0 3 = 1 := in_in (N := 3) (by decide) (by omega)
      obtain ⟨a, b, f1, f2, f3, f4, f5, f6, f7⟩ := h.first hr
      have hwv := r4 r (by omega)
      have ew : C 4 a = nI (M 6 r).toNatClampNeg := by rw [f5]; exact (nI_self (fun z => hwv (Or.inl z))).symm
      have hw4 : (M 6 r).toNatClampNeg < 4 := vin_lt hwv
      have n7 := h.n.2.2.2.2.2.2.2
      have eM6 : M 6 r = nI (M 6 r).toNatClampNeg := (nI_self (fun z => hwv (Or.inl z))).symm
      generalize (M 6 r).toNatClampNeg = w at ew hw4 eM6
      have ecw : (nI w).toNatClampNeg = w := nI_clamp (by omega)
      by_cases q4 : C 3 w = 0
      · by_cases q5 : C 3 n = 0
        · obtain ⟨a1, a2, a3, a4⟩ := (h.m31 (i := 0) (x := 0)).asks (by omega) hw4
          have f1' := f1
          have hfk : ∀ {X : Int32}, fkS (tellS C w (C 0 0)) X 32 0 0 = fkS C X 32 0 0 := by
            intro X
            have : ∀ (n i : Nat) (p : Int32), fkS (tellS C w (C 0 0)) X n i p = fkS C X n i p := by
              intro n
              induction n with
              | zero => intro i p; rfl
              | succ n ih =>
                intro i p
                unfold fkS
                rw [tell_r (by decide), ih, ih]
            exact this 32 0 0
          obtain ⟨M2, b1, b2, b3⟩ := a2.move hr hn (d := nI w) (by rw [hfk]; exact f1) (by rw [hfk]; exact f2) f3 f4 a3
          have es : s_move (nI r) (nI n) M = (nI w, M2) := by
            unfold s_move
            rw [e1, if_neg (by decide), hi, if_neg (by decide), ec2, ← n7 n hn, if_pos q5, ec1, eM6, ecw, ← n7 w hw4, if_pos q4]
            exact b1
          refine cf_ret (r := s_move (nI r) (nI n) M) (R' := R) ?_ (fun o => ok_move hn f1 f2 f3 f4 ew hw4 q4 q5) (fun o => om_move r1 r2 r3 r4) ?_ ?_ ?_
          · have : cap (mvS n (tellS C w (C 0 0) 2 w) (b - a) a (tellS C w (C 0 0))) = cap C := by
              rw [cap_27 (C := tellS C w (C 0 0))]
              · exact cap_tell
              · rw [(mvS_row _ _ _).1 27 (by decide)]
                have : ∀ (n i : Nat) (s : Int32) (D : St), nsL s n i D 27 = D 27 := by
                  intro n
                  induction n with
                  | zero => intro i s D; rfl
                  | succ n ih =>
                    intro i s D
                    unfold nsL
                    rw [ih, noteS_27]
                exact this _ _ _ _
            omega
          · rw [es, a1]; exact b2.mono (by omega)
          · rw [es]
            show M2 31 0 = 0
            rw [b3, asks_r (by decide), up_eq]
          · rw [es]
        · have es : s_move (nI r) (nI n) M = (0, up M 31 0 2) := by
            unfold s_move
            rw [e1, if_neg (by decide), hi, if_neg (by decide), ec2, ← n7 n hn, if_neg q5]
          refine cf_thr (k := 2) (E := ISE) (r := s_move (nI r) (nI n) M) (R' := R) (by decide) (by decide) (fun o => th_move4 hn f1 f2 f3 f4 ew hw4 q4 q5) (fun o => om_move r1 r2 r3 r4) ?_ ?_
          · rw [es]; exact h.w
          · rw [es]; exact m31z (M := M)
      · have es : s_move (nI r) (nI n) M = (0, up M 31 0 2) := by
          unfold s_move
          rw [e1, if_neg (by decide), hi, if_neg (by decide), ec2, ec1, eM6, ecw, ← n7 w hw4, if_neg q4]
          split <;> rfl
        refine cf_thr (k := 2) (E := ISE) (r := s_move (nI r) (nI n) M) (R' := R) (by decide) (by decide) (fun o => th_move3 hn f1 f2 f3 f4 ew hw4 q4) (fun o => om_move r1 r2 r3 r4) ?_ ?_
        · rw [es]; exact h.w
        · rw [es]; exact m31z (M := M)
-- transactions
theorem Inv.m16 (h : Inv nt B R C M) : M 16 0 = nI nt := h.t.1
theorem tx_out (h : Inv nt B R C M) {x : Int32} (q : x < 0 ∨ ¬ x < nI nt) : s_in x 0 (M 16 0 - 1) = 0 := by
  have hn := h.wf.n40
  rw [h.m16]
  rcases Nat.eq_zero_or_pos nt with z | z
  · subst z
    rw [show nI 0 - 1 = -1 from rfl]
    refine in_0 (q.imp id (fun y => ?_))
    exact Int32.lt_of_lt_of_le (show (-1 : Int32) < 0 by decide) (Int32.not_lt.mp y)
  · obtain ⟨y, rfl⟩ : ∃ y, nt = y + 1 := ⟨nt - 1, by omega⟩
    rw [nI_pred]
    exact in_out (by omega) q
theorem tx_ix (h : Inv nt B R C M) (x : Int32) : ((x < 0 ∨ ¬ x < C 10 0) ∧ s_in x 0 (M 16 0 - 1) = 0) ∨ ∃ t, t < nt ∧ x = nI t ∧ s_in x 0 (M 16 0 - 1) = 1 := by
  have hn := h.wf.n40
  rcases ix_lt x (N := nt) (by omega) with q | ⟨t, ht, rfl⟩
  · exact Or.inl ⟨by rw [h.wf.b]; exact q, tx_out h q⟩
  · exact Or.inr ⟨t, ht, rfl, isT_in hn h.m16 ht⟩
theorem tx_nn (h : Inv nt B R C M) {t : Nat} (ht : t < nt) : ¬ nI t < 0 ∧ nI t < C 10 0 := by
  have hn := h.wf.n40
  exact ⟨nI_pos (by omega), h.wf.ltb ht⟩
theorem cf_get (h : Inv nt B R C M) (hB : B ≤ 600000) (x y : Int32) : CF g K_X4_get K_X5_get [.int x, .int y] [(1, IOE)] nt B R C M := by
  have hn := h.wf.n40
  rcases tx_ix h x with ⟨q, e⟩ | ⟨t, ht, rfl, e⟩
  · have ea : s_areThere x y M = (0, up M 31 0 1) := by
      unfold s_areThere
      rw [e, if_pos rfl]
    have es : s_getx x y M = (0, up M 31 0 1) := by
      unfold s_getx
      rw [ea]
    refine cf_thr (k := 1) (E := IOE) (r := s_getx x y M) (R' := R) (by decide) (by decide) (fun o => th_get1 q) (fun o => om_getx (by rw [ea])) ?_ ?_
    · rw [es]; exact h.w
    · rw [es]; exact m31z (M := M)
  · obtain ⟨p1, p2⟩ := tx_nn h ht
    rcases ix_lt y (N := 32) (by decide) with q | ⟨k, hk, rfl⟩
    · have ea : s_areThere (nI t) y M = (0, up M 31 0 1) := by
        unfold s_areThere
        rw [e, if_neg (by decide), show s_in y 0 31 = 0 from in_out (N := 31) (by decide) q, if_pos rfl]
      have es : s_getx (nI t) y M = (0, up M 31 0 1) := by
        unfold s_getx
        rw [ea]
      refine cf_thr (k := 1) (E := IOE) (r := s_getx (nI t) y M) (R' := R) (by decide) (by decide) (fun o => th_get2 p1 p2 q) (fun o => om_getx (by rw [ea])) ?_ ?_
      · rw [es]; exact h.w
      · rw [es]; exact m31z (M := M)
    · obtain ⟨g1, g2, g3⟩ := h.get (by omega) ht hk
      have htk := tok_nI ht hn
      have hc : cap C ≤ cap (gtS C (nI t) k).2 := by
        unfold gtS
        split
        · rename_i z
          have := (gtL_WF htk hk (n := 1000000) (r := -99) (C := askS C (nI t) (C 4 k).toNatClampNeg) (WF_ask h.wf) (ask_15 z)).2
          rw [cap_ask] at this
          exact this
        · exact Nat.le_refl _
      exact cf_retc (r := s_get t k M) (R' := R) hc (fun o => ok_get ht hk h.wf) (fun o => om_get (by omega) hk h.wm) g2 g3 g1.symm
theorem cf_put (h : Inv nt B R C M) (hB : B ≤ 600000) (x y v : Int32) : CF g K_X4_put K_X5_put [.int x, .int y, .int v] [(1, IOE), (2, IAE)] nt B R C M := by
  have hn := h.wf.n40
  rcases tx_ix h x with ⟨q, e⟩ | ⟨t, ht, rfl, e⟩
  · have ea : s_areThere x y M = (0, up M 31 0 1) := by
      unfold s_areThere
      rw [e, if_pos rfl]
    have es : s_putx x y v M = (0, up M 31 0 1) := by
      unfold s_putx
      rw [ea]
    refine cf_thr (k := 1) (E := IOE) (r := s_putx x y v M) (R' := R) (by decide) (by decide) (fun o => th_put1 q) (fun o => om_putx (by rw [ea])) ?_ ?_
    · rw [es]; exact h.w
    · rw [es]; exact m31z (M := M)
  · obtain ⟨p1, p2⟩ := tx_nn h ht
    rcases ix_lt y (N := 32) (by decide) with q | ⟨k, hk, rfl⟩
    · have ea : s_areThere (nI t) y M = (0, up M 31 0 1) := by
        unfold s_areThere
        rw [e, if_neg (by decide), show s_in y 0 31 = 0 from in_out (N := 31) (by decide) q, if_pos rfl]
      have es : s_putx (nI t) y v M = (0, up M 31 0 1) := by
        unfold s_putx
        rw [ea]
      refine cf_thr (k := 1) (E := IOE) (r := s_putx (nI t) y v M) (R' := R) (by decide) (by decide) (fun o => th_put2 p1 p2 q) (fun o => om_putx (by rw [ea])) ?_ ?_
      · rw [es]; exact h.w
      · rw [es]; exact m31z (M := M)
    · by_cases q : v < 0 ∨ ¬ v ≤ 1000
      · have es : s_put t k v M = (0, up (up M 31 0 0) 31 0 2) := by
          unfold s_put
          rw [aT_in hn h.m16 ht hk, if_neg (show ¬ (1 : Int32) = 0 by decide), in_0 (q.imp id Int32.not_le.mp), if_pos rfl]
        refine cf_thr (k := 2) (E := IAE) (r := s_put t k v M) (R' := R) (by decide) (by decide) (fun o => th_put3 p1 p2 (nI_pos (by omega)) (nI_lt (b := 32) hk (by decide)) q) (fun o => om_put (by omega) hk h.wm) ?_ ?_
        · rw [es]; exact (h.m31 (i := 0) (x := 0)).w
        · rw [es]; exact m31z (M := up M 31 0 0)
      · have q1 : ¬ v < 0 := fun z => q (Or.inl z)
        have q2 : v ≤ 1000 := Classical.not_not.mp (fun z => q (Or.inr z))
        obtain ⟨g1, g2, g3⟩ := h.put (by omega) ht hk q1 q2
        have htk := tok_nI ht hn
        have hc : cap C ≤ cap (ptS C (nI t) k v).2 := by
          unfold ptS
          split
          · rename_i z
            have := (ptL_WF htk hk (n := 1000000) (r := -99) (v := v) (C := askS C (nI t) (C 4 k).toNatClampNeg) (WF_ask h.wf) (ask_15 z)).2
            rw [cap_ask] at this
            exact this
          · exact Nat.le_refl _
        exact cf_retc (r := s_put t k v M) (R' := R) hc (fun o => ok_put ht hk h.wf q1 q2) (fun o => om_put (by omega) hk h.wm) g2 g3 g1.symm
theorem isT_0 {x : Int32} (e : s_in x 0 (M 16 0 - 1) = 0) : s_isTransaction x M = (0, up M 31 0 1) := by
  unfold s_isTransaction
  rw [e, if_pos rfl]
theorem isT_1 {x : Int32} (e : s_in x 0 (M 16 0 - 1) = 1) : s_isTransaction x M = (1, up M 31 0 0) := by
  unfold s_isTransaction
  rw [e, if_neg (by decide)]
theorem cf_commit (h : Inv nt B R C M) (hB : B ≤ 600000) (x p : Int32) : CF g K_X4_commit K_X5_commit [.int x, .int p] [(1, IOE)] nt B R C M := by
  have hn := h.wf.n40
  rcases tx_ix h x with ⟨q, e⟩ | ⟨t, ht, rfl, e⟩
  · have es : s_commitx x p M = (0, up M 31 0 1) := by
      unfold s_commitx
      rw [isT_0 e]
    refine cf_thr (k := 1) (E := IOE) (r := s_commitx x p M) (R' := R) (by decide) (by decide) (fun o => th_commit q) (fun o => om_commitx (by rw [isT_0 e])) ?_ ?_
    · rw [es]; exact h.w
    · rw [es]; exact m31z (M := M)
  · obtain ⟨g1, g2, g3⟩ := h.commit (by omega) ht (p := p)
    have htk := tok_nI ht hn
    exact cf_retc (r := s_commit t p M) (R' := R) (cmS_WF h.wf htk).2 (fun o => ok_commit htk h.wf) (fun o => om_commit (by omega) h.wm) (g2.mono (by omega)) g3 g1.symm
theorem cf_abort (h : Inv nt B R C M) (x : Int32) : CF g K_X4_abort K_X5_abort [.int x] [(1, IOE)] nt B R C M := by
  have hn := h.wf.n40
  rcases tx_ix h x with ⟨q, e⟩ | ⟨t, ht, rfl, e⟩
  · have es : s_abort x M = (0, up M 31 0 1) := by
      unfold s_abort
      rw [isT_0 e]
      rfl
    refine cf_thr (k := 1) (E := IOE) (r := s_abort x M) (R' := R) (by decide) (by decide) (fun o => th_abort q) (fun o => om_abort hn h.m16) ?_ ?_
    · rw [es]; exact h.w
    · rw [es]; exact m31z (M := M)
  · have htn : (nI t).toNatClampNeg = t := nI_clamp (by omega)
    have es : s_abort (nI t) M = if C 15 t = 0 then (0, up (up M 31 0 0) 23 t 3) else (-13, up M 31 0 0) := by
      unfold s_abort
      rw [isT_1 e, if_neg (show ¬ (1 : Int32) = 0 by decide), htn]
      show (if (up M 31 0 0) 23 t = 0 then _ else _) = _
      rw [up_row (by decide), ← h.t.2.2.2.2.1 t ht]
    have hcl : ∀ o, RET g K_X4_abort 0 0 [.ref (ad g 0), .int (nI t)] nt C M o (some (.int (if C 15 t = 0 then (0, up C 15 t 3) else (-13, C) : Int32 × St).1)) (if C 15 t = 0 then (0, up C 15 t 3) else (-13, C) : Int32 × St).2 M o := fun o => by
      have := ok_abort (g := g) (M := M) (o := o) ht h.wf
      rw [htn] at this
      exact this
    by_cases q : C 15 t = 0
    · simp only [if_pos q] at es hcl
      refine cf_ret (r := s_abort (nI t) M) (R' := R) ?_ hcl (fun o => om_abort hn h.m16) ?_ ?_ ?_
      · rw [cap_up (by decide)]; exact Nat.le_refl _
      · rw [es]; exact h.w.r15 ht (by rw [q]; decide) (by decide)
      · rw [es]
        show up (up M 31 0 0) 23 t 3 31 0 = 0
        rw [up_row (by decide), up_eq]
      · rw [es]
    · simp only [if_neg q] at es hcl
      refine cf_ret (r := s_abort (nI t) M) (R' := R) (Nat.le_refl _) hcl (fun o => om_abort hn h.m16) ?_ ?_ ?_
      · rw [es]; exact h.w
      · rw [es]; exact m31z (M := M)
      · rw [es]
theorem cf_beat (h : Inv nt B R C M) (x : Int32) : CF g K_X4_beat K_X5_beat [.int x] [(1, IOE)] nt B R C M := by
  have hn := h.wf.n40
  rcases tx_ix h x with ⟨q, e⟩ | ⟨t, ht, rfl, e⟩
  · have es : s_beat x M = (0, up M 31 0 1) := by
      unfold s_beat
      rw [isT_0 e]
      rfl
    refine cf_thr (k := 1) (E := IOE) (r := s_beat x M) (R' := R) (by decide) (by decide) (fun o => th_beat q) (fun o => om_beat hn h.m16) ?_ ?_
    · rw [es]; exact h.w
    · rw [es]; exact m31z (M := M)
  · have htn : (nI t).toNatClampNeg = t := nI_clamp (by omega)
    have es : s_beat (nI t) M = if C 15 t = 0 then (0, up (up M 31 0 0) 22 t (C 0 0)) else (-13, up M 31 0 0) := by
      unfold s_beat
      rw [isT_1 e, if_neg (show ¬ (1 : Int32) = 0 by decide), htn]
      show (if (up M 31 0 0) 23 t = 0 then (0, up (up M 31 0 0) 22 t (up M 31 0 0 0 0)) else _) = _
      rw [up_row (by decide), up_row (by decide), ← h.t.2.2.2.2.1 t ht, ← h.n.2.1]
    have hcl : ∀ o, RET g K_X4_beat 0 0 [.ref (ad g 0), .int (nI t)] nt C M o (some (.int (if C 15 t = 0 then (0, up C 18 t (C 0 0)) else (-13, C) : Int32 × St).1)) (if C 15 t = 0 then (0, up C 18 t (C 0 0)) else (-13, C) : Int32 × St).2 M o := fun o => by
      have := ok_beat (g := g) (M := M) (o := o) ht h.wf
      rw [htn] at this
      exact this
    by_cases q : C 15 t = 0
    · simp only [if_pos q] at es hcl
      refine cf_ret (r := s_beat (nI t) M) (R' := R) ?_ hcl (fun o => om_beat hn h.m16) ?_ ?_ ?_
      · rw [cap_up (by decide)]; exact Nat.le_refl _
      · rw [es]; exact h.w.r18
      · rw [es]
        show up (up M 31 0 0) 22 t (C 0 0) 31 0 = 0
        rw [up_row (by decide), up_eq]
      · rw [es]
    · simp only [if_neg q] at es hcl
      refine cf_ret (r := s_beat (nI t) M) (R' := R) (Nat.le_refl _) hcl (fun o => om_beat hn h.m16) ?_ ?_ ?_
      · rw [es]; exact h.w
      · rw [es]; exact m31z (M := M)
      · rw [es]
theorem cf_recover (h : Inv nt B R C M) (hB : B ≤ 600000) (x : Int32) : CF g K_X4_recover K_X5_recover [.int x] [(1, IOE)] nt B R C M := by
  have hn := h.wf.n40
  rcases tx_ix h x with ⟨q, e⟩ | ⟨t, ht, rfl, e⟩
  · refine cf_thr (k := 1) (E := IOE) (r := (0, (s_isTransaction x M).2)) (R' := R) (by decide) (by decide) (fun o => th_recover q) (fun o => om_recoverx (by rw [isT_0 e])) ?_ ?_
    · rw [isT_0 e]; exact h.w
    · rw [isT_0 e]; exact m31z (M := M)
  · have htn : (nI t).toNatClampNeg = t := nI_clamp (by omega)
    have htk := tok_nI ht hn
    have hm : Inv nt B R C (up M 31 0 0) := h.m31
    have es : s_recover (nI t) M = if C 15 t = 1 then (s_recovers t (up M 31 0 0) 23 t, s_recovers t (up M 31 0 0)) else (C 15 t, up M 31 0 0) := by
      unfold s_recover
      rw [isT_1 e, if_neg (show ¬ (1 : Int32) = 0 by decide), htn]
      show (if (up M 31 0 0) 23 t = 1 then _ else ((up M 31 0 0) 23 t, _)) = _
      rw [← hm.t.2.2.2.2.1 t ht]
    have hcl : ∀ o, RET g K_X4_recover (cap (rcS C (nI t)) - cap C) (4 * (cap (rcS C (nI t)) - cap C)) [.ref (ad g 0), .int (nI t)] nt C M o (some (.int (rcS C (nI t) 15 t))) (rcS C (nI t)) M o := fun o => by
      have := ok_recover (g := g) (M := M) (o := o) ht h.wf
      rw [htn] at this
      exact this
    have hv : ∀ o, RET g K_X5_recover 0 0 [.ref (ad g 10), .int (nI t)] nt (rcS C (nI t)) M o (some (.int (s_recover (nI t) M).1)) (rcS C (nI t)) (s_recover (nI t) M).2 o := fun o => om_recover hn h.m16 (fun y => by
      rw [htn] at y
      exact h.wm.vc ht (by rw [y]; decide))
    refine cf_retc (r := s_recover (nI t) M) (R' := R) (rcS_WF h.wf htk).2 hcl hv ?_ ?_ ?_
    · rw [es]
      unfold rcS
      rw [htn]
      by_cases q : C 15 t = 1
      · rw [if_pos q, if_pos q]
        exact (hm.rec (by omega) ht (by rw [q]; decide)).mono (by omega)
      · rw [if_neg q, if_neg q]
        exact h.w
    · rw [es]
      by_cases q : C 15 t = 1
      · rw [if_pos q]
        show s_recovers t (up M 31 0 0) 31 0 = 0
        rw [rec_r (by decide) (by decide) (by decide) (by decide) (by decide) (by decide) (by decide) (by decide), up_eq]
      · rw [if_neg q]
        exact m31z (M := M)
    · rw [es]
      unfold rcS
      rw [htn]
      by_cases q : C 15 t = 1
      · rw [if_pos q, if_pos q]
        exact ((hm.rec (by omega) ht (by rw [q]; decide)).t.2.2.2.2.1 t ht).symm
      · rw [if_neg q, if_neg q]
end CFT
