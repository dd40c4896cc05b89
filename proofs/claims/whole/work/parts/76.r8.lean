/-! call by call: questions -/
section CFQ
variable {g : GT} {nt B R : Nat} {C M : St}
theorem wh_out {x : Int32} (q : x < 0 ∨ ¬ x ≤ 6) : s_in x 0 6 = 0 := in_0 (q.imp id Int32.not_le.mp)
theorem wh_ix (x : Int32) : (x < 0 ∨ ¬ x ≤ 6) ∨ (s_in x 0 6 = 1 ∧ (x = 0 ∨ x = 1 ∨ x = 2 ∨ x = 3 ∨ x = 4 ∨ x = 5 ∨ x = 6)) := by
  rcases ix_lt x (N := 7) (by decide) with q | ⟨j, hj, rfl⟩
  · left
    refine q.imp id (fun z y => z ?_)
    exact Int32.lt_of_le_of_lt y (show (6 : Int32) < nI 7 by decide)
  · right
    refine ⟨in_in (N := 6) (by decide) (by omega), ?_⟩
    have : j = 0 ∨ j = 1 ∨ j = 2 ∨ j = 3 ∨ j = 4 ∨ j = 5 ∨ j = 6 := by omega
    rcases this with rfl | rfl | rfl | rfl | rfl | rfl | rfl <;> decide
theorem told_r {x w : Int32} (e : s_in x 0 (M 16 0 - 1) = 1) (e2 : s_in w 0 6 = 1) : (s_told x w M).2 = up M 31 0 0 ∧ (s_told x w M).1 = (if w = 0 then M 23 x.toNatClampNeg else if w = 1 then M 19 x.toNatClampNeg else if w = 2 then M 20 x.toNatClampNeg else if w = 3 then s_waitsFor x.toNatClampNeg (up M 31 0 0) else if w = 4 then s_countsRead x.toNatClampNeg (up M 31 0 0) else if w = 5 then s_countsWritten x.toNatClampNeg (up M 31 0 0) else if s_isVanished x.toNatClampNeg (up M 31 0 0) = 0 then 0 else 1) := by
  unfold s_told
  rw [e, if_neg (by decide), e2, if_neg (by decide)]
  split
  · exact ⟨rfl, rfl⟩
  · split
    · exact ⟨rfl, rfl⟩
    · split
      · exact ⟨rfl, rfl⟩
      · split
        · exact ⟨rfl, rfl⟩
        · split
          · exact ⟨rfl, rfl⟩
          · split
            · exact ⟨rfl, rfl⟩
            · split <;> exact ⟨rfl, rfl⟩
theorem cf_told (h : Inv nt B R C M) (x w : Int32) : CF g K_X4_told K_X5_told [.int x, .int w] [(1, IOE), (2, IAE)] nt B R C M := by
  have hn := h.wf.n40
  have hw24 : ∀ i, i < 40 → ¬ M 24 i = (-1 : Int32) → vp_in (M 24 i) 40 := h.wm.aw
  rcases tx_ix h x with ⟨q, e⟩ | ⟨t, ht, rfl, e⟩
  · have es : s_told x w M = (0, up M 31 0 1) := by
      unfold s_told
      rw [e, if_pos rfl]
    refine cf_thr (k := 1) (E := IOE) (r := s_told x w M) (R' := R) (by decide) (by decide) (fun o => th_told1 q) (fun o => om_told hn h.m16 hw24) ?_ ?_
    · rw [es]; exact h.w
    · rw [es]; exact m31z (M := M)
  · obtain ⟨p1, p2⟩ := tx_nn h ht
    have htk := tok_nI ht hn
    have htn : (nI t).toNatClampNeg = t := nI_clamp (by omega)
    rcases wh_ix w with q | ⟨e2, q⟩
    · have es : s_told (nI t) w M = (0, up M 31 0 2) := by
        unfold s_told
        rw [e, if_neg (by decide), wh_out q, if_pos rfl]
      refine cf_thr (k := 2) (E := IAE) (r := s_told (nI t) w M) (R' := R) (by decide) (by decide) (fun o => th_told2 p1 p2 q) (fun o => om_told hn h.m16 hw24) ?_ ?_
      · rw [es]; exact h.w
      · rw [es]; exact m31z (M := M)
    · obtain ⟨z1, z2⟩ := told_r (M := M) e e2
      have hm : Inv nt B R C (up M 31 0 0) := h.m31
      have h3 : Inv nt (B + 100) R C (s_told (nI t) w M).2 := by rw [z1]; exact h.w
      have h4 : (s_told (nI t) w M).2 31 0 = 0 := by rw [z1]; exact up_eq
      obtain ⟨t0, t1, t2, t3, t4, t5, t6, t7, t8, t9, ta, tb, tc, td, te⟩ := h.t
      rw [htn] at z2
      have fin : ∀ v, (∀ o, RET g K_X4_told 0 0 [.ref (ad g 0), .int (nI t), .int w] nt C M o (some (.int v)) C M o) → (s_told (nI t) w M).1 = v → CF g K_X4_told K_X5_told [.int (nI t), .int w] [(1, IOE), (2, IAE)] nt B R C M := fun v a1 a2 => cf_ret (r := s_told (nI t) w M) (R' := R) (Nat.le_refl _) a1 (fun o => om_told hn h.m16 hw24) h3 h4 a2
      rcases q with rfl | rfl | rfl | rfl | rfl | rfl | rfl
      · refine fin _ (fun o => ok_told0 htk h.wf) ?_
        rw [z2, if_pos rfl, htn]
        exact (t4 t ht).symm
      · refine fin _ (fun o => ok_told1 htk h.wf) ?_
        rw [z2, if_neg (by decide), if_pos rfl, htn]
        exact (t5 t ht).symm
      · refine fin _ (fun o => ok_told2 htk h.wf) ?_
        rw [z2, if_neg (by decide), if_neg (by decide), if_pos rfl, htn]
        exact (t6 t ht).symm
      · refine fin _ (fun o => ok_told3 htk h.wf) ?_
        rw [z2, if_neg (by decide), if_neg (by decide), if_neg (by decide), if_pos rfl, htn, hm.wfr ht]
        show wfS C t = (if wfS C t < 0 then -1 else C 11 (wfS C t).toNatClampNeg)
        rcases wf_trv h.wf.aw ht with y | y
        · rw [y, if_pos (by decide)]
        · rw [if_neg y.1, t9 _ y.2, nI_self y.1]
      · refine fin _ (fun o => ok_told4 htk h.wf) ?_
        rw [z2, if_neg (by decide), if_neg (by decide), if_neg (by decide), if_neg (by decide), if_pos rfl, htn, hm.cr ht]
        exact (bcS_ok _).symm
      · refine fin _ (fun o => ok_told5 htk h.wf) ?_
        rw [z2, if_neg (by decide), if_neg (by decide), if_neg (by decide), if_neg (by decide), if_neg (by decide), if_pos rfl, htn, hm.cw ht]
        exact (bcS_ok _).symm
      · refine fin _ (fun o => ok_told6 htk h.wf) ?_
        rw [z2, if_neg (by decide), if_neg (by decide), if_neg (by decide), if_neg (by decide), if_neg (by decide), if_neg (by decide), htn, hm.van ht]
        rfl
theorem key_r {x w : Int32} {c : Int32} {i : Nat} : (s_key_47 x w 0 c i M).2 = M ∧ (s_key_47 x w 0 c i M).1 = (if w = 0 then c else if w = 1 then M 7 x.toNatClampNeg else if w = 2 then M 10 x.toNatClampNeg else if w = 3 then M 11 x.toNatClampNeg else if w = 4 then s_rangeOf x M else if w = 5 then s_nodeOf x M else if M 7 x.toNatClampNeg = -1 then 0 else if M 8 x.toNatClampNeg = 0 then 0 else 1) := by
  unfold s_key_47
  split
  · exact ⟨rfl, rfl⟩
  · split
    · exact ⟨rfl, rfl⟩
    · split
      · exact ⟨rfl, rfl⟩
      · split
        · exact ⟨rfl, rfl⟩
        · split
          · exact ⟨rfl, rfl⟩
          · split
            · exact ⟨rfl, rfl⟩
            · split
              · exact ⟨rfl, rfl⟩
              · split <;> exact ⟨rfl, rfl⟩
theorem cf_key (h : Inv nt B R C M) (hB : B ≤ 800000) (x w : Int32) : CF g K_X4_key K_X5_key [.int x, .int w] [(1, IOE), (2, IAE)] nt B R C M := by
  obtain ⟨r1, r2, r3, -⟩ := h.r
  have hvb := h.wm.vb
  have hv := h.wm.v
  rcases ix_lt x (N := 32) (by decide) with q | ⟨k, hk, rfl⟩
  · have es : s_key x w M = (0, up M 31 0 1) := by
      unfold s_key
      rw [show s_in x 0 31 = 0 from in_out (N := 31) (by decide) q, if_pos rfl]
    refine cf_thr (k := 1) (E := IOE) (r := s_key x w M) (R' := R) (by decide) (by decide) (fun o => th_key1 q) (fun o => om_key hvb r1 r2 hv r3) ?_ ?_
    · rw [es]; exact h.w
    · rw [es]; exact m31z (M := M)
  · have hi : s_in (nI k) 0 31 = 1 := in_in (N := 31) (by decide) (by omega)
    have hkn : (nI k).toNatClampNeg = k := nI_clamp (by omega)
    rcases wh_ix w with q | ⟨e2, q⟩
    · have es : s_key (nI k) w M = (0, up M 31 0 2) := by
        unfold s_key
        rw [hi, if_neg (by decide), wh_out q, if_pos rfl]
      refine cf_thr (k := 2) (E := IAE) (r := s_key (nI k) w M) (R' := R) (by decide) (by decide) (fun o => th_key2 (nI_pos (by omega)) (nI_lt (b := 32) hk (by decide)) q) (fun o => om_key hvb r1 r2 hv r3) ?_ ?_
      · rw [es]; exact h.w
      · rw [es]; exact m31z (M := M)
    · have hm : Inv nt B R C (up M 31 0 0) := h.m31
      have es : s_key (nI k) w M = s_key_47 (nI k) w 0 (cntS C (nI k) (cn C) 0 0) (up M 31 0 0 12 0).toNatClampNeg (up M 31 0 0) := by
        unfold s_key
        rw [hi, if_neg (by decide), e2, if_neg (by decide)]
        exact hm.cnt (by omega) hk
      obtain ⟨z1, z2⟩ := key_r (x := nI k) (w := w) (c := cntS C (nI k) (cn C) 0 0) (i := (up M 31 0 0 12 0).toNatClampNeg) (M := up M 31 0 0)
      rw [← es] at z1 z2
      have h3 : Inv nt (B + 100) R C (s_key (nI k) w M).2 := by rw [z1]; exact h.w
      have h4 : (s_key (nI k) w M).2 31 0 = 0 := by rw [z1]; exact up_eq
      rw [hkn] at z2
      have fin : ∀ v, (∀ o, RET g K_X4_key 0 0 [.ref (ad g 0), .int (nI k), .int w] nt C M o (some (.int v)) C M o) → (s_key (nI k) w M).1 = v → CF g K_X4_key K_X5_key [.int (nI k), .int w] [(1, IOE), (2, IAE)] nt B R C M := fun v a1 a2 => cf_ret (r := s_key (nI k) w M) (R' := R) (Nat.le_refl _) a1 (fun o => om_key hvb r1 r2 hv r3) h3 h4 a2
      obtain ⟨k1, k2, k3, k4, k5⟩ := hm.k
      have hown : (if C 6 k < 0 then (-1 : Int32) else C 11 (C 6 k).toNatClampNeg) = C 6 k := by
        rcases h.wf.wo k hk with y | y
        · rw [y, if_pos (by decide)]
        · rw [if_neg y.1, h.t.2.2.2.2.2.2.2.2.2.1 _ y.2, nI_self y.1]
      have hsgn : C 6 k < 0 ↔ C 6 k = -1 := by
        rcases h.wf.wo k hk with z | z
        · rw [z]; exact ⟨fun _ => rfl, fun _ => by decide⟩
        · exact ⟨fun y => absurd y z.1, fun y => by rw [y]; decide⟩
      rcases q with rfl | rfl | rfl | rfl | rfl | rfl | rfl
      · refine fin _ (fun o => ok_key0 hk h.wf) ?_
        rw [z2, if_pos rfl]
        rfl
      · refine fin _ (fun o => ok_key1 hk h.wf) ?_
        rw [z2, if_neg (by decide), if_pos rfl, ← k1 k hk]
        exact hown.symm
      · refine fin _ (fun o => ok_key2 hk h.wf) ?_
        rw [z2, if_neg (by decide), if_neg (by decide), if_pos rfl]
        exact (k3 k hk).symm
      · refine fin _ (fun o => ok_key3 hk h.wf) ?_
        rw [z2, if_neg (by decide), if_neg (by decide), if_neg (by decide), if_pos rfl]
        exact (k4 k hk).symm
      · refine fin _ (fun o => ok_key4 hk h.wf) ?_
        rw [z2, if_neg (by decide), if_neg (by decide), if_neg (by decide), if_neg (by decide), if_pos rfl]
        exact (hm.rng hk).symm
      · refine fin _ (fun o => ok_key5 hk h.wf) ?_
        rw [z2, if_neg (by decide), if_neg (by decide), if_neg (by decide), if_neg (by decide), if_neg (by decide), if_pos rfl]
        exact hm.node hk
      · refine fin _ (fun o => ok_key6 hk h.wf) ?_
        rw [z2, if_neg (by decide), if_neg (by decide), if_neg (by decide), if_neg (by decide), if_neg (by decide), if_neg (by decide), ← k1 k hk, ← k2 k hk]
        show (if C 6 k = -1 then (0 : Int32) else if C 7 k = 0 then 0 else 1) = (if C 6 k < 0 then 0 else if C 7 k = 0 then 0 else 1)
        by_cases y : C 6 k = -1
        · rw [if_pos y, if_pos (hsgn.mpr y)]
        · rw [if_neg y, if_neg (fun v => y (hsgn.mp v))]
theorem cf_asOf (h : Inv nt B R C M) (hB : B ≤ 800000) (x s : Int32) : CF g K_X4_asOf K_X5_asOf [.int x, .int s] [(1, IOE), (2, IAE)] nt B R C M := by
  have hvb := h.wm.vb
  have hv := h.wm.v
  have how : ∀ k, k < 32 → ¬ M 7 k = (-1 : Int32) → vp_in (M 7 k) 40 := fun k hk q => h.wm.o40 hk q
  rcases ix_lt x (N := 32) (by decide) with q | ⟨k, hk, rfl⟩
  · have es : s_asOf x s M = (0, up M 31 0 1) := by
      unfold s_asOf
      rw [show s_in x 0 31 = 0 from in_out (N := 31) (by decide) q, if_pos rfl]
    refine cf_thr (k := 1) (E := IOE) (r := s_asOf x s M) (R' := R) (by decide) (by decide) (fun o => th_asOf1 q) (fun o => om_asOf hvb hv how) ?_ ?_
    · rw [es]; exact h.w
    · rw [es]; exact m31z (M := M)
  · have hi : s_in (nI k) 0 31 = 1 := in_in (N := 31) (by decide) (by omega)
    have hkn : (nI k).toNatClampNeg = k := nI_clamp (by omega)
    by_cases q : s < 0 ∨ ¬ s ≤ closedS C
    · have es : s_asOf (nI k) s M = (0, up M 31 0 2) := by
        unfold s_asOf
        rw [hi, if_neg (by decide), h.closed, in_0 (q.imp id Int32.not_le.mp), if_pos rfl]
      refine cf_thr (k := 2) (E := IAE) (r := s_asOf (nI k) s M) (R' := R) (by decide) (by decide) (fun o => th_asOf2 (nI_pos (by omega)) (nI_lt (b := 32) hk (by decide)) q) (fun o => om_asOf hvb hv how) ?_ ?_
      · rw [es]; exact h.w
      · rw [es]; exact m31z (M := M)
    · have q1 : ¬ s < 0 := fun z => q (Or.inl z)
      have q2 : s ≤ closedS C := Classical.not_not.mp (fun z => q (Or.inr z))
      obtain ⟨j, j1, rfl⟩ := nI_of q1
      have hm : Inv nt B R C (up M 31 0 0) := h.m31
      obtain ⟨v1, v2⟩ := hm.va (by omega) hk j1
      have es : s_asOf (nI k) (nI j) M = (aoS C k (nI j), up M 31 0 0) := by
        unfold s_asOf aoS
        rw [hi, if_neg (by decide), h.closed, in_1 q1 (Int32.not_lt.mpr q2), if_neg (by decide), hkn, ← h.k.1 k hk, ← v1]
        rcases h.wf.wo k hk with y | y
        · rw [if_pos y, if_pos (by rw [y]; decide)]
        · rw [if_neg (show ¬ C 6 k = -1 from fun z => y.1 (by rw [z]; decide)), if_neg y.1, ← h.t.2.2.2.2.1 _ y.2, ← h.t.2.2.2.2.2.2.1 _ y.2]
          split
          · split <;> rfl
          · rfl
      refine cf_ret (r := s_asOf (nI k) (nI j) M) (R' := R) (Nat.le_refl _) (fun o => ok_asOf hk h.wf q1 q2) (fun o => om_asOf hvb hv how) ?_ ?_ ?_
      · rw [es]; exact h.w
      · rw [es]; exact m31z (M := M)
      · rw [es]
theorem rs_ok (h : Inv nt B R C M) (hB : B ≤ 900000) : ∀ (n i : Nat) (s : Int32), i + n = nt → bd B s → s_resolvedNow_7 n s i M = rsS C n i s ∧ bd B (rsS C n i s)
  | 0, i, s, hi, hs => ⟨rfl, hs⟩
  | n + 1, i, s, hi, hs => by
    have hn := h.wf.n40
    have e33 : (C 33 i).toNatClampNeg = i := by rw [h.wf.x33 i (by omega), nI_clamp (by omega)]
    obtain ⟨⟨a, a1, a2⟩, a3⟩ := h.t.2.2.2.2.2.2.2.2.2.2.2.1 i (by omega)
    unfold s_resolvedNow_7 rsS
    rw [e33, ← h.t.2.2.2.2.1 i (by omega), ← h.t.2.2.2.2.2.2.1 i (by omega)]
    have hbw : bd B (C 17 i - 1) := by
      obtain ⟨a', rfl⟩ : ∃ a', a = a' + 1 := by
        rcases Nat.eq_zero_or_pos a with z | z
        · subst z; exact absurd a2 a3
        · exact ⟨a - 1, by omega⟩
      rw [a2, nI_pred]
      exact bd_nI (by omega)
    by_cases q1 : C 15 i = 1
    · rw [if_pos q1, if_pos q1]
      unfold mn
      by_cases q2 : s ≤ C 17 i - 1
      · rw [if_pos q2, if_neg (Int32.not_lt.mpr q2)]
        exact rs_ok h hB n (i + 1) s (by omega) hs
      · rw [if_neg q2, if_pos (Int32.not_le.mp q2)]
        exact rs_ok h hB n (i + 1) _ (by omega) hbw
    · rw [if_neg q1, if_neg q1]
      exact rs_ok h hB n (i + 1) s (by omega) hs
theorem Inv.rsv (h : Inv nt B R C M) (hB : B ≤ 900000) : s_resolvedNow M = rsS C nt 0 (closedS C) ∧ bd B (rsS C nt 0 (closedS C)) := by
  have hn := h.wf.n40
  unfold s_resolvedNow
  rw [h.m16, nI_clamp (by omega), h.closed]
  exact rs_ok h hB nt 0 _ (by omega) ((closed_bd h).mono (by have := h.n.1; omega))
theorem cf_resolved (h : Inv nt B R C M) (hB : B ≤ 900000) : CF g K_X4_resolved K_X5_resolved [] [] nt B R C M := by
  have hm : Inv nt B R C (up M 31 0 0) := h.m31
  exact cf_ret (r := s_resolved M) (R' := R) (Nat.le_refl _) (fun o => ok_resolved h.wf) (fun o => om_resolved h.wf.n40 h.m16) h.w (m31z (M := M)) (hm.rsv hB).1
theorem f23_2 {x l s : Int32} : ∀ {n i : Nat} {l : Int32}, (s_feed_23 x n l s i M).2 = M
  | 0, i, l => by
    unfold s_feed_23
    split <;> rfl
  | n + 1, i, l => by
    unfold s_feed_23
    split
    · split <;> rfl
    · split
      · split
        · rfl
        · exact f23_2 (l := l)
      · first | rfl | (split <;> rfl)
theorem cf_feed (h : Inv nt B R C M) (hB : B ≤ 800000) (x : Int32) : CF g K_X4_feed K_X5_feed [.int x] [(1, IOE)] nt B R C M := by
  have hn := h.wf.n40
  have hvb := h.wm.vb
  have hv := h.wm.v
  by_cases q : x < 0
  · have e2 : (s_feed x M).2 = up M 31 0 1 := by
      unfold s_feed
      rw [if_neg (Int32.not_le.mpr q)]
      exact f23_2 (l := 0)
    refine cf_thr (k := 1) (E := IOE) (r := s_feed x M) (R' := R) (by decide) (by decide) (fun o => th_feed q) (fun o => om_feed hvb hn hv h.m16) ?_ ?_
    · rw [e2]; exact h.w
    · rw [e2]; exact up_eq
  · obtain ⟨j, j1, rfl⟩ := nI_of q
    have hm : Inv nt B R C (up M 31 0 0) := h.m31
    obtain ⟨s1, s, s2, s3⟩ := hm.rsv (by omega)
    have es : s_feed (nI j) M = s_feed_23 (nI j) 1301 (-1) (nI s) 0 (up M 31 0 0) := by
      unfold s_feed
      rw [if_pos (Int32.not_lt.mp q), s1, s3]
    have e2 : (s_feed (nI j) M).2 = up M 31 0 0 := by
      rw [es]
      exact f23_2 (l := 0)
    have e1 := hm.feed (by omega) up_eq (show s < 2 ^ 31 by omega) j1
    refine cf_ret (r := s_feed (nI j) M) (R' := R) (Nat.le_refl _) (fun o => ok_feed h.wf q) (fun o => om_feed hvb hn hv h.m16) ?_ ?_ ?_
    · rw [e2]; exact h.w
    · rw [e2]; exact up_eq
    · rw [es, e1, s3]
theorem cf_order (h : Inv nt B R C M) (x : Int32) : CF g K_X4_order K_X5_order [.int x] [(1, IOE)] nt B R C M := by
  have hn := h.wf.n40
  by_cases q : x < 0
  · have ex : x.toNatClampNeg = 0 := by
      have := Int32.lt_iff_toInt_lt.mp q
      rw [show (0 : Int32).toInt = 0 from by decide] at this
      show x.toInt.toNat = 0
      omega
    have es : s_order x M = (0, up M 31 0 1) := by
      unfold s_order
      rw [if_neg (Int32.not_le.mpr q), ex]
      unfold s_order_32
      rw [up_eq, if_neg (by decide)]
    refine cf_thr (k := 1) (E := IOE) (r := s_order x M) (R' := R) (by decide) (by decide) (fun o => th_order q) (fun o => om_order hn h.m16) ?_ ?_
    · rw [es]; exact h.w
    · rw [es]; exact m31z (M := M)
  · obtain ⟨j, j1, rfl⟩ := nI_of q
    have hm : Inv nt B R C (up M 31 0 0) := h.m31
    obtain ⟨o1, o2⟩ := hm.order up_eq j1
    have es : s_order (nI j) M = s_order_32 (nI j) j (s_next (-1) (up M 31 0 0)) 0 (up M 31 0 0) := by
      unfold s_order
      rw [if_pos (Int32.not_lt.mp q), nI_clamp j1]
    refine cf_ret (r := s_order (nI j) M) (R' := R) (Nat.le_refl _) (fun o => ok_order h.wf q) (fun o => om_order hn h.m16) ?_ ?_ ?_
    · rw [es, o2]; exact h.w
    · rw [es, o2, up_eq]
    · rw [es, o1]
theorem cu_27 : ∀ {n i : Nat} {a : Int32} {C : St}, (cuS n i a C).2 27 = C 27
  | 0, _, _, _ => rfl
  | n + 1, i, a, C => by
    have : ∀ (t n i : Nat) (D : St), rdC t n i D 27 = D 27 := by
      intro t n
      induction n with
      | zero => intro i D; rfl
      | succ n ih =>
        intro i D
        unfold rdC
        rw [ih]
        split
        · rfl
        · exact up_row (by decide)
    unfold cuS
    rw [cu_27, this]
theorem fi_27 : ∀ {n i : Nat} {C : St}, fillS 1000 n i C 27 = C 27
  | 0, _, _ => rfl
  | n + 1, i, C => by
    unfold fillS
    rw [fi_27, up_row (by decide)]
theorem cf_judged (h : Inv nt B R C M) : CF g K_X4_judged K_X5_judged [] [] nt B R C M := by
  obtain ⟨j1, j2, j3⟩ := h.judged
  have hc : cap (cuS (km C) 0 0 (fillS 1000 32 0 C)).2 = cap C := cap_27 (cu_27.trans fi_27)
  refine cf_ret (r := s_judged M) (R' := R) (by omega) (fun o => ok_judged h.wf) (fun o => om_judged h.wf.n40 h.m16) (j2.mono (by omega)) j3 j1
end CFQ
