/-! committing, recovering, meeting: both sides -/
section CMT
variable {nt B R : Nat} {C M : St}
theorem rep_un {L L0 : List (Nat × Nat × Int32)} {c28 c29 : Nat → Int32} (hB : B ≤ 900000) (h : RepC L c28 c29) (h0 : RepC L0 c28 c29) (ho : ∀ e ∈ L, okE B e) (ho0 : ∀ e ∈ L0, okE B e) (hl : L.length = L0.length) : ∀ e ∈ L, ∃ e0 ∈ L0, e0.1 = e.1 ∧ e0.2.1 = e.2.1 := by
  intro e he
  obtain ⟨p, hp⟩ := List.mem_iff_getElem?.mp he
  have hp2 := (List.getElem?_eq_some_iff.mp hp).1
  have hp0 : L0[p]? = some L0[p] := List.getElem?_eq_getElem (by omega)
  have o1 := ho e he
  have o2 := ho0 L0[p] (List.getElem_mem _)
  have e1 := (h p e hp).1
  have e2 := (h0 p _ hp0).1
  have e3 := (nI_eq (ch_lt o1 hB) (ch_lt o2 hB)).mp (e1.symm.trans e2)
  have k1 := o1.2.1
  have k2 := o2.2.1
  refine ⟨L0[p], List.getElem_mem _, ?_, ?_⟩ <;> omega
theorem acs_ok {t : Int32} {q : Nat} : ∀ (p : Nat) (C : St), q ≤ p → (∀ j, j < q → C 17 (C 30 j).toNatClampNeg ≤ C 17 t.toNatClampNeg) → (∀ j, q ≤ j → j < p → ¬ C 17 (C 30 j).toNatClampNeg ≤ C 17 t.toNatClampNeg) → ∀ j, acS t p C 30 j = if j < q then C 30 j else if j = q then t else if j ≤ p then C 30 (j - 1) else C 30 j
  | 0, C, h1, h2, h3, j => by
    have : q = 0 := by omega
    subst this
    show up C 30 0 t 30 j = _
    rw [up_self, if_neg (by omega)]
    by_cases e : j = 0
    · rw [e, pk_us, if_pos rfl]
    · rw [pk_un e, if_neg e, if_neg (by omega)]
  | p + 1, C, h1, h2, h3, j => by
    unfold acS
    by_cases z : C 17 (C 30 p).toNatClampNeg ≤ C 17 t.toNatClampNeg
    · rw [if_pos z]
      have eq : q = p + 1 := by
        apply Classical.byContradiction
        intro y
        exact h3 p (by omega) (by omega) z
      subst eq
      rw [up_self]
      by_cases e : j = p + 1
      · rw [e, pk_us, if_neg (by omega), if_pos rfl]
      · rw [pk_un e]
        by_cases e2 : j < p + 1
        · rw [if_pos e2]
        · rw [if_neg e2, if_neg e, if_neg (by omega)]
    · rw [if_neg z]
      have hq : q ≤ p := by
        apply Classical.byContradiction
        intro y
        exact z (h2 p (by omega))
      have r30 : ∀ j, up C 30 (p + 1) (C 30 p) 30 j = if j = p + 1 then C 30 p else C 30 j := by
        intro j
        rw [up_self]
        by_cases e : j = p + 1
        · rw [e, pk_us, if_pos rfl]
        · rw [pk_un e, if_neg e]
      rw [acs_ok (t := t) (q := q) p (up C 30 (p + 1) (C 30 p)) hq (fun j hj => by rw [r30 j, if_neg (by omega), up_row (by decide)]; exact h2 j hj) (fun j h4 h5 => by rw [r30 j, if_neg (by omega), up_row (by decide)]; exact h3 j h4 (by omega)) j, r30 j, r30 (j - 1)]
      by_cases e1 : j < q
      · rw [if_pos e1, if_pos e1, if_neg (by omega)]
      · rw [if_neg e1, if_neg e1]
        by_cases e2 : j = q
        · rw [if_pos e2, if_pos e2]
        · rw [if_neg e2, if_neg e2]
          by_cases e3 : j ≤ p
          · rw [if_pos e3, if_neg (by omega), if_pos (by omega)]
          · rw [if_neg e3]
            by_cases e4 : j = p + 1
            · rw [if_pos e4, if_pos (by omega), e4, Nat.add_sub_cancel]
            · rw [if_neg e4, if_neg (by omega)]
theorem Inv.cq (h : Inv nt B R C M) {t : Nat} (ht : t < nt) (h2 : C 15 t ≠ 2) : IZ nt B R (dsC C (nI t)) (up (up (up M 23 t 2) 25 t (M 26 0)) 26 0 ((M 26 0) + (1 : Int32))) := by
  have hn := h.wf.n40
  obtain ⟨c, kk, hwf⟩ := h.wf.hi
  have hk40 := WF.k40 hwf h2 ht hn
  obtain ⟨hW, hN, hR, hK, ⟨t0, t1, t2, t3, t4, t5, t6, t7, t8, t9, ta, tb, tc, td, te⟩, hG, hO, hV, ⟨Q, q1, q2, q3, q4, q5, q6, q7⟩⟩ := h
  have ek : kk = Q.length := (nI_eq (by omega) (by omega)).mp (hwf.2.1.symm.trans q2)
  subst ek
  have ekm : km C = Q.length := by unfold km; rw [q2, nI_clamp (by omega)]
  have htn : (nI t).toNatClampNeg = t := nI_clamp (by omega)
  have hQ17 : ∀ j a, Q[j]? = some a → (C 30 j).toNatClampNeg = a := fun j a ha => by
    rw [q4 j a ha, nI_clamp (by have := (q6 a (List.mem_of_getElem? ha)).1; omega)]
  have hpr : ∀ a b, (C 17 a < C 17 b ∨ (C 17 a = C 17 b ∧ M 25 a < M 25 b)) → C 17 a ≤ C 17 b := fun a b z => by
    rcases z with z | z
    · exact Int32.le_of_lt z
    · rw [z.1]; exact Int32.le_refl _
  obtain ⟨q, c1, c2, c3⟩ := cut_at (fun a : Nat => C 17 a ≤ C 17 t) (fun a => Classical.em _) Q (fun i j a b hij ha hb hP => Int32.le_trans (hpr a b (q_nth q7 ha hb hij)) hP) Q.length (Nat.le_refl _)
  have hac := acs_ok (t := nI t) (q := q) Q.length (up C 15 t 2) c1 (fun j hj => by
    have he : Q[j]? = some Q[j] := List.getElem?_eq_getElem (by omega)
    rw [up_row (by decide), up_row (by decide), hQ17 j _ he, htn]
    exact c2 j _ hj he) (fun j h1 h3 => by
    have he : Q[j]? = some Q[j] := List.getElem?_eq_getElem (by omega)
    rw [up_row (by decide), up_row (by decide), hQ17 j _ he, htn]
    exact c3 j _ h1 h3 he)
  have r (w : Nat) (h0 : w ≠ 30) (h1 : w ≠ 31) (h3 : w ≠ 15) : dsC C (nI t) w = C w := dsC_row h0 h1 h3
  have hcnd : up C 15 t 2 31 0 < 40 := by rw [up_row (by decide), q2]; exact nI_lt (b := 40) hk40 (by decide)
  have r15 : dsC C (nI t) 15 = upd (C 15) t 2 := by
    unfold dsC
    rw [addCoS_row (by decide) (by decide), htn, up_self]
  have r31 : dsC C (nI t) 31 0 = nI (Q.length + 1) := by
    unfold dsC addCoS
    rw [htn, if_pos hcnd, up_eq, acS_row (by decide), up_row (by decide), q2, nI_1]
  have r30 : ∀ j, dsC C (nI t) 30 j = if j < q then C 30 j else if j = q then nI t else if j ≤ Q.length then C 30 (j - 1) else C 30 j := by
    intro j
    unfold dsC addCoS
    rw [htn, if_pos hcnd, up_row (by decide), ekm, hac j, up_row (by decide)]
  have e0 : (fun i => dsC C (nI t) (50 + 3 * i)) = fun i => C (50 + 3 * i) := by funext i; exact r _ (by omega) (by omega) (by omega)
  have e1 : (fun i => dsC C (nI t) (51 + 3 * i)) = fun i => C (51 + 3 * i) := by funext i; exact r _ (by omega) (by omega) (by omega)
  have e2 : (fun i => dsC C (nI t) (52 + 3 * i)) = fun i => C (52 + 3 * i) := by funext i; exact r _ (by omega) (by omega) (by omega)
  unfold IZ
  rw [e0, e1, e2, r15]
  simp (disch := decide) only [r, up_row, up_self]
  generalize dsC C (nI t) 31 = c31 at r31
  generalize dsC C (nI t) 30 = c30 at r30
  have hti : t ∉ Q := fun z => h2 ((q5 t ht).mpr z)
  refine ⟨hN, hR, hK, ⟨t0, t1, t2, t3, t4.upd, t5, t6, t7, t8, t9, ta, tb, tc, td, te⟩, hG, hO, hV, ⟨Q.take q ++ t :: Q.drop q, ?_, ?_, ?_, ?_, ?_, ?_, ?_⟩⟩
  · rw [ins_perm.length_eq]
    show Q.length + 1 ≤ 40
    omega
  · rw [r31, ins_perm.length_eq]
    rfl
  · rw [pk_us, ins_perm.length_eq, q3, nI_1]
    rfl
  · intro j a ha
    rw [ins_nth c1] at ha
    rw [r30 j]
    by_cases h1 : j < q
    · rw [if_pos h1] at ha ⊢
      exact q4 j a ha
    · rw [if_neg h1] at ha ⊢
      by_cases h3 : j = q
      · rw [if_pos h3] at ha ⊢
        rw [← Option.some.inj ha]
      · rw [if_neg h3] at ha ⊢
        have hj := (List.getElem?_eq_some_iff.mp ha).1
        rw [if_pos (by omega)]
        exact q4 (j - 1) a ha
  · intro j hj
    rw [ins_perm.mem_iff, List.mem_cons]
    by_cases e : j = t
    · subst e
      rw [pk_us]
      exact ⟨fun _ => Or.inl rfl, fun _ => rfl⟩
    · rw [pk_un e, q5 j hj]
      exact ⟨Or.inr, fun z => z.resolve_left e⟩
  · intro j hj
    rw [ins_perm.length_eq]
    rcases List.mem_cons.mp (ins_perm.mem_iff.mp hj) with e | hj
    · subst e
      rw [pk_us, q3]
      exact ⟨ht, Q.length, Nat.lt_succ_self _, rfl⟩
    · have e : j ≠ t := fun z => hti (z ▸ hj)
      rw [pk_un e]
      obtain ⟨z1, a, z2, z3⟩ := q6 j hj
      exact ⟨z1, a, Nat.lt_succ_of_lt z2, z3⟩
  · refine ins_pair ?_ (fun a ha => ?_) (fun a ha => ?_)
    · refine List.Pairwise.imp_of_mem ?_ q7
      intro a b ha hb hab
      have ea : a ≠ t := fun z => hti (z ▸ ha)
      have eb : b ≠ t := fun z => hti (z ▸ hb)
      rw [pk_un ea, pk_un eb]
      exact hab
    · obtain ⟨j, j1, j2⟩ := mem_take ha
      have ea : a ≠ t := fun z => hti (z ▸ List.mem_of_getElem? j2)
      have h5 : C 17 a ≤ C 17 t := c2 j a j1 j2
      rw [pk_un ea, pk_us, q3]
      obtain ⟨z1, b, z2, z3⟩ := q6 a (List.mem_of_getElem? j2)
      by_cases e : C 17 a = C 17 t
      · exact Or.inr ⟨e, by rw [z3]; exact nI_lt z2 (by omega)⟩
      · exact Or.inl (Int32.lt_of_le_of_ne h5 e)
    · obtain ⟨j, j1, j2⟩ := mem_drop ha
      have h5 := c3 j a j1 (List.getElem?_eq_some_iff.mp j2).1 j2
      exact Or.inl (Int32.not_le.mp h5)
theorem IZ.own0 (h : IZ nt B R C M) (hn : nt ≤ 40) {k : Nat} : IZ nt B R (up C 6 k (-1)) (up M 7 k (-1)) := by
  obtain ⟨hN, hR, ⟨k1, k2, k3, k4, k5⟩, hT, hG, hO, ⟨L, L', v1, v2, v3, v4, v5, v6, v7, v8, v9⟩, hQ⟩ := h
  simp (disch := decide) only [IZ, up_row, up_t0, up_t1, up_t2, up_self]
  refine ⟨hN, hR, ⟨k1.upd, k2, k3, k4, k5⟩, hT, hG, ?_, ⟨L, L', v1, v2, v3, v4, v5, v6, v7, v8, ?_⟩, hQ⟩
  · intro j i hj hi q
    by_cases e : j = k
    · subst e
      rw [pk_us] at q
      exact absurd q (ne_nI (by omega))
    · rw [pk_un e] at q
      exact hO j i hj hi q
  · intro j i hj hi q
    by_cases e : j = k
    · subst e
      rw [pk_us] at q
      exact absurd q (ne_nI (by omega))
    · rw [pk_un e] at q
      exact v9 j i hj hi q
theorem dl_ok (hB : B ≤ 900000) (hn : nt ≤ 40) {t st : Nat} (ht : t < nt) (hst : st ≤ B) : ∀ (n i : Nat) (C M : St), i + n = 32 → IZ nt B R C M → HH C n → (∀ k, i ≤ k → k < 32 → (bt (C 21 t) k = true ↔ C 6 k = nI t)) → C 17 t = nI st → IZ nt B R (dsL t n i C) (s_commits_29 t n i M)
  | 0, i, C, M, hi, h, hH, hb, h17 => h
  | n + 1, i, C, M, hi, h, hH, hb, h17 => by
    unfold dsL s_commits_29
    have hN := h
    obtain ⟨-, -, ⟨k1, -⟩, ⟨t0, t1, t2, t3, t4, t5, t6, t7, t8, t9, ta, tb, tc, td, te⟩, ⟨-, g2, -⟩, hO, ⟨L0, L', v1, v2, v3, v4, v5, v6, v7, v8, v9⟩, -⟩ := h
    rw [← k1 i (by omega)]
    by_cases q : C 6 i = nI t
    · have hbit := (hb i (Nat.le_refl _) (by omega)).mpr q
      obtain ⟨o1, o2⟩ := hO i t (by omega) ht q
      have hv : bd 1000 (C (51 + 3 * t) i) := (g2 t ht i (by omega)).2 hbit
      rw [if_pos q, hbit, show bI true = 1 from rfl, if_neg (show ¬ (1 : Int32) = 0 by decide)]
      have hHi : HH (up C 6 i (-1)) 1 := by
        obtain ⟨c, y1, y2, y3⟩ := HH_up (v := 6) (i := i) (x := -1) hH (by decide) (by decide) (by decide)
        exact ⟨c, y1, by omega, y3⟩
      have h1 := (hN.own0 hn (k := i)).addv hB hHi (st := st) (k := i) (v := C (51 + 3 * t) i) hst (by omega) hv (by rw [up_eq]) hn (by
        intro L z1 z2 z3 z4 z5 e he ek
        rw [up_row (by decide)] at z1 z2
        rw [up_row (by decide)] at z1
        obtain ⟨e0, y1, y2, y3⟩ := rep_un hB z1 v5 z4 v7 ((nI_eq (by omega) (by omega)).mp (z2.symm.trans v2)) e he
        have := v9 i t (by omega) ht q e0 y1 (by omega)
        rw [h17, y2] at this
        exact (nI_ltI (by have := (z4 e he).1; omega) (by omega)).mp this)
      have eC : addS (up C 6 i (-1)) (nI st) (nI i) (C (51 + 3 * t) i) = ds1 t i C := by
        unfold ds1
        rw [up_row (by decide), h17, up_t1 (by decide)]
      have eM : up (up (up (up (up M 7 i (-1)) 13 (up M 7 i (-1) 12 0).toNatClampNeg (nI i)) 14 (up M 7 i (-1) 12 0).toNatClampNeg (nI st)) 15 (up M 7 i (-1) 12 0).toNatClampNeg (C (51 + 3 * t) i)) 12 0 ((up M 7 i (-1) 12 0) + (1 : Int32)) = up (up (up (up (up M 13 (M 12 0).toNatClampNeg (nI i)) 14 (M 12 0).toNatClampNeg (M 20 t)) 15 (M 12 0).toNatClampNeg (M 9 i)) 12 0 ((M 12 0) + (1 : Int32))) 7 i (-1 : Int32) := by
        rw [show up M 7 i (-1) 12 = M 12 from up_row (by decide), ← t6 t ht, h17, o2]
        rw [up_comm (v := 7) (w := 13) (by decide), up_comm (v := 7) (w := 14) (by decide), up_comm (v := 7) (w := 15) (by decide), up_comm (v := 7) (w := 12) (by decide)]
      rw [eC, eM] at h1
      refine dl_ok hB hn ht hst n (i + 1) _ _ (by omega) h1 hH.ds1 (fun k hk1 hk2 => ?_) ?_
      · rw [ds1_row (by decide) (by decide) (by decide) (by decide) (by decide) (by decide)]
        have e6 : ds1 t i C 6 k = C 6 k := by
          unfold ds1
          rw [addS_row (by decide) (by decide) (by decide) (by decide) (by decide), up_ne (Or.inr (by omega))]
        rw [e6]
        exact hb k (by omega) hk2
      · rw [ds1_row (by decide) (by decide) (by decide) (by decide) (by decide) (by decide)]
        exact h17
    · have hbit : bt (C 21 t) i = false := Bool.eq_false_iff.mpr (fun z => q ((hb i (Nat.le_refl _) (by omega)).mp z))
      rw [if_neg q, hbit, show bI false = 0 from rfl, if_pos rfl]
      exact dl_ok hB hn ht hst n (i + 1) C M (by omega) hN hH.skip (fun k h1 h2 => hb k (by omega) h2) h17
theorem ha_ok (h : Inv nt B R C M) {t : Nat} (ht : t < nt) : ∀ (n i : Nat), i + n = 32 → s_hasAllIntents_4 t n 1 i M = haS C (nI t) n i ∧ (haS C (nI t) n i = 1 → ∀ k, i ≤ k → k < 32 → bt (C 21 t) k = true → C 6 k = nI t) ∧ (haS C (nI t) n i = 0 ∨ haS C (nI t) n i = 1)
  | 0, i, hi => ⟨rfl, fun _ k h1 h2 => by omega, Or.inr rfl⟩
  | n + 1, i, hi => by
    have hn := h.wf.n40
    have z0 : ∀ (n i : Nat), s_hasAllIntents_4 t n 0 i M = 0 := by
      intro n
      induction n with
      | zero => intro i; rfl
      | succ n ih =>
        intro i
        unfold s_hasAllIntents_4
        rw [if_pos rfl]
        exact ih _
    obtain ⟨i1, i2, i3⟩ := ha_ok h ht n (i + 1) (by omega)
    unfold s_hasAllIntents_4 haS
    have g := h.wr t ht i (by omega)
    rw [if_neg (show ¬ (1 : Int32) = 0 by decide), g.1, nI_clamp (by omega), ← h.k.1 i (by omega)]
    by_cases q : bt (C 21 t) i = true
    · rw [if_pos q, if_neg (bd_m1 (g.2 q) (by decide)), q, show bI true = 1 from rfl, if_neg (show ¬ (1 : Int32) = 0 by decide)]
      by_cases q2 : C 6 i = nI t
      · rw [if_pos q2, if_pos q2]
        refine ⟨i1, fun z k h1 h2 h3 => ?_, i3⟩
        rcases Nat.eq_or_lt_of_le h1 with e | e
        · subst e; exact q2
        · exact i2 z k e h2 h3
      · rw [if_neg q2, if_neg q2]
        exact ⟨z0 n (i + 1), fun z => absurd z (by decide), Or.inl rfl⟩
    · have q' : bt (C 21 t) i = false := Bool.eq_false_iff.mpr q
      rw [if_neg q, if_pos rfl, q', show bI false = 0 from rfl, if_pos rfl]
      refine ⟨i1, fun z k h1 h2 h3 => ?_, i3⟩
      rcases Nat.eq_or_lt_of_le h1 with e | e
      · subst e; exact absurd h3 q
      · exact i2 z k e h2 h3
theorem Inv.ha (h : Inv nt B R C M) {t : Nat} (ht : t < nt) : s_hasAllIntents t M = haS C (nI t) 32 0 := (ha_ok h ht 32 0 (by omega)).1
theorem Inv.commits (h : Inv nt B R C M) (hB : B ≤ 900000) {t : Nat} (ht : t < nt) (h2 : C 15 t ≠ 2) (ha : ¬ haS C (nI t) 32 0 = 0) : IZ nt B R (dsL t 32 0 (dsC C (nI t))) (s_commits t M) := by
  have hn := h.wf.n40
  have htk : tok nt (nI t) := tok_nI ht hn
  have htn : (nI t).toNatClampNeg = t := nI_clamp (by omega)
  obtain ⟨⟨st, s1, s2⟩, s3⟩ := h.t.2.2.2.2.2.2.2.2.2.2.2.1 t ht
  obtain ⟨a1, a2, a3⟩ := ha_ok h ht 32 0 (by omega)
  have a2 := a2 (a3.resolve_left ha)
  unfold s_commits
  refine dl_ok hB hn ht s1 32 0 _ _ (by omega) (h.cq ht h2) (h.wf.HHc htk (by rw [htn]; exact h2)) (fun k _ hk => ?_) ?_
  · rw [dsC_row (by decide) (by decide) (by decide), dsC_row (by decide) (by decide) (by decide)]
    exact ⟨a2 k (by omega) hk, fun z => (h.o k t hk ht z).1⟩
  · rw [dsC_row (by decide) (by decide) (by decide)]
    exact s2
theorem Inv.rec (h : Inv nt B R C M) (hB : B ≤ 900000) {t : Nat} (ht : t < nt) (h2 : C 15 t ≠ 2) : Inv nt B R (decS C (nI t)) (s_recovers t M) := by
  have hn := h.wf.n40
  have htk : tok nt (nI t) := tok_nI ht hn
  have htn : (nI t).toNatClampNeg = t := nI_clamp (by omega)
  have hW := WF_dec h.wf htk (by rw [htn]; exact h2)
  unfold s_recovers
  rw [h.ha ht]
  unfold decS at hW ⊢
  rw [htn] at hW ⊢
  by_cases q : haS C (nI t) 32 0 = 0
  · rw [if_pos q, if_pos q]
    exact h.r15 ht h2 (by decide)
  · rw [if_neg q] at hW
    rw [if_neg q, if_neg q]
    exact ⟨hW, h.commits hB ht h2 q⟩
theorem Inv.van (h : Inv nt B R C M) {t : Nat} (ht : t < nt) : s_isVanished t M = vanB C t (C 0 0) := by
  obtain ⟨t0, t1, t2, t3, t4, t5, t6, t7, t8, t9, ta, tb, tc, td, te⟩ := h.t
  unfold s_isVanished vanB
  rw [← t4 t ht, ← t7 t ht, ← h.n.2.1]
  by_cases q : C 15 t = 0
  · rw [if_pos q, if_pos (Or.inl q)]
  · rw [if_neg q]
    by_cases q2 : C 15 t = 1
    · rw [if_pos q2, if_pos (Or.inr q2)]
    · rw [if_neg q2, if_neg (fun z => z.elim q q2)]
theorem dec15 {t : Nat} (ht : t < 40) : decS C (nI t) 15 t ≠ 1 := by
  have htn : (nI t).toNatClampNeg = t := nI_clamp (by omega)
  unfold decS
  split
  · rw [htn, up_eq]; decide
  · rw [dsL_row (by decide) (by decide) (by decide) (by decide) (by decide) (by decide)]
    unfold dsC
    rw [addCoS_row (by decide) (by decide), htn, up_eq]
    decide
/-- meeting an intent: the same answer; what both sides hold behind it -/
theorem Inv.meet (h : Inv nt B R C M) (hB : B ≤ 900000) {t k : Nat} (ht : t < nt) (hk : k < 32) : (s_meets t k M).1 = meetR C (nI t) k ∧ Inv nt B R (meetC C (nI t) k) (s_meets t k M).2 := by
  have hn := h.wf.n40
  have e6 := h.k.1 k hk
  unfold s_meets meetR meetC
  rw [← e6]
  rcases h.wf.wo k hk with q | q
  · rw [q, if_pos rfl, if_pos (by decide), if_pos (by decide)]
    exact ⟨rfl, h⟩
  · have hu : C 6 k = nI (C 6 k).toNatClampNeg := (nI_self q.1).symm
    have hun := q.2
    generalize (C 6 k).toNatClampNeg = u at hu hun
    have hutn : (nI u).toNatClampNeg = u := nI_clamp (by omega)
    rw [hu, if_neg (show ¬ nI u = (-1 : Int32) from fun z => ne_nI (by omega) z.symm), if_neg (nI_pos (by omega)), if_neg (nI_pos (by omega))]
    by_cases q2 : nI u = nI t
    · rw [if_pos q2, if_pos q2, if_pos q2]
      exact ⟨rfl, h⟩
    · rw [if_neg q2, if_neg q2, if_neg q2]
      -- the intent of one that is staged is decided
      obtain ⟨M1, hM1, h1, h15⟩ : ∃ M1, (if M 23 u = 1 then s_meets_34 t k (nI u) (s_recovers u M) else s_meets_34 t k (nI u) M) = s_meets_34 t k (nI u) M1 ∧ Inv nt B R (m1S C (nI u)) M1 ∧ m1S C (nI u) 15 u ≠ 1 := by
        unfold m1S
        rw [hutn, ← h.t.2.2.2.2.1 u hun]
        by_cases q3 : C 15 u = 1
        · rw [if_pos q3, if_pos q3]
          exact ⟨_, rfl, h.rec hB hun (by rw [q3]; decide), dec15 (by omega)⟩
        · rw [if_neg q3, if_neg q3]
          exact ⟨_, rfl, h, q3⟩
      rw [hM1]
      generalize m1S C (nI u) = C1 at h1 h15
      -- one that vanished is aborted
      obtain ⟨M2, hM2, h2⟩ : ∃ M2, s_meets_34 t k (nI u) M1 = s_meets_49 t k (nI u) M2 ∧ Inv nt B R (m2S C1 (nI u)) M2 := by
        unfold s_meets_34 m2S
        rw [hutn, h1.van hun]
        by_cases q3 : C1 15 u = 0
        · rw [if_pos q3]
          by_cases q4 : vanB C1 u (C1 0 0) = 0
          · rw [if_pos q4, if_pos q4]
            exact ⟨_, rfl, h1⟩
          · rw [if_neg q4, if_neg q4]
            exact ⟨_, rfl, h1.r15 hun (by rw [q3]; decide) (by decide)⟩
        · rw [if_neg q3]
          have : vanB C1 u (C1 0 0) = 0 := by
            unfold vanB
            rw [if_neg (fun z => z.elim q3 h15)]
          rw [if_pos this]
          exact ⟨_, rfl, h1⟩
      rw [hM2]
      generalize m2S C1 (nI u) = C2 at h2
      unfold s_meets_49 m3S mrS
      rw [hutn, ← h2.t.2.2.2.2.1 u hun]
      by_cases q3 : C2 15 u = 3
      · rw [if_pos q3, if_pos q3, if_neg (by rw [q3]; decide), up_row (by decide), if_neg (by rw [q3]; decide)]
        exact ⟨rfl, h2.own0⟩
      · rw [if_neg q3, if_neg q3]
        by_cases q4 : C2 15 u = 0
        · rw [if_pos q4, if_pos q4]
          exact ⟨rfl, h2⟩
        · rw [if_neg q4, if_neg q4]
          exact ⟨rfl, h2⟩
end CMT
