/-! commit, recover: both sides; bits counted -/
/-- how many of the bits i .. i + n - 1 are set -/
def bcn (x : Int32) : Nat → Nat → Nat
  | 0, _ => 0
  | n + 1, i => (if bt x i = true then 1 else 0) + bcn x n (i + 1)
theorem bcn_0 {x : Int32} : ∀ {n i : Nat}, bcn x n i = 0 → ∀ k, i ≤ k → k < i + n → bt x k = false
  | 0, i, _, k, h1, h2 => by omega
  | n + 1, i, h, k, h1, h2 => by
    unfold bcn at h
    by_cases q : bt x i = true
    · rw [if_pos q] at h
      omega
    · rw [if_neg q] at h
      rcases Nat.eq_or_lt_of_le h1 with e | e
      · subst e; exact Bool.eq_false_iff.mpr q
      · exact bcn_0 (n := n) (i := i + 1) (by omega) k e (by omega)
theorem bcn_z : ∀ {n i : Nat}, bcn 0 n i = 0
  | 0, _ => rfl
  | n + 1, i => by
    unfold bcn
    rw [b_0, if_neg (by decide), bcn_z]
theorem bcn_le {x : Int32} : ∀ {n i : Nat}, bcn x n i ≤ n
  | 0, _ => Nat.le_refl 0
  | n + 1, i => by
    have := bcn_le (x := x) (n := n) (i := i + 1)
    unfold bcn
    split <;> omega
section COM
variable {nt B R : Nat} {C M : St}
theorem cw_ok (h : Inv nt B R C M) {t : Nat} (ht : t < nt) : ∀ (n i a : Nat), i + n = 32 → s_countsWritten_5 t n (nI a) i M = nI (a + bcn (C 21 t) n i)
  | 0, i, a, _ => rfl
  | n + 1, i, a, hi => by
    have g := h.wr t ht i (by omega)
    unfold s_countsWritten_5 bcn
    rw [g.1]
    by_cases q : bt (C 21 t) i = true
    · rw [if_pos q, if_neg (bd_m1 (g.2 q) (by decide)), if_pos q, nI_1, cw_ok h ht n (i + 1) (a + 1) (by omega)]
      congr 1
      omega
    · rw [if_neg q, if_pos rfl, if_neg q, Int32.add_zero, cw_ok h ht n (i + 1) a (by omega)]
      congr 1
      omega
theorem cr_ok (h : Inv nt B R C M) {t : Nat} (ht : t < nt) : ∀ (n i a : Nat), i + n = 32 → s_countsRead_5 t n (nI a) i M = nI (a + bcn (C 20 t) n i)
  | 0, i, a, _ => rfl
  | n + 1, i, a, hi => by
    have g := h.rd t ht i (by omega)
    unfold s_countsRead_5 bcn
    rw [g.1]
    by_cases q : bt (C 20 t) i = true
    · rw [if_pos q, if_neg (bd_m1 (g.2 q) (by decide)), if_pos q, nI_1, cr_ok h ht n (i + 1) (a + 1) (by omega)]
      congr 1
      omega
    · rw [if_neg q, if_pos rfl, if_neg q, Int32.add_zero, cr_ok h ht n (i + 1) a (by omega)]
      congr 1
      omega
theorem Inv.cw (h : Inv nt B R C M) {t : Nat} (ht : t < nt) : s_countsWritten t M = nI (bcn (C 21 t) 32 0) := by
  have := cw_ok h ht 32 0 0 (by omega)
  rw [Nat.zero_add] at this
  exact this
theorem Inv.cr (h : Inv nt B R C M) {t : Nat} (ht : t < nt) : s_countsRead t M = nI (bcn (C 20 t) 32 0) := by
  have := cr_ok h ht 32 0 0 (by omega)
  rw [Nat.zero_add] at this
  exact this
theorem Inv.cwz (h : Inv nt B R C M) {t : Nat} (ht : t < nt) : s_countsWritten t M ≤ 0 ↔ C 21 t = 0 := by
  rw [h.cw ht]
  have hl := bcn_le (x := C 21 t) (n := 32) (i := 0)
  constructor
  · intro q
    have : bcn (C 21 t) 32 0 = 0 := by
      rcases Nat.eq_zero_or_pos (bcn (C 21 t) 32 0) with z | z
      · exact z
      · exact absurd q (nI_nle z (by omega))
    exact b_ext (fun i hi => by rw [b_0]; exact bcn_0 this i (by omega) (by omega))
  · intro q
    rw [q, bcn_z]
    decide
def cmEnd (t : Nat) (p : Int32) (w : Bool) (X : St) : Int32 × St := if s_hasAllIntents t X = 0 then (-13, up X 23 t 3) else if p = 0 then (0, s_commits t X) else if w = true then (0, up X 23 t 1) else (0, s_commits t X)
def cmM (t : Nat) (p : Int32) (w : Bool) (W : Int32) (X : St) : Int32 × St := if W ≤ X 19 t then cmEnd t p w X else if (s_refreshes t W X).1 = 0 then ((s_restarts t ((s_refreshes t W X).2 20 t) (s_refreshes t W X).2).1, (s_restarts t ((s_refreshes t W X).2 20 t) (s_refreshes t W X).2).2) else cmEnd t p w (up (s_refreshes t W X).2 19 t ((s_refreshes t W X).2 20 t))
theorem cm40_0 {t i : Nat} {p : Int32} : s_commit_40 t p 0 0 i M = if s_countsWritten t (up M 24 t (-1)) ≤ 0 then cmM t p false (M 20 t) (up (up M 24 t (-1)) 20 t (M 20 t)) else cmM t p true (s_greater (M 20 t) ((s_closedNow (up M 24 t (-1 : Int32))) + (1 : Int32))) (up (up M 24 t (-1)) 20 t (s_greater (M 20 t) ((s_closedNow (up M 24 t (-1 : Int32))) + (1 : Int32)))) := by
  have e : ∀ W, up (up M 24 t (-1)) 20 t W 19 t = M 19 t := by
    intro W
    rw [up_row (by decide), up_row (by decide)]
  unfold cmM cmEnd
  rw [e, e]
  simp only [Bool.false_eq_true, if_false, if_true]
  conv => lhs; unfold s_commit_40
  rw [if_pos rfl]
theorem cm40_1 {t : Nat} {p : Int32} : ∀ (n i : Nat) (c : Int32), ¬ c = 0 → s_commit_40 t p n c i M = (-14, M)
  | 0, i, c, h => by
    unfold s_commit_40
    rw [if_neg h]
  | n + 1, i, c, h => by
    unfold s_commit_40
    rw [if_neg h]
    exact cm40_1 n (i + 1) 1 (by decide)
theorem cm40_n (h : Inv nt B R C M) {t : Nat} (ht : t < nt) {p : Int32} : ∀ (n i : Nat), i + n = 32 → s_commit_40 t p n 0 i M = if wdS C t n i = 0 then s_commit_40 t p 0 0 32 M else (-14, M)
  | 0, i, hi => by
    have : i = 32 := by omega
    subst this
    rw [show wdS C t 0 32 = 0 from rfl, if_pos rfl]
  | n + 1, i, hi => by
    have g := h.wr t ht i (by omega)
    have hw4 := h.wf.wn i (by omega)
    conv => lhs; unfold s_commit_40
    unfold wdS
    rw [if_pos rfl, g.1, h.node (by omega), ← h.n.2.2.2.2.2.2.2 _ (vin_lt hw4)]
    by_cases q : bt (C 21 t) i = true
    · rw [if_pos q, if_neg (bd_m1 (g.2 q) (by decide)), q, show bI true = 1 from rfl, if_neg (show ¬ (1 : Int32) = 0 by decide)]
      by_cases q2 : C 3 (C 4 i).toNatClampNeg = 0
      · rw [if_pos q2, if_pos q2]
        exact cm40_n h ht n (i + 1) (by omega)
      · rw [if_neg q2, if_neg q2, if_neg (show ¬ (1 : Int32) = 0 by decide)]
        exact cm40_1 n (i + 1) 1 (by decide)
    · have q' : bt (C 21 t) i = false := Bool.eq_false_iff.mpr q
      rw [if_neg q, if_pos rfl, q', show bI false = 0 from rfl, if_pos rfl]
      exact cm40_n h ht n (i + 1) (by omega)
theorem ha_cg {C C' : St} {t : Int32} (e6 : C' 6 = C 6) (e21 : C' 21 = C 21) : ∀ {n i : Nat}, haS C' t n i = haS C t n i
  | 0, _ => rfl
  | n + 1, i => by
    unfold haS
    rw [e6, e21, ha_cg e6 e21]
theorem com_r {t w : Nat} (h7 : w ≠ 7) (h12 : w ≠ 12) (h13 : w ≠ 13) (h14 : w ≠ 14) (h15 : w ≠ 15) (h23 : w ≠ 23) (h25 : w ≠ 25) (h26 : w ≠ 26) : s_commits t M w = M w := by
  unfold s_commits
  rw [cm29_row h13 h14 h15 h12 h7, up_row h26, up_row h25, up_row h23]
theorem dec15b {t : Nat} (ht : t < 40) {E : St} (h : ¬ haS E (nI t) 32 0 = 0) : decS E (nI t) 15 t = 2 := by
  have htn : (nI t).toNatClampNeg = t := nI_clamp (by omega)
  unfold decS
  rw [if_neg h, dsL_row (by decide) (by decide) (by decide) (by decide) (by decide) (by decide)]
  unfold dsC
  rw [addCoS_row (by decide) (by decide), htn, up_eq]
theorem com_up {t : Nat} {x : Int32} : s_commits t (up M 23 t x) = s_commits t M := by
  unfold s_commits
  rw [up_up, up_row (by decide)]
/-- the end of a commit: staged, decided or aborted -/
theorem Inv.cme (h : Inv nt B R C M) (hB : B ≤ 900000) {t : Nat} (ht : t < nt) (h0 : C 15 t = 0) {p : Int32} {w : Bool} (hw : w = true ↔ ¬ C 21 t = 0) : (cmF (cm2 C (nI t) p) (nI t)).1 = (cmEnd t p w M).1 ∧ Inv nt B R (cmF (cm2 C (nI t) p) (nI t)).2 (cmEnd t p w M).2 ∧ (cmEnd t p w M).2 31 = M 31 := by
  have hn := h.wf.n40
  have htn : (nI t).toNatClampNeg = t := nI_clamp (by omega)
  have h1 : Inv nt B R (up C 15 t 1) (up M 23 t 1) := h.r15 ht (by rw [h0]; decide) (by decide)
  have e1 : up C 15 t 1 15 t = 1 := up_eq
  have hha : haS (up C 15 t 1) (nI t) 32 0 = haS C (nI t) 32 0 := ha_cg (up_row (by decide)) (up_row (by decide))
  have hdec := h1.rec hB ht (by rw [e1]; decide)
  have e21 : up C 15 t 1 21 t = C 21 t := by rw [up_row (by decide)]
  have hham := h.ha ht
  have hham1 := h1.ha ht
  have hc2 : cm2 C (nI t) p = cm1 (up C 15 t 1) (nI t) p := by
    unfold cm2
    rw [htn]
  have hm : ∀ X, (cmF X (nI t)) = (if X 15 t = 3 then -13 else 0, X) := by
    intro X
    unfold cmF
    rw [htn]
  rw [hc2, hm]
  unfold cmEnd
  rw [hham]
  by_cases q : haS C (nI t) 32 0 = 0
  · have hc1 : cm1 (up C 15 t 1) (nI t) p = up C 15 t 3 := by
      have hd : decS (up C 15 t 1) (nI t) = up C 15 t 3 := by
        unfold decS
        rw [hha, if_pos q, htn, up_up]
      unfold cm1
      rw [hd, hha, if_pos q]
      split
      · rfl
      · split <;> rfl
    rw [hc1, if_pos q]
    refine ⟨?_, h.r15 ht (by rw [h0]; decide) (by decide), ?_⟩
    · show (if up C 15 t 3 15 t = 3 then (-13 : Int32) else 0) = -13
      rw [up_eq, if_pos rfl]
    · exact up_row (S := M) (v := 23) (i := t) (w := 31) (x := 3) (by decide)
  · rw [if_neg q]
    have hrec : s_recovers t (up M 23 t 1) = s_commits t M := by
      unfold s_recovers
      rw [hham1, hha, if_neg q, com_up]
    rw [hrec] at hdec
    have h15 := dec15b (E := up C 15 t 1) (show t < 40 by omega) (by rw [hha]; exact q)
    have hgo : (if decS (up C 15 t 1) (nI t) 15 t = 3 then (-13 : Int32) else 0) = 0 := by
      rw [h15, if_neg (by decide)]
    have hcr : s_commits t M 31 = M 31 := com_r (by decide) (by decide) (by decide) (by decide) (by decide) (by decide) (by decide) (by decide)
    unfold cm1
    rw [htn, e21, hha]
    by_cases q1 : p = 0
    · rw [if_pos q1, if_pos q1]
      exact ⟨hgo, hdec, hcr⟩
    · rw [if_neg q1, if_neg q1]
      by_cases q2 : C 21 t = 0
      · rw [if_pos q2, if_neg (show ¬ w = true from fun z => (hw.mp z) q2)]
        exact ⟨hgo, hdec, hcr⟩
      · rw [if_neg q2, if_neg q, if_pos (hw.mpr q2)]
        refine ⟨?_, h1, ?_⟩
        · show (if up C 15 t 1 15 t = 3 then (-13 : Int32) else 0) = 0
          rw [e1, if_neg (by decide)]
        · exact up_row (S := M) (v := 23) (i := t) (w := 31) (x := 1) (by decide)
theorem mx_self {a : Int32} : mx a a = a := by
  unfold mx
  split <;> rfl
theorem Inv.cmm (h : Inv nt B R C M) (hB : B ≤ 900000) {t : Nat} (ht : t < nt) (h0 : C 15 t = 0) {p : Int32} {w : Bool} (hw : w = true ↔ ¬ C 21 t = 0) : (cm3 C (nI t) p).1 = (cmM t p w (C 17 t) M).1 ∧ Inv nt B R (cm3 C (nI t) p).2 (cmM t p w (C 17 t) M).2 ∧ (cmM t p w (C 17 t) M).2 31 = M 31 := by
  have hn := h.wf.n40
  have htn : (nI t).toNatClampNeg = t := nI_clamp (by omega)
  have e16 := h.t.2.2.2.2.2.1 t ht
  have e17 := h.t.2.2.2.2.2.2.1 t ht
  have hb17 := (h.t.2.2.2.2.2.2.2.2.2.2.2.1 t ht).1
  unfold cm3 cmM
  rw [htn, ← e16]
  by_cases q : C 17 t ≤ C 16 t
  · rw [if_pos q, if_pos q]
    exact h.cme hB ht h0 hw
  · rw [if_neg q, if_neg q]
    have r20 : (s_refreshes t (C 17 t) M).2 20 = M 20 := r2_r (by decide) (by decide) (by decide) (by decide) (by decide) (by decide) (by decide) (by decide) (by decide) (by decide)
    have r31 : (s_refreshes t (C 17 t) M).2 31 = M 31 := r2_r (by decide) (by decide) (by decide) (by decide) (by decide) (by decide) (by decide) (by decide) (by decide) (by decide)
    have h15 := ref_15 (s := C 17 t) h.wf (tok_nI ht hn)
    rw [htn] at h15
    rcases h.refr hB ht (by rw [h0]; decide) hb17 with ⟨g1, g2, g3⟩ | ⟨g1, g2, g3⟩
    · rw [if_pos g1, if_pos g2]
      have eW : refC C (nI t) (C 17 t) 17 t = (s_refreshes t (C 17 t) M).2 20 t := g3.t.2.2.2.2.2.2.1 t ht
      have hbW := (g3.t.2.2.2.2.2.2.2.2.2.2.2.1 t ht).1
      obtain ⟨k1, k2⟩ := g3.restart (by omega) ht (by rw [h15, h0]; decide) hbW
      rw [eW] at k1 k2 ⊢
      refine ⟨k1.symm, k2, ?_⟩
      show (s_restarts t _ (s_refreshes t (C 17 t) M).2).2 31 = M 31
      rw [rst_r (by decide) (by decide) (by decide) (by decide) (by decide)]
      exact r31
    · rw [if_neg (by rw [g1]; decide), if_neg (by rw [g2]; decide), r20, ← e17]
      have hM : up (up (s_refreshes t (C 17 t) M).2 19 t (C 17 t)) 20 t (mx ((s_refreshes t (C 17 t) M).2 20 t) (C 17 t)) = up (s_refreshes t (C 17 t) M).2 19 t (C 17 t) := by
        rw [r20, ← e17, mx_self]
        have : up (s_refreshes t (C 17 t) M).2 19 t (C 17 t) 20 t = C 17 t := by rw [up_row (by decide), r20, e17]
        conv => lhs; rw [show up (up (s_refreshes t (C 17 t) M).2 19 t (C 17 t)) 20 t (C 17 t) = up (up (s_refreshes t (C 17 t) M).2 19 t (C 17 t)) 20 t (up (s_refreshes t (C 17 t) M).2 19 t (C 17 t) 20 t) by rw [this]]
        exact up_id
      rw [hM] at g3
      obtain ⟨y1, y2, y3⟩ := g3.cme hB ht (h15.trans h0) (p := p) (w := w) (by
        rw [ref_row (by decide) (by decide) (by decide) (by decide) (by decide) (by decide) (by decide) (by decide) (by decide) (by decide) (by decide) (by decide) (by decide)]
        exact hw)
      exact ⟨y1, y2, by rw [y3, up_row (by decide)]; exact r31⟩
theorem closed_bd (h : Inv nt B R C M) : bd 19850 (closedS C) := by
  obtain ⟨n0, n1, n2, -⟩ := h.n
  obtain ⟨a, b⟩ := bd_toInt n2 (by decide)
  unfold closedS mx
  have hv : (10 * (C 0 0 - 15)).toInt = 10 * ((C 0 0).toInt - 15) := by
    rw [Int32.toInt_mul, Int32.toInt_sub, show (10 : Int32).toInt = 10 from by decide, show (15 : Int32).toInt = 15 from by decide]
    rw [Int.bmod_eq_of_le (n := (C 0 0).toInt - 15) (by omega) (by omega), Int.bmod_eq_of_le (by omega) (by omega)]
  by_cases q : 0 < 10 * (C 0 0 - 15)
  · rw [if_pos q]
    have q' := Int32.lt_iff_toInt_lt.mp q
    rw [hv, show (0 : Int32).toInt = 0 from by decide] at q'
    exact bd_of (by omega) (by omega) (by decide)
  · rw [if_neg q]
    exact ⟨0, by omega, rfl⟩
theorem Inv.closed (h : Inv nt B R C M) : s_closedNow M = closedS C := by
  unfold s_closedNow closedS
  rw [gr_mx, ← h.n.2.1]
/-- commit of a transaction that is there -/
theorem Inv.commit (h : Inv nt B R C M) (hB : B ≤ 900000) {t : Nat} (ht : t < nt) {p : Int32} : (cmS C (nI t) p).1 = (s_commit t p M).1 ∧ Inv nt B R (cmS C (nI t) p).2 (s_commit t p M).2 ∧ (s_commit t p M).2 31 0 = 0 := by
  have hn := h.wf.n40
  have htn : (nI t).toNatClampNeg = t := nI_clamp (by omega)
  have hm : Inv nt B R C (up M 31 0 0) := h.m31
  have eT : s_isTransaction (nI t) M = (1, up M 31 0 0) := by
    unfold s_isTransaction
    rw [isT_in hn h.t.1 ht, if_neg (by decide)]
  have e0 : s_commit t p M = if C 15 t = 0 then (if C 3 (C 12 t).toNatClampNeg = 0 then (if wdS C t 32 0 = 0 then s_commit_40 t p 0 0 32 (up M 31 0 0) else (-14, up M 31 0 0)) else (-14, up M 31 0 0)) else (-13, up M 31 0 0) := by
    unfold s_commit
    rw [eT, if_neg (show ¬ (1 : Int32) = 0 by decide)]
    show (if (up M 31 0 0) 23 t = 0 then s_commit_40 t p 32 ((up M 31 0 0) 3 (((up M 31 0 0) 17 t).toNatClampNeg)) 0 (up M 31 0 0) else (-13, up M 31 0 0)) = _
    rw [← hm.t.2.2.2.2.1 t ht, ← hm.t.2.1 t ht, ← hm.n.2.2.2.2.2.2.2 _ (vin_lt (h.wf.wh t ht))]
    by_cases q1 : C 15 t = 0
    · rw [if_pos q1, if_pos q1]
      by_cases q2 : C 3 (C 12 t).toNatClampNeg = 0
      · rw [if_pos q2, q2]
        exact cm40_n hm ht 32 0 (by omega)
      · rw [if_neg q2]
        exact cm40_1 32 0 _ q2
    · rw [if_neg q1, if_neg q1]
  have e31 : up M 31 0 0 31 0 = 0 := up_eq
  rw [e0]
  unfold cmS
  rw [htn]
  by_cases q1 : C 15 t = 0
  · rw [if_pos q1, if_pos q1]
    by_cases q2 : C 3 (C 12 t).toNatClampNeg = 0
    · rw [if_pos q2, if_pos q2]
      by_cases q3 : wdS C t 32 0 = 0
      · rw [if_pos q3, if_pos q3, cm40_0]
        have h1 : Inv nt B R (up C 19 t (-1)) (up (up M 31 0 0) 24 t (-1)) := hm.r19 trv_null
        have hz := h1.cwz ht
        rw [up_row (by decide)] at hz
        have e17 : up M 31 0 0 20 t = up C 19 t (-1) 17 t := by
          rw [← hm.t.2.2.2.2.2.2.1 t ht, up_row (by decide)]
        have e15 : up C 19 t (-1) 15 t = 0 := by rw [up_row (by decide)]; exact q1
        have e21 : up C 19 t (-1) 21 t = C 21 t := by rw [up_row (by decide)]
        have r31 : up (up M 31 0 0) 24 t (-1) 31 0 = 0 := by rw [up_row (by decide)]; exact e31
        unfold cm4
        rw [htn, e21]
        by_cases q4 : C 21 t = 0
        · rw [if_pos q4, if_pos (hz.mpr q4)]
          have eM : up (up (up M 31 0 0) 24 t (-1)) 20 t (up M 31 0 0 20 t) = up (up M 31 0 0) 24 t (-1) := by
            have : up M 31 0 0 20 t = up (up M 31 0 0) 24 t (-1) 20 t := by rw [up_row (v := 24) (by decide)]
            rw [this]
            exact up_id
          rw [eM, e17]
          obtain ⟨y1, y2, y3⟩ := h1.cmm hB ht e15 (p := p) (w := false) (by rw [e21]; exact ⟨fun z => absurd z (by decide), fun z => absurd q4 z⟩)
          exact ⟨y1, y2, by rw [y3]; exact r31⟩
        · rw [if_neg q4, if_neg (fun z => q4 (hz.mp z)), gr_mx, h1.closed, e17]
          have hcb := closed_bd h1
          have hb17 := h1.t.2.2.2.2.2.2.2.2.2.2.2.1 t ht
          have hB0 := h.n.1
          have hbX : bd B (mx (up C 19 t (-1) 17 t) (closedS (up C 19 t (-1)) + 1)) := bd_mx hb17.1 ((bd_s hcb).mono (by omega))
          have h2 := h1.r17 ht (by rw [e15]; decide) hbX mx_l (by omega)
          obtain ⟨y1, y2, y3⟩ := h2.cmm hB ht (by rw [up_row (by decide)]; exact e15) (p := p) (w := true) (by rw [up_row (by decide), e21]; exact ⟨fun _ => q4, fun _ => rfl⟩)
          rw [up_eq] at y1 y2 y3
          exact ⟨y1, y2, by rw [y3, up_row (by decide)]; exact r31⟩
      · rw [if_neg q3, if_neg q3]
        exact ⟨rfl, hm, e31⟩
    · rw [if_neg q2, if_neg q2]
      exact ⟨rfl, hm, e31⟩
  · rw [if_neg q1, if_neg q1]
    exact ⟨rfl, hm, e31⟩
end COM
