/-! get: both sides -/
theorem mx_nI {a b : Nat} (ha : a < 2 ^ 31) (hb : b < 2 ^ 31) : mx (nI a) (nI b) = nI (max a b) := by
  unfold mx
  by_cases h : a < b
  · rw [if_pos (nI_lt h hb), Nat.max_eq_right (Nat.le_of_lt h)]
  · rw [if_neg (nI_nlt (Nat.not_lt.mp h) ha), Nat.max_eq_left (Nat.not_lt.mp h)]
section GET
variable {nt B R : Nat} {C M : St}
theorem ct23 {C M : St} : ∀ {n : Nat}, (∀ i, i < n → C 15 i = M 23 i) → ct3 M n = ct2 C n
  | 0, _ => rfl
  | n + 1, h => by
    unfold ct3 ct2
    rw [ct23 (fun i hi => h i (by omega)), h n (by omega)]
theorem Inv.wm (h : Inv nt B R C M) : WM nt R M := by
  obtain ⟨h1, h2, h3, h4, -⟩ := h.r
  obtain ⟨t0, t1, t2, t3, t4, t5, t6, t7, t8, t9, ta, tb, tc, td, te⟩ := h.t
  obtain ⟨L, L', v1, v2, v3, v4, v5, v6, v7, v8, v9⟩ := h.v
  obtain ⟨c, kk, q1, q2, q3, q4, q5, q6, q7, q8, q9⟩ := h.wf.hi
  have hn := h.wf.n40
  have ec : c = L.length := (nI_eq (by have := ct2_le (C := C) (n := nt); omega) (by omega)).mp (q1.symm.trans v2)
  refine ⟨hn, h1, h2, h3, t0, ⟨L.length, v3, ?_⟩, fun k hk q => ?_, td, h4, te, fun i hi q => ?_⟩
  · rw [ct23 t4, ← q4]
    omega
  · rw [← h.k.1 k hk] at q ⊢
    have := (h.wf.wo k hk).resolve_left q
    exact fun z => z.elim this.1 (fun y => by have := this.2; omega)
  · rw [← t8 i hi] at q ⊢
    have := (h.wf.aw i hi).resolve_left q
    exact fun z => z.elim this.1 (fun y => by have := this.2; omega)
-- row 31 of the model
theorem rec_r {u w : Nat} (h7 : w ≠ 7) (h12 : w ≠ 12) (h13 : w ≠ 13) (h14 : w ≠ 14) (h15 : w ≠ 15) (h23 : w ≠ 23) (h25 : w ≠ 25) (h26 : w ≠ 26) : s_recovers u M w = M w := by
  unfold s_recovers
  split
  · exact up_row h23
  · unfold s_commits
    rw [cm29_row h13 h14 h15 h12 h7, up_row h26, up_row h25, up_row h23]
theorem meets49_r {t k w : Nat} {u : Int32} (h7 : w ≠ 7) : (s_meets_49 t k u M).2 w = M w := by
  unfold s_meets_49
  split
  · split <;> exact up_row h7
  · split <;> rfl
theorem meets34_r {t k w : Nat} {u : Int32} (h7 : w ≠ 7) (h23 : w ≠ 23) : (s_meets_34 t k u M).2 w = M w := by
  unfold s_meets_34
  split
  · exact meets49_r h7
  · rw [meets49_r h7, up_row h23]
theorem meets_r {t k w : Nat} (h7 : w ≠ 7) (h12 : w ≠ 12) (h13 : w ≠ 13) (h14 : w ≠ 14) (h15 : w ≠ 15) (h23 : w ≠ 23) (h25 : w ≠ 25) (h26 : w ≠ 26) : (s_meets t k M).2 w = M w := by
  unfold s_meets
  split
  · rfl
  · split
    · rfl
    · split
      · rw [meets34_r h7 h23, rec_r h7 h12 h13 h14 h15 h23 h25 h26]
      · exact meets34_r h7 h23
theorem r2_r {t w : Nat} {z : Int32} (h10 : w ≠ 10) (h11 : w ≠ 11) (h7 : w ≠ 7) (h12 : w ≠ 12) (h13 : w ≠ 13) (h14 : w ≠ 14) (h15 : w ≠ 15) (h23 : w ≠ 23) (h25 : w ≠ 25) (h26 : w ≠ 26) : ∀ {n i : Nat} {M : St}, (s_refreshes_2 t z n i M).2 w = M w
  | 0, i, M => r88_row h10 h11
  | n + 1, i, M => by
    have hm : (s_meets t i M).2 w = M w := meets_r h7 h12 h13 h14 h15 h23 h25 h26
    have ih : (s_refreshes_2 t z n (i + 1) (s_meets t i M).2).2 w = M w := (r2_r h10 h11 h7 h12 h13 h14 h15 h23 h25 h26).trans hm
    unfold s_refreshes_2
    split
    · exact r2_r h10 h11 h7 h12 h13 h14 h15 h23 h25 h26
    · split
      · split
        · split
          · exact ih
          · exact hm
        · split
          · exact hm
          · split
            · exact ih
            · exact hm
      · rfl
theorem ra_r {t w : Nat} (h7 : w ≠ 7) : ∀ {n i : Nat} {M : St}, raM t n i M w = M w
  | 0, _, _ => rfl
  | n + 1, i, M => by
    unfold raM
    rw [ra_r h7]
    split
    · exact up_row h7
    · rfl
theorem rst_r {t w : Nat} {s : Int32} (h7 : w ≠ 7) (h28 : w ≠ 28) (h29 : w ≠ 29) (h19 : w ≠ 19) (h20 : w ≠ 20) : (s_restarts t s M).2 w = M w := by
  unfold s_restarts
  rw [rs2_eq]
  show up (up (s_forgets t (raM t 32 0 M)) 19 t _) 20 t _ w = _
  rw [up_row h20, up_row h19]
  unfold s_forgets
  rw [(fg_ok 32 0 _).1 w h28 h29, ra_r h7]
theorem ca_r {t w : Nat} {u : Int32} (h23 : w ≠ 23) (h24 : w ≠ 24) : (s_comesAnew t u M).2 w = M w := by
  have hE : ∀ {v z : Int32} {M : St}, (caE t v z M).2 w = M w := by
    intro v z M
    unfold caE
    split
    · split
      · show up (up M 23 _ _) 24 t _ w = _
        rw [up_row h24, up_row h23]
      · show up (up M 23 _ _) 24 t _ w = _
        rw [up_row h24, up_row h23]
    · rfl
  have : ∀ {n i : Nat} {v z : Int32} {M : St}, (s_comesAnew_15 t u n v z i M).2 w = M w := by
    intro n
    induction n with
    | zero => intro i v z M; rw [ca15_0]; exact hE
    | succ n ih =>
      intro i v z M
      rw [ca15_s]
      split
      · exact hE
      · exact ih
  unfold s_comesAnew
  rw [this, up_row h24]
theorem gtL_end {t : Int32} {k n : Nat} {r : Int32} {C : St} (h : r ≠ -99) : gtL t k n r C = (r, C) := by
  cases n with
  | zero => rfl
  | succ n =>
    unfold gtL
    rw [if_neg h]
/-- what the model's get does behind its meeting -/
def gX (t k f : Nat) (d : Int32) (Mx : St) : Int32 × St := if s_latest (nI k) d Mx ≤ Mx 19 t then s_get_75 t k f d 0 Mx else if (s_refreshes t (s_latest (nI k) d Mx) Mx).1 = 0 then ((s_restarts t (s_latest (nI k) d Mx) (s_refreshes t (s_latest (nI k) d Mx) Mx).2).1, (s_restarts t (s_latest (nI k) d Mx) (s_refreshes t (s_latest (nI k) d Mx) Mx).2).2) else s_get_75 t k f d 1 (up (up (s_refreshes t (s_latest (nI k) d Mx) Mx).2 19 t (s_latest (nI k) d Mx)) 20 t (s_greater ((s_refreshes t (s_latest (nI k) d Mx) Mx).2 20 t) (s_latest (nI k) d Mx)))
theorem g75_s {t k f : Nat} {d : Int32} : s_get_75 t k (f + 1) d 1 M = if (s_meets t k M).1 = -1 then gX t k f d (s_meets t k M).2 else if s_greater ((s_meets t k M).2 19 t) d < (s_meets t k M).2 20 ((s_meets t k M).1).toNatClampNeg then gX t k f d (s_meets t k M).2 else if (s_meets t k M).2 18 t ≤ (s_meets t k M).2 18 ((s_meets t k M).1).toNatClampNeg then (if (s_comesAnew t ((s_meets t k M).1) (s_meets t k M).2).1 = 0 then (s_waitAnswer t (s_comesAnew t ((s_meets t k M).1) (s_meets t k M).2).2, (s_comesAnew t ((s_meets t k M).1) (s_meets t k M).2).2) else s_get_75 t k f d 1 (s_comesAnew t ((s_meets t k M).1) (s_meets t k M).2).2) else gX t k f d (up (s_meets t k M).2 20 ((s_meets t k M).1).toNatClampNeg (s_greater ((s_meets t k M).2 19 t) d + 1)) := by
  unfold gX
  conv => lhs; unfold s_get_75
  rw [if_neg (show ¬ (1 : Int32) = 0 by decide)]
  rfl
theorem g75_0 {t k f : Nat} {d : Int32} : s_get_75 t k f d 0 M = (s_valueAt (nI k) (M 19 t) M, s_marks (nI t) k (M 19 t) (up M 28 (32 * t + k) (s_valueAt (nI k) (M 19 t) M))) := by
  cases f with
  | zero => rfl
  | succ f =>
    unfold s_get_75
    rw [if_pos rfl]
theorem noteR_nr {E : St} {k i l : Nat} {num s v : Int32} : noteReadS (noteR E k num s) i l v = noteR (noteReadS E i l v) k num s := by
  unfold noteReadS noteR
  rw [up_row (v := 50 + 3 * i) (w := 8) (by omega), up_row (v := 20) (w := 8) (by decide), up_row (v := 50 + 3 * i) (w := 9) (by omega), up_row (v := 20) (w := 9) (by decide)]
  split
  · split
    · split
      · rfl
      · rw [up_row (v := 9) (w := 20) (by decide), up_comm (v := 9) (w := 20) (by decide), up_comm (v := 9) (w := 50 + 3 * i) (by omega)]
    · rfl
  · rw [up_row (v := 9) (w := 20) (by decide), up_row (v := 8) (w := 20) (by decide), up_comm (v := 9) (w := 20) (by decide), up_comm (v := 8) (w := 20) (by decide), up_comm (v := 9) (w := 50 + 3 * i) (by omega), up_comm (v := 8) (w := 50 + 3 * i) (by omega)]
theorem va_cg {C C' : St} {key s : Int32} (e26 : C' 26 = C 26) (e28 : C' 28 = C 28) (e29 : C' 29 = C 29) : vaX C' key s = vaX C key s := by
  have hp : ∀ n, plS C' key s n = plS C key s n := by
    intro n
    induction n with
    | zero => rfl
    | succ n ih =>
      unfold plS
      rw [e28, ih]
  unfold vaX vaU cn
  rw [hp, e26, e29]
theorem st_cg {C C' : St} {key s : Int32} (e26 : C' 26 = C 26) (e28 : C' 28 = C 28) : stX C' key s = stX C key s := by
  have hp : ∀ n, plS C' key s n = plS C key s n := by
    intro n
    induction n with
    | zero => rfl
    | succ n ih =>
      unfold plS
      rw [e28, ih]
  unfold stX stU cn
  rw [hp, e26, e28]
/-- a look behind the meeting -/
theorem lk2_ok {E Mx : St} (h : Inv nt B R E Mx) (hB : B ≤ 900000) {t k f : Nat} (ht : t < nt) (hk : k < 32) (h0 : E 15 t = 0) {d : Int32} (hd : bd B d) : ((lk2 E (nI t) k (mx (E 16 t) d)).1 ≠ -99 ∧ (lk2 E (nI t) k (mx (E 16 t) d)).1 = (gX t k f d Mx).1 ∧ Inv nt B R (lk2 E (nI t) k (mx (E 16 t) d)).2 (gX t k f d Mx).2 ∧ (gX t k f d Mx).2 31 = Mx 31) ∨ ((lk2 E (nI t) k (mx (E 16 t) d)).1 = -99 ∧ ¬ s_latest (nI k) d Mx ≤ Mx 19 t ∧ ∃ M2 Y, M2 = up (up (s_refreshes t (s_latest (nI k) d Mx) Mx).2 19 t (s_latest (nI k) d Mx)) 20 t Y ∧ gX t k f d Mx = s_get_75 t k f d 1 M2 ∧ M2 31 = Mx 31 ∧ ∃ L, (lk2 E (nI t) k (mx (E 16 t) d)).2 = refC E (nI t) L ∧ Inv nt B R (refC E (nI t) L) M2) := by
  have hn := h.wf.n40
  have htn : (nI t).toNatClampNeg = t := nI_clamp (by omega)
  have e16 := h.t.2.2.2.2.2.1 t ht
  have e11 := h.t.2.2.2.2.2.2.2.2.2.1 t ht
  obtain ⟨rN, r1, r2⟩ := h.t.2.2.2.2.2.2.2.2.2.2.1 t ht
  obtain ⟨dN, d1, d2⟩ := hd
  have hmx : mx (E 16 t) d = nI (max rN dN) := by rw [r2, d2, mx_nI (by omega) (by omega)]
  obtain ⟨a, a1, a2, a3, a4⟩ := h.st hB (key := k) (s := dN) hk (by omega)
  obtain ⟨b, b1, b2, b3, b4⟩ := h.st hB (key := k) (s := max rN dN) hk (by omega)
  have hab : rN ≤ dN → a = b := fun z => by
    rw [Nat.max_eq_right z] at b2
    have := a2.symm.trans b2
    unfold loI at this
    by_cases q1 : a = 0
    · by_cases q2 : b = 0
      · omega
      · rw [if_pos q1, if_neg q2] at this
        exact absurd this (ne_nI (by omega))
    · by_cases q2 : b = 0
      · rw [if_neg q1, if_pos q2] at this
        exact absurd this.symm (ne_nI (by omega))
      · rw [if_neg q1, if_neg q2] at this
        have := (nI_eq (by omega) (by omega)).mp this
        omega
  have hcmp : (s_latest (nI k) d Mx ≤ Mx 19 t) ↔ (stX E (nI k) (mx (E 16 t) d) ≤ E 16 t) := by
    rw [← e16, hmx, b1, d2, a2, r2, lo_le2 (by omega) (by omega), nI_leI (by omega) (by omega), nI_leI (by omega) (by omega)]
    by_cases z : rN ≤ dN
    · rw [hab z]
    · constructor <;> intro _ <;> omega
  have hL : ¬ (stX E (nI k) (mx (E 16 t) d) ≤ E 16 t) → stX E (nI k) (mx (E 16 t) d) = s_latest (nI k) d Mx ∧ bd B (s_latest (nI k) d Mx) := by
    intro z
    rw [hmx, b1, r2, nI_leI (by omega) (by omega)] at z
    have hrd : rN ≤ dN := by omega
    rw [hmx, b1, d2, a2, hab hrd]
    unfold loI
    rw [if_neg (by omega)]
    exact ⟨rfl, bd_nI (by omega)⟩
  unfold lk2 gX
  rw [htn, e11]
  by_cases c : stX E (nI k) (mx (E 16 t) d) ≤ E 16 t
  · left
    rw [if_pos c, if_pos (hcmp.mpr c), g75_0]
    rw [va_cg (C := E) (noteR_row (by decide) (by decide)) (noteR_row (by decide) (by decide)) (noteR_row (by decide) (by decide)), noteR_nr]
    obtain ⟨z1, z2⟩ := h.va hB (key := k) (s := rN) hk (by omega)
    have z3 : vaX E (nI k) (E 16 t) = s_valueAt (nI k) (Mx 19 t) Mx := by rw [← e16, r2]; exact z1
    have z4 : bd 1000 (vaX E (nI k) (E 16 t)) := by rw [r2]; exact z2
    refine ⟨?_, z3, ?_, ?_⟩
    · intro z
      obtain ⟨s, s1, s2⟩ := z4
      have z' : vaX E (nI k) (E 16 t) = -99 := z
      rw [s2] at z'
      have := nI_pos (show s < 2 ^ 31 by omega)
      rw [z'] at this
      exact this (by decide)
    · show Inv nt B R (noteR (noteReadS E t k (vaX E (nI k) (E 16 t))) k (nI t) (E 16 t)) (s_marks (nI t) k (Mx 19 t) (up Mx 28 (32 * t + k) (s_valueAt (nI k) (Mx 19 t) Mx)))
      rw [← z3, ← e16]
      exact (h.nread hk z4).note hk (by rw [r2]; exact bd_nI r1)
    · show s_marks _ _ _ _ 31 = _
      rw [marks_row (by decide) (by decide), up_row (by decide)]
  · rw [if_neg c, if_neg (fun z => c (hcmp.mp z))]
    obtain ⟨l1, l2⟩ := hL c
    rw [l1]
    generalize hLL : s_latest (nI k) d Mx = L at l2
    rcases h.refr hB ht (by rw [h0]; decide) l2 with ⟨g1, g2, g3⟩ | ⟨g1, g2, g3⟩
    · left
      rw [if_pos g1, if_pos g2]
      obtain ⟨k1, k2⟩ := g3.restart (by omega) ht (by
        have := ref_15 (s := L) h.wf (tok_nI ht hn)
        rw [htn] at this
        rw [this, h0]
        decide) l2
      refine ⟨show ¬ (-12 : Int32) = -99 by decide, k1.symm, k2, ?_⟩
      show (s_restarts t L (s_refreshes t L Mx).2).2 31 = _
      rw [rst_r (by decide) (by decide) (by decide) (by decide) (by decide)]
      exact r2_r (by decide) (by decide) (by decide) (by decide) (by decide) (by decide) (by decide) (by decide) (by decide) (by decide)
    · right
      rw [if_neg (by rw [g1]; decide), if_neg (by rw [g2]; decide), gr_mx]
      refine ⟨rfl, fun z => c (hcmp.mp (by rw [hLL]; exact z)), _, _, rfl, rfl, ?_, L, rfl, g3⟩
      rw [up_row (by decide), up_row (by decide)]
      exact r2_r (by decide) (by decide) (by decide) (by decide) (by decide) (by decide) (by decide) (by decide) (by decide) (by decide)
theorem gl_ok {t k : Nat} (ht : t < nt) (hk : k < 32) {d : Int32} : ∀ (f n B : Nat) (C M : St), Inv nt B R C M → B + f ≤ 900000 → f ≤ n → C 15 t = 0 → bt (C 21 t) k = false → bt (C 22 t) (C 4 k).toNatClampNeg = true → C (52 + 3 * t) (C 4 k).toNatClampNeg = d → 2 * cP M nt + ph M t k d < f → (gtL (nI t) k n (-99) C).1 = (s_get_75 t k f d 1 M).1 ∧ Inv nt (B + f) R (gtL (nI t) k n (-99) C).2 (s_get_75 t k f d 1 M).2 ∧ (s_get_75 t k f d 1 M).2 31 = M 31
  | 0, n, B, C, M, h, hB, hfn, h0, h21, h22, hd, hm => by omega
  | f + 1, n, B, C, M, h, hB, hfn, h0, h21, h22, hd, hm => by
    obtain ⟨n, rfl⟩ : ∃ n', n = n' + 1 := ⟨n - 1, by omega⟩
    have hn := h.wf.n40
    have htk : tok nt (nI t) := tok_nI ht hn
    have htn : (nI t).toNatClampNeg = t := nI_clamp (by omega)
    have hw4 := h.wf.wn k hk
    have hdb : bd B d := by
      rw [← hd]
      exact (h.db t ht _ (vin_lt hw4)).2 h22
    rw [g75_s]
    rw [show gtL (nI t) k (n + 1) (-99) C = gtL (nI t) k n (lkR C (nI t) k).1 (lkR C (nI t) k).2 from by conv => lhs; unfold gtL; rw [if_pos rfl]]
    obtain ⟨m1, m2⟩ := h.meet (by omega) ht hk
    have mtr := meetR_trv (t := nI t) h.wf hk
    have hvs := VS_meets (t := t) h.wm hk
    have m15 := meet_15 h.wf htk hk
    rw [htn] at m15
    have m23 := meets_23 (t := t) h.wm hk
    have m19 : (s_meets t k M).2 19 = M 19 := meets_19
    have m31 : (s_meets t k M).2 31 = M 31 := meets_r (by decide) (by decide) (by decide) (by decide) (by decide) (by decide) (by decide) (by decide)
    have hvp := meets_vp (t := t) h.wm hk
    have mrow (w : Nat) (h6 : w ≠ 6) (h15 : w ≠ 15) (h26 : w ≠ 26) (h27 : w ≠ 27) (h28 : w ≠ 28) (h29 : w ≠ 29) (h30 : w ≠ 30) (h31 : w ≠ 31) (h34 : w ≠ 34) : meetC C (nI t) k w = C w := meet_row h6 h15 h26 h27 h28 h29 h30 h31 h34
    unfold lkR
    rw [htn, h21, show bI false = 0 from rfl, if_pos rfl]
    have hhz : hzS (meetC C (nI t) k) t k = mx (meetC C (nI t) k 16 t) d := by
      unfold hzS
      rw [mrow 4 (by decide) (by decide) (by decide) (by decide) (by decide) (by decide) (by decide) (by decide) (by decide), mrow (52 + 3 * t) (by omega) (by omega) (by omega) (by omega) (by omega) (by omega) (by omega) (by omega) (by omega), hd]
    rw [hhz]
    rw [m1] at hvp ⊢
    have h023 : M 23 t = 0 := by rw [← h.t.2.2.2.2.1 t ht]; exact h0
    -- from a look behind the meeting to the claim
    have fin : ∀ (E Mx : St), Inv nt (B + 1) R E Mx → E 15 t = 0 → (∀ w, w ≠ 6 → w ≠ 15 → w ≠ 26 → w ≠ 27 → w ≠ 28 → w ≠ 29 → w ≠ 30 → w ≠ 31 → w ≠ 34 → w ≠ 17 → E w = C w) → VS nt M Mx → Mx 23 t = 0 → Mx 19 t = M 19 t → Mx 31 = M 31 → (gtL (nI t) k n (lk2 E (nI t) k (mx (E 16 t) d)).1 (lk2 E (nI t) k (mx (E 16 t) d)).2).1 = (gX t k f d Mx).1 ∧ Inv nt (B + (f + 1)) R (gtL (nI t) k n (lk2 E (nI t) k (mx (E 16 t) d)).1 (lk2 E (nI t) k (mx (E 16 t) d)).2).2 (gX t k f d Mx).2 ∧ (gX t k f d Mx).2 31 = M 31 := by
      intro E Mx hE e15 erow hv h23 h19 h31
      rcases lk2_ok (f := f) hE (by omega) ht hk e15 (hdb.mono (by omega)) with ⟨z1, z2, z3, z4⟩ | ⟨z1, z2, M2, Y, z3, z4, z5, L, z6, z7⟩
      · rw [gtL_end z1]
        exact ⟨z2, z3.mono (by omega), z4.trans h31⟩
      · rw [z1, z4, z6]
        have rrow (w : Nat) (h6 : w ≠ 6) (h15 : w ≠ 15) (h26 : w ≠ 26) (h27 : w ≠ 27) (h28 : w ≠ 28) (h29 : w ≠ 29) (h30 : w ≠ 30) (h31 : w ≠ 31) (h34 : w ≠ 34) (h8 : w ≠ 8) (h9 : w ≠ 9) (h16 : w ≠ 16) (h17 : w ≠ 17) : refC E (nI t) L w = C w := (ref_row h6 h15 h26 h27 h28 h29 h30 h31 h34 h8 h9 h16 h17).trans (erow w h6 h15 h26 h27 h28 h29 h30 h31 h34 h17)
        obtain ⟨y1, y2, y3⟩ := gt_b (Y := Y) hE.wm hv h23 h19 z2 hm
        rw [← z3] at y3
        have r15 := ref_15 (s := L) hE.wf htk
        rw [htn] at r15
        have e4 := rrow 4 (by decide) (by decide) (by decide) (by decide) (by decide) (by decide) (by decide) (by decide) (by decide) (by decide) (by decide) (by decide) (by decide)
        obtain ⟨x1, x2, x3⟩ := gl_ok ht hk (d := d) f n (B + 1) (refC E (nI t) L) M2 z7 (by omega) (by omega) (r15.trans e15) (by
          rw [rrow 21 (by decide) (by decide) (by decide) (by decide) (by decide) (by decide) (by decide) (by decide) (by decide) (by decide) (by decide) (by decide) (by decide)]
          exact h21) (by
          rw [e4, rrow 22 (by decide) (by decide) (by decide) (by decide) (by decide) (by decide) (by decide) (by decide) (by decide) (by decide) (by decide) (by decide) (by decide)]
          exact h22) (by
          rw [e4, rrow (52 + 3 * t) (by omega) (by omega) (by omega) (by omega) (by omega) (by omega) (by omega) (by omega) (by omega) (by omega) (by omega) (by omega) (by omega)]
          exact hd) y3
        exact ⟨x1, x2.mono (by omega), x3.trans (z5.trans h31)⟩
    have h1B : Inv nt (B + 1) R (meetC C (nI t) k) (s_meets t k M).2 := m2.mono (by omega)
    have e15D : meetC C (nI t) k 15 t = 0 := m15.trans h0
    have e23D : (s_meets t k M).2 23 t = 0 := m23.trans h023
    have fin0 := fin (meetC C (nI t) k) (s_meets t k M).2 h1B e15D (fun w a1 a2 a3 a4 a5 a6 a7 a8 a9 _ => mrow w a1 a2 a3 a4 a5 a6 a7 a8 a9) hvs e23D (congrFun m19 t) m31
    rcases mtr with mt | mt
    · rw [mt, if_pos rfl, if_pos (show (-1 : Int32) < 0 by decide)]
      exact fin0
    · have hne : ¬ meetR C (nI t) k = -1 := fun z => mt.1 (by rw [z]; decide)
      have hvp := hvp hne
      rw [if_neg hne, if_neg mt.1, gr_mx, ← m2.t.2.2.2.2.2.1 t ht, ← m2.t.2.2.2.2.2.2.1 _ mt.2, ← m2.t.2.2.1 t ht, ← m2.t.2.2.1 _ mt.2]
      by_cases q1 : mx (meetC C (nI t) k 16 t) d < meetC C (nI t) k 17 (meetR C (nI t) k).toNatClampNeg
      · rw [if_pos q1, if_pos q1]
        exact fin0
      · rw [if_neg q1, if_neg q1]
        have hu0 : meetC C (nI t) k 15 (meetR C (nI t) k).toNatClampNeg = 0 := by
          rw [m2.t.2.2.2.2.1 _ mt.2]
          exact hvp.2
        by_cases q2 : meetC C (nI t) k 13 (meetR C (nI t) k).toNatClampNeg < meetC C (nI t) k 13 t
        · rw [if_pos q2, if_neg (Int32.not_le.mpr q2)]
          obtain ⟨hb16, hb17⟩ : bd B (meetC C (nI t) k 16 t) ∧ bd B (meetC C (nI t) k 17 (meetR C (nI t) k).toNatClampNeg) := ⟨m2.t.2.2.2.2.2.2.2.2.2.2.1 t ht, (m2.t.2.2.2.2.2.2.2.2.2.2.2.1 _ mt.2).1⟩
          have hzb := bd_mx hb16 hdb
          have hle : meetC C (nI t) k 17 (meetR C (nI t) k).toNatClampNeg ≤ mx (meetC C (nI t) k 16 t) d + 1 := by
            obtain ⟨s, s1, s2⟩ := hzb
            obtain ⟨p, p1, p2⟩ := hb17
            rw [s2, p2] at q1 ⊢
            rw [nI_1]
            rw [nI_ltI (by omega) (by omega)] at q1
            exact nI_le (by omega) (by omega)
          have hE := h1B.r17 mt.2 (by rw [hu0]; decide) (bd_s hzb) hle (by omega)
          refine fin (up (meetC C (nI t) k) 17 (meetR C (nI t) k).toNatClampNeg (mx (meetC C (nI t) k 16 t) d + 1)) _ hE ?_ (fun w a1 a2 a3 a4 a5 a6 a7 a8 a9 a17 => ?_) (hvs.trans (VS_up (by decide))) ?_ ?_ ?_
          · rw [up_row (by decide)]; exact e15D
          · rw [up_row a17]; exact mrow w a1 a2 a3 a4 a5 a6 a7 a8 a9
          · rw [up_row (by decide)]; exact e23D
          · rw [up_row (by decide)]; exact congrFun m19 t
          · rw [up_row (by decide)]; exact m31
        · rw [if_neg q2, if_pos (Int32.not_lt.mp q2)]
          obtain ⟨w1, w2⟩ := m2.waits ht e15D mt hu0
          have w31 : (s_comesAnew t (meetR C (nI t) k) (s_meets t k M).2).2 31 = M 31 := (ca_r (by decide) (by decide)).trans m31
          rcases w2 with ⟨w2, w3, w4⟩ | ⟨w2, w3⟩
          · rw [if_pos w2]
            show (gtL (nI t) k n (waR _ _ _) (waC _ _ _)).1 = _ ∧ _
            rw [gtL_end w4]
            exact ⟨w3, w1.mono (by omega), w31⟩
          · rw [if_neg w2]
            show (gtL (nI t) k n (waR _ _ _) (waC _ _ _)).1 = _ ∧ _
            rw [w3]
            have wrow : ∀ w, w ≠ 19 → w ≠ 15 → waC (meetC C (nI t) k) (nI t) (meetR C (nI t) k) w = meetC C (nI t) k w := by
              intro w a1 a2
              unfold waC
              split
              · exact up_row a1
              · rw [up_row a2, up_row a1, up_row a1]
            obtain ⟨y1, y2⟩ := gt_a (d := d) m2.wm hvs ht e23D hvp w2 hm
            have e15' : waC (meetC C (nI t) k) (nI t) (meetR C (nI t) k) 15 t = 0 := by
              rw [w1.t.2.2.2.2.1 t ht]
              exact y1
            have e4 : waC (meetC C (nI t) k) (nI t) (meetR C (nI t) k) 4 = C 4 := (wrow 4 (by decide) (by decide)).trans (mrow 4 (by decide) (by decide) (by decide) (by decide) (by decide) (by decide) (by decide) (by decide) (by decide))
            obtain ⟨x1, x2, x3⟩ := gl_ok ht hk (d := d) f n B _ _ w1 (by omega) (by omega) e15' (by
              rw [wrow 21 (by decide) (by decide), mrow 21 (by decide) (by decide) (by decide) (by decide) (by decide) (by decide) (by decide) (by decide) (by decide)]
              exact h21) (by
              rw [e4, wrow 22 (by decide) (by decide), mrow 22 (by decide) (by decide) (by decide) (by decide) (by decide) (by decide) (by decide) (by decide) (by decide)]
              exact h22) (by
              rw [e4, wrow (52 + 3 * t) (by omega) (by omega), mrow (52 + 3 * t) (by omega) (by omega) (by omega) (by omega) (by omega) (by omega) (by omega) (by omega) (by omega)]
              exact hd) y2
            exact ⟨x1, x2.mono (by omega), x3.trans w31⟩
end GET
