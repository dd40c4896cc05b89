/-! forgetting, and committing: both sides -/
/-- all of Inv but what the class's cells keep by themselves -/
def IZ (nt B R : Nat) (C M : St) : Prop :=
  IN B (C 0) (C 1) (C 2) (C 3) (M 0) (M 1) (M 2) (M 3) ∧ IR R (C 4) (C 5) (M 4) (M 5) (M 6) ∧ IK B (C 6) (C 7) (C 8) (C 9) (M 7) (M 8) (M 10) (M 11) ∧ IT nt B (C 11) (C 12) (C 13) (C 14) (C 15) (C 16) (C 17) (C 18) (C 19) (M 16) (M 17) (M 18) (M 19) (M 20) (M 21) (M 22) (M 23) (M 24) ∧ (IG nt 32 1000 (C 20) (fun i => C (50 + 3 * i)) (M 28) ∧ IG nt 32 1000 (C 21) (fun i => C (51 + 3 * i)) (M 29) ∧ IG nt 4 B (C 22) (fun i => C (52 + 3 * i)) (M 27)) ∧ IO nt (C 6) (C 21) (fun i => C (51 + 3 * i)) (M 9) ∧ IV nt B (C 6) (C 17) (C 26) (C 28) (C 29) (M 12) (M 13) (M 14) (M 15) ∧ IQ nt (C 15) (C 17) (C 30) (C 31) (M 25) (M 26)
section FGT
variable {nt B R : Nat} {C M : St}
theorem fg_ok {t : Nat} : ∀ (n k : Nat) (M : St), (∀ w, w ≠ 28 → w ≠ 29 → s_forgets_2 t n k M w = M w) ∧ (∀ l, s_forgets_2 t n k M 28 l = if 32 * t + k ≤ l ∧ l < 32 * t + k + n then -1 else M 28 l) ∧ (∀ l, s_forgets_2 t n k M 29 l = if 32 * t + k ≤ l ∧ l < 32 * t + k + n then -1 else M 29 l)
  | 0, k, M => ⟨fun _ _ _ => rfl, fun l => by rw [if_neg (by omega)]; rfl, fun l => by rw [if_neg (by omega)]; rfl⟩
  | n + 1, k, M => by
    unfold s_forgets_2
    obtain ⟨g1, g2, g3⟩ := fg_ok (t := t) n (k + 1) (up (up M 28 (32 * t + k) (-1)) 29 (32 * t + k) (-1))
    refine ⟨fun w h1 h2 => by rw [g1 w h1 h2, up_row h2, up_row h1], fun l => ?_, fun l => ?_⟩
    · rw [g2 l, up_row (by decide), up_self]
      by_cases e : l = 32 * t + k
      · subst e
        rw [pk_us, if_pos (show 32 * t + k ≤ 32 * t + k ∧ _ by omega)]
        split <;> rfl
      · rw [pk_un e]
        by_cases e2 : 32 * t + (k + 1) ≤ l ∧ l < 32 * t + (k + 1) + n
        · rw [if_pos e2, if_pos (by omega)]
        · rw [if_neg e2, if_neg (by omega)]
    · rw [g3 l, up_self]
      by_cases e : l = 32 * t + k
      · subst e
        rw [pk_us, if_pos (show 32 * t + k ≤ 32 * t + k ∧ _ by omega)]
        split <;> rfl
      · rw [pk_un e, up_row (by decide)]
        by_cases e2 : 32 * t + (k + 1) ≤ l ∧ l < 32 * t + (k + 1) + n
        · rw [if_pos e2, if_pos (by omega)]
        · rw [if_neg e2, if_neg (by omega)]
theorem IG_zero {Bd i : Nat} {c : Nat → Int32} {d : Nat → Nat → Int32} {m m' : Nat → Int32} (h : IG nt 32 Bd c d m) (hm : ∀ l, m' l = if 32 * i ≤ l ∧ l < 32 * i + 32 then -1 else m l) : IG nt 32 Bd (upd c i 0) d m' := by
  intro j hj k hk
  rw [hm]
  by_cases e : j = i
  · subst e
    rw [pk_us, b_0, if_pos (by omega)]
    exact ⟨(if_neg (by decide)).symm, fun z => absurd z (by decide)⟩
  · rw [pk_un e, if_neg (by omega)]
    exact h j hj k hk
theorem Inv.forget (h : Inv nt B R C M) {i : Nat} (hi : i < nt) (hno : ∀ k, k < 32 → C 6 k ≠ nI i) : Inv nt B R (up (up C 20 i 0) 21 i 0) (s_forgets i M) := by
  have hn := h.wf.n40
  have hW := WF_up (WF_up h.wf (v := 20) (i := i) (x := 0) (by decide)) (v := 21) (i := i) (x := 0) (by decide)
  obtain ⟨g1, g2, g3⟩ := fg_ok (t := i) 32 0 M
  obtain ⟨-, hN, hR, hK, hT, ⟨d1, d2, d3⟩, hO, hV, hQ⟩ := h
  unfold s_forgets
  generalize s_forgets_2 i 32 0 M = M' at g1 g2 g3
  simp (disch := decide) only [Inv, up_t0, up_t1, up_t2]
  simp (disch := decide) only [up_row, up_self, g1]
  refine ⟨hW, hN, hR, hK, hT, ⟨IG_zero d1 (fun l => by rw [g2 l, Nat.add_zero]), IG_zero d2 (fun l => by rw [g3 l, Nat.add_zero]), d3⟩, ?_, hV, hQ⟩
  intro k j hk hj q
  have e : j ≠ i := fun z => hno k hk (by rw [q, z])
  rw [pk_un e]
  exact hO k j hk hj q
/-- the model's loop of a restart, without its end -/
def raM (t : Nat) : Nat → Nat → St → St
  | 0, _, M => M
  | n + 1, i, M => raM t n (i + 1) (if M 7 i = nI t then up M 7 i (-1) else M)
theorem rs2_eq {t : Nat} {s : Int32} : ∀ (n i : Nat) (M : St), s_restarts_2 t s n i M = s_restarts_2 t s 0 i (raM t n i M)
  | 0, _, _ => rfl
  | n + 1, i, M => by
    rw [show s_restarts_2 t s (n + 1) i M = (if (M 7 i) = (nI t) then (s_restarts_2 t s n (i + 1) (up M 7 i (-1 : Int32))) else (s_restarts_2 t s n (i + 1) (up M 7 i (M 7 i)))) from rfl]
    rw [show raM t (n + 1) i M = raM t n (i + 1) (if M 7 i = nI t then up M 7 i (-1) else M) from rfl]
    split
    · rw [rs2_eq n (i + 1)]; rfl
    · rw [up_id, rs2_eq n (i + 1)]; rfl
theorem ra_ok {t : Nat} : ∀ (n i : Nat) (C M : St), i + n = 32 → Inv nt B R C M → (∀ k, k < i → C 6 k ≠ nI t) → t < 40 → Inv nt B R (raL (nI t) n i C) (raM t n i M) ∧ (∀ k, k < 32 → raL (nI t) n i C 6 k ≠ nI t) ∧ (∀ w, w ≠ 6 → raL (nI t) n i C w = C w)
  | 0, i, C, M, hi, h, hk, ht => ⟨h, fun k q => hk k (by omega), fun _ _ => rfl⟩
  | n + 1, i, C, M, hi, h, hk, ht => by
    unfold raL raM
    rw [← h.k.1 i (by omega)]
    by_cases q : C 6 i = nI t
    · rw [if_pos q, if_pos q]
      obtain ⟨r1, r2, r3⟩ := ra_ok n (i + 1) (up C 6 i (-1)) (up M 7 i (-1)) (by omega) h.own0 (fun k hk2 => by
        rw [up_self]
        by_cases e : k = i
        · subst e; rw [pk_us]; exact ne_nI (by omega)
        · rw [pk_un e]; exact hk k (by omega)) ht
      exact ⟨r1, r2, fun w hw => by rw [r3 w hw, up_row hw]⟩
    · rw [if_neg q, if_neg q]
      exact ra_ok n (i + 1) C M (by omega) h (fun k hk2 => by
        by_cases e : k = i
        · subst e; exact q
        · exact hk k (by omega)) ht
theorem Inv.restart (h : Inv nt B R C M) (hB : B < 2 ^ 31) {t : Nat} (ht : t < nt) (h2 : C 15 t ≠ 2) {s : Int32} (hs : bd B s) : (s_restarts t s M).1 = -12 ∧ Inv nt B R (resC C (nI t) s) (s_restarts t s M).2 := by
  have hn := h.wf.n40
  obtain ⟨r1, r2, r3⟩ := ra_ok (t := t) 32 0 C M (by omega) h (fun k hk => by omega) (by omega)
  unfold s_restarts resC
  rw [rs2_eq]
  refine ⟨rfl, ?_⟩
  have hf := r1.forget ht r2
  unfold forgetS
  rw [nI_clamp (by omega)]
  show Inv nt B R _ (up (up (s_forgets t (raM t 32 0 M)) 19 t (s_greater s ((s_forgets t (raM t 32 0 M)) 20 t))) 20 t (s_greater s ((s_forgets t (raM t 32 0 M)) 20 t)))
  generalize raL (nI t) 32 0 C = C1 at r1 r2 r3 hf
  generalize s_forgets t (raM t 32 0 M) = M1 at hf
  have e20 : M1 20 t = C1 17 t := by
    rw [← hf.t.2.2.2.2.2.2.1 t ht, up_row (by decide), up_row (by decide)]
  rw [gr_mx, e20, up_comm (v := 19) (w := 20) (by decide)]
  have hb17 := (hf.t.2.2.2.2.2.2.2.2.2.2.2.1 t ht).1
  rw [up_row (by decide), up_row (by decide)] at hb17
  have hbx := bd_mx hs hb17
  refine (hf.r17 ht ?_ hbx ?_ hB).r16 hbx
  · rw [up_row (by decide), up_row (by decide), r3 15 (by decide)]
    exact h2
  · rw [up_row (by decide), up_row (by decide)]
    exact mx_r
end FGT
-- the insertion of a change
section INS
variable {nt B R : Nat} {C M : St} {L L' : List (Nat × Nat × Int32)}
theorem ins_ok {ch v : Int32} {q : Nat} : ∀ (p : Nat) (C : St), q ≤ p → (∀ j, j < q → C 28 j ≤ ch) → (∀ j, q ≤ j → j < p → ¬ C 28 j ≤ ch) → (∀ j, inS ch v p C 28 j = if j < q then C 28 j else if j = q then ch else if j ≤ p then C 28 (j - 1) else C 28 j) ∧ (∀ j, inS ch v p C 29 j = if j < q then C 29 j else if j = q then v else if j ≤ p then C 29 (j - 1) else C 29 j)
  | 0, C, h1, h2, h3 => by
    have : q = 0 := by omega
    subst this
    refine ⟨fun j => ?_, fun j => ?_⟩
    · show up (up C 28 0 ch) 29 0 v 28 j = _
      rw [up_row (by decide), up_self, if_neg (by omega)]
      by_cases e : j = 0
      · rw [e, pk_us, if_pos rfl]
      · rw [pk_un e, if_neg e, if_neg (by omega)]
    · show up (up C 28 0 ch) 29 0 v 29 j = _
      rw [up_self, if_neg (by omega)]
      by_cases e : j = 0
      · rw [e, pk_us, if_pos rfl]
      · rw [pk_un e, if_neg e, if_neg (by omega), up_row (by decide)]
  | p + 1, C, h1, h2, h3 => by
    unfold inS
    by_cases z : C 28 p ≤ ch
    · rw [if_pos z]
      have eq : q = p + 1 := by
        apply Classical.byContradiction
        intro y
        exact h3 p (by omega) (by omega) z
      subst eq
      refine ⟨fun j => ?_, fun j => ?_⟩
      · rw [up_row (by decide), up_self]
        by_cases e : j = p + 1
        · rw [e, pk_us, if_neg (by omega), if_pos rfl]
        · rw [pk_un e]
          by_cases e2 : j < p + 1
          · rw [if_pos e2]
          · rw [if_neg e2, if_neg e, if_neg (by omega)]
      · rw [up_self]
        by_cases e : j = p + 1
        · rw [e, pk_us, if_neg (by omega), if_pos rfl]
        · rw [pk_un e, up_row (by decide)]
          by_cases e2 : j < p + 1
          · rw [if_pos e2]
          · rw [if_neg e2, if_neg e, if_neg (by omega)]
    · rw [if_neg z]
      have hq : q ≤ p := by
        apply Classical.byContradiction
        intro y
        exact z (h2 p (by omega))
      have r28 : ∀ j, up (up C 28 (p + 1) (C 28 p)) 29 (p + 1) (C 29 p) 28 j = if j = p + 1 then C 28 p else C 28 j := by
        intro j
        rw [up_row (by decide), up_self]
        by_cases e : j = p + 1
        · rw [e, pk_us, if_pos rfl]
        · rw [pk_un e, if_neg e]
      have r29 : ∀ j, up (up C 28 (p + 1) (C 28 p)) 29 (p + 1) (C 29 p) 29 j = if j = p + 1 then C 29 p else C 29 j := by
        intro j
        rw [up_self]
        by_cases e : j = p + 1
        · rw [e, pk_us, if_pos rfl]
        · rw [pk_un e, if_neg e, up_row (by decide)]
      obtain ⟨g1, g2⟩ := ins_ok (ch := ch) (v := v) (q := q) p (up (up C 28 (p + 1) (C 28 p)) 29 (p + 1) (C 29 p)) hq (fun j hj => by rw [r28 j, if_neg (by omega)]; exact h2 j hj) (fun j h4 h5 => by rw [r28 j, if_neg (by omega)]; exact h3 j h4 (by omega))
      refine ⟨fun j => ?_, fun j => ?_⟩
      · rw [g1 j, r28 j, r28 (j - 1)]
        by_cases e1 : j < q
        · rw [if_pos e1, if_pos e1, if_neg (by omega)]
        · rw [if_neg e1, if_neg e1]
          by_cases e2 : j = q
          · rw [if_pos e2, if_pos e2]
          · rw [if_neg e2, if_neg e2]
            by_cases e3 : j ≤ p
            · rw [if_pos e3, if_neg (by omega), if_pos (by omega)]
            · rw [if_neg e3]
              by_cases e4 : j = p + 1
              · rw [if_pos e4, if_pos (by omega), e4, Nat.add_sub_cancel]
              · rw [if_neg e4, if_neg (by omega)]
      · rw [g2 j, r29 j, r29 (j - 1)]
        by_cases e1 : j < q
        · rw [if_pos e1, if_pos e1, if_neg (by omega)]
        · rw [if_neg e1, if_neg e1]
          by_cases e2 : j = q
          · rw [if_pos e2, if_pos e2]
          · rw [if_neg e2, if_neg e2]
            by_cases e3 : j ≤ p
            · rw [if_pos e3, if_neg (by omega), if_pos (by omega)]
            · rw [if_neg e3]
              by_cases e4 : j = p + 1
              · rw [if_pos e4, if_pos (by omega), e4, Nat.add_sub_cancel]
              · rw [if_neg e4, if_neg (by omega)]
theorem cut_at {α : Type} (P : α → Prop) (hd : ∀ a, P a ∨ ¬ P a) (L : List α) (hm : ∀ (i j : Nat) (a b : α), i < j → L[i]? = some a → L[j]? = some b → P b → P a) : ∀ n : Nat, n ≤ L.length → ∃ q : Nat, q ≤ n ∧ (∀ (j : Nat) (a : α), j < q → L[j]? = some a → P a) ∧ (∀ (j : Nat) (a : α), q ≤ j → j < n → L[j]? = some a → ¬ P a)
  | 0, _ => ⟨0, Nat.le_refl _, fun j a h => by omega, fun j a h1 h2 => by omega⟩
  | n + 1, h => by
    obtain ⟨q, h1, h2, h3⟩ := cut_at P hd L hm n (by omega)
    have he : L[n]? = some L[n] := List.getElem?_eq_getElem (by omega)
    rcases hd L[n] with y | y
    · refine ⟨n + 1, Nat.le_refl _, fun j a hj ha => ?_, fun j a h4 h5 => by omega⟩
      rcases Nat.lt_or_eq_of_le (show j ≤ n by omega) with z | z
      · exact hm j n a _ z ha he y
      · subst z
        rw [he] at ha
        rw [← Option.some.inj ha]
        exact y
    · refine ⟨q, by omega, h2, fun j a h4 h5 ha => ?_⟩
      rcases Nat.lt_or_eq_of_le (show j ≤ n by omega) with z | z
      · exact h3 j a h4 z ha
      · subst z
        rw [he] at ha
        rw [← Option.some.inj ha]
        exact y
theorem ins_nth {α : Type} {L : List α} {e : α} {q : Nat} (hq : q ≤ L.length) (j : Nat) : (L.take q ++ e :: L.drop q)[j]? = if j < q then L[j]? else if j = q then some e else L[j - 1]? := by
  have hl : (L.take q).length = q := by rw [List.length_take]; omega
  by_cases h1 : j < q
  · rw [if_pos h1, List.getElem?_append_left (by omega), List.getElem?_take_of_lt h1]
  · rw [if_neg h1, List.getElem?_append_right (by omega), hl]
    by_cases h2 : j = q
    · subst h2
      rw [if_pos rfl, Nat.sub_self]
      rfl
    · rw [if_neg h2]
      obtain ⟨y, hy⟩ : ∃ y, j - q = y + 1 := ⟨j - q - 1, by omega⟩
      rw [hy, List.getElem?_cons_succ, List.getElem?_drop]
      congr 1
      omega
theorem ins_perm {α : Type} {L : List α} {e : α} {q : Nat} : (L.take q ++ e :: L.drop q).Perm (e :: L) := by
  have := List.perm_middle (a := e) (l₁ := L.take q) (l₂ := L.drop q)
  rw [List.take_append_drop] at this
  exact this
theorem ins_pair {α : Type} {P : α → α → Prop} {L : List α} {e : α} {q : Nat} (h : L.Pairwise P) (h1 : ∀ a ∈ L.take q, P a e) (h2 : ∀ a ∈ L.drop q, P e a) : (L.take q ++ e :: L.drop q).Pairwise P := by
  have h3 : (L.take q ++ L.drop q).Pairwise P := by rw [List.take_append_drop]; exact h
  rw [List.pairwise_append] at h3 ⊢
  refine ⟨h3.1, List.pairwise_cons.mpr ⟨h2, h3.2.1⟩, fun a ha b hb => ?_⟩
  rcases List.mem_cons.mp hb with rfl | hb
  · exact h1 a ha
  · exact h3.2.2 a ha b hb
theorem mem_take {α : Type} {L : List α} {a : α} {q : Nat} (h : a ∈ L.take q) : ∃ j, j < q ∧ L[j]? = some a := by
  obtain ⟨j, hj⟩ := List.mem_iff_getElem?.mp h
  have hj2 : j < q := by
    have := (List.getElem?_eq_some_iff.mp hj).1
    rw [List.length_take] at this
    omega
  rw [List.getElem?_take_of_lt hj2] at hj
  exact ⟨j, hj2, hj⟩
theorem mem_drop {α : Type} {L : List α} {a : α} {q : Nat} (h : a ∈ L.drop q) : ∃ j, q ≤ j ∧ L[j]? = some a := by
  obtain ⟨j, hj⟩ := List.mem_iff_getElem?.mp h
  rw [List.getElem?_drop] at hj
  exact ⟨q + j, by omega, hj⟩
theorem grC_28 {C : St} {c j : Nat} (hcn : C 26 0 = nI c) (hle : c ≤ cap C) (hv : cap C = capv C) (hj : j < c) : grC C 28 j = C 28 j ∧ grC C 29 j = C 29 j := by
  unfold grC
  split
  · refine ⟨?_, ?_⟩
    · rw [growC6_row (by decide) (by decide)]
      show va_cpy (C 28) (fun _ => 0) 0 0 (cap C) j = _
      rw [pk_cpy_in (by omega) (by omega)]
      congr 1
      omega
    · show va_cpy (growC5 C (2 * cap C) 29) (fun _ => 0) 0 0 (capv (growC5 C (2 * cap C))) j = _
      rw [growC5_row (by decide) (by decide)]
      have : capv (growC5 C (2 * cap C)) = capv C := by
        unfold capv
        rw [growC5_row (by decide) (by decide)]
      rw [this, pk_cpy_in (by omega) (by omega)]
      congr 1
      omega
  · exact ⟨rfl, rfl⟩
/-- a version more, on both sides -/
theorem IZ.addv (h : IZ nt B R C M) (hB : B ≤ 900000) (hH : HH C 1) {st k : Nat} {v : Int32} (hst : st ≤ B) (hk : k < 32) (hv : bd 1000 v) (hno : C 6 k = -1) (hn : nt ≤ 40) (hlt : ∀ L, RepC L (C 28) (C 29) → C 26 0 = nI L.length → L.length ≤ 1280 → (∀ e ∈ L, okE B e) → L.Pairwise (fun a b => chN a < chN b) → ∀ e ∈ L, e.2.1 = k → e.1 < st) : IZ nt B R (addS C (nI st) (nI k) v) (up (up (up (up M 13 (M 12 0).toNatClampNeg (nI k)) 14 (M 12 0).toNatClampNeg (nI st)) 15 (M 12 0).toNatClampNeg v) 12 0 ((M 12 0) + (1 : Int32))) := by
  obtain ⟨c, y1, y2, y3, y4, y5, y6⟩ := hH
  obtain ⟨hN, hR, hK, hT, hG, hO, ⟨L, L', v1, v2, v3, v4, v5, v6, v7, v8, v9⟩, hQ⟩ := h
  have ec : c = L.length := (nI_eq (by omega) (by omega)).mp (y1.symm.trans v2)
  subst ec
  have hlt := hlt L v5 v2 v4 v7 v8
  have ecn : cn C = L.length := by unfold cn; rw [v2, nI_clamp (by omega)]
  have hch : (32 : Int32) * nI st + nI k = nI (32 * st + k) := by
    show nI 32 * nI st + nI k = _
    rw [pk_mul, nI_add]
  have hl2 : 32 * st + k < 2 ^ 31 := by omega
  have hne : ∀ e ∈ L, chN e ≠ 32 * st + k := by
    intro e he z
    have := (v7 e he).2.1
    unfold chN at z
    have h5 := hlt e he (by omega)
    omega
  obtain ⟨q, q1, q2, q3⟩ := cut_at (fun e : Nat × Nat × Int32 => chN e ≤ 32 * st + k) (fun a => Classical.em _) L (fun i j a b hij ha hb hP => by
    have := so_nth v8 ha hb hij
    omega) L.length (Nat.le_refl _)
  have hg28 : ∀ j, j < L.length → grC C 28 j = C 28 j ∧ grC C 29 j = C 29 j := fun j hj => grC_28 v2 y3 y4 hj
  have hrow : ∀ j a, L[j]? = some a → grC C 28 j = nI (chN a) ∧ grC C 29 j = a.2.2 := fun j a ha => by
    have hj := (List.getElem?_eq_some_iff.mp ha).1
    rw [(hg28 j hj).1, (hg28 j hj).2]
    exact v5 j a ha
  obtain ⟨i1, i2⟩ := ins_ok (ch := nI (32 * st + k)) (v := v) (q := q) L.length (grC C) q1 (fun j hj => by
    have he : L[j]? = some L[j] := List.getElem?_eq_getElem (by omega)
    rw [(hrow j _ he).1]
    exact nI_le (q2 j _ hj he) hl2) (fun j h1 h2 => by
    have he : L[j]? = some L[j] := List.getElem?_eq_getElem (by omega)
    rw [(hrow j _ he).1]
    exact nI_ge (Nat.not_le.mp (q3 j _ h1 h2 he)) (ch_lt (v7 _ (List.getElem_mem _)) hB))
  have r (w : Nat) (h0 : w ≠ 26) (h1 : w ≠ 27) (h2 : w ≠ 28) (h3 : w ≠ 34) (h4 : w ≠ 29) : addS C (nI st) (nI k) v w = C w := addS_row h0 h1 h2 h3 h4
  have r26 : addS C (nI st) (nI k) v 26 0 = nI (L.length + 1) := cn_add (n := 0) v2
  have r28 : ∀ j, addS C (nI st) (nI k) v 28 j = if j < q then grC C 28 j else if j = q then nI (32 * st + k) else if j ≤ L.length then grC C 28 (j - 1) else grC C 28 j := fun j => by
    unfold addS
    rw [up_row (by decide), hch, ecn]
    exact i1 j
  have r29 : ∀ j, addS C (nI st) (nI k) v 29 j = if j < q then grC C 29 j else if j = q then v else if j ≤ L.length then grC C 29 (j - 1) else grC C 29 j := fun j => by
    unfold addS
    rw [up_row (by decide), hch, ecn]
    exact i2 j
  have e0 : (fun i => addS C (nI st) (nI k) v (50 + 3 * i)) = fun i => C (50 + 3 * i) := by funext i; exact r _ (by omega) (by omega) (by omega) (by omega) (by omega)
  have e1 : (fun i => addS C (nI st) (nI k) v (51 + 3 * i)) = fun i => C (51 + 3 * i) := by funext i; exact r _ (by omega) (by omega) (by omega) (by omega) (by omega)
  have e2 : (fun i => addS C (nI st) (nI k) v (52 + 3 * i)) = fun i => C (52 + 3 * i) := by funext i; exact r _ (by omega) (by omega) (by omega) (by omega) (by omega)
  unfold IZ
  rw [e0, e1, e2, v3, nI_clamp (by omega), nI_1]
  simp (disch := decide) only [r, up_row, up_self]
  generalize addS C (nI st) (nI k) v 26 = c26 at r26
  generalize addS C (nI st) (nI k) v 28 = c28 at r28
  generalize addS C (nI st) (nI k) v 29 = c29 at r29
  refine ⟨hN, hR, hK, hT, hG, hO, ⟨L.take q ++ (st, k, v) :: L.drop q, L' ++ [(st, k, v)], ?_, ?_, ?_, ?_, ?_, ?_, ?_, ?_, ?_⟩, hQ⟩
  · refine ins_perm.trans ((List.Perm.cons _ v1).trans ?_)
    exact (List.perm_append_singleton _ _).symm
  · rw [r26, ins_perm.length_eq]
    rfl
  · rw [pk_us, ins_perm.length_eq]
    rfl
  · rw [ins_perm.length_eq]
    show L.length + 1 ≤ 1280
    omega
  · intro j a ha
    rw [ins_nth q1] at ha
    rw [r28 j, r29 j]
    by_cases h1 : j < q
    · rw [if_pos h1] at ha ⊢
      rw [if_pos h1]
      exact hrow j a ha
    · rw [if_neg h1] at ha ⊢
      rw [if_neg h1]
      by_cases h2 : j = q
      · rw [if_pos h2] at ha ⊢
        rw [if_pos h2]
        rw [← Option.some.inj ha]
        exact ⟨rfl, rfl⟩
      · rw [if_neg h2] at ha ⊢
        rw [if_neg h2]
        have hj := (List.getElem?_eq_some_iff.mp ha).1
        rw [if_pos (by omega), if_pos (by omega)]
        exact hrow (j - 1) a ha
  · intro j a ha
    have hl := v1.length_eq
    rcases Nat.lt_or_ge j L'.length with h1 | h1
    · rw [List.getElem?_append_left h1] at ha
      rw [pk_un (by omega), pk_un (by omega), pk_un (by omega)]
      exact v6 j a ha
    · rw [List.getElem?_append_right h1] at ha
      have h2 := (List.getElem?_eq_some_iff.mp ha).1
      have h3 : j = L.length := by
        simp at h2
        omega
      subst h3
      rw [pk_us, pk_us, pk_us]
      rw [hl, Nat.sub_self] at ha
      rw [← Option.some.inj ha]
      exact ⟨rfl, rfl, rfl⟩
  · intro a ha
    rcases List.mem_cons.mp (ins_perm.mem_iff.mp ha) with rfl | ha
    · exact ⟨hst, hk, hv⟩
    · exact v7 a ha
  · refine ins_pair v8 (fun a ha => ?_) (fun a ha => ?_)
    · obtain ⟨j, j1, j2⟩ := mem_take ha
      have h5 := q2 j a j1 j2
      have h6 := hne a (List.mem_of_getElem? j2)
      show chN a < 32 * st + k
      omega
    · obtain ⟨j, j1, j2⟩ := mem_drop ha
      have h5 := q3 j a j1 (List.getElem?_eq_some_iff.mp j2).1 j2
      show 32 * st + k < chN a
      omega
  · intro j i hj hi ho e he ek
    rcases List.mem_cons.mp (ins_perm.mem_iff.mp he) with rfl | he
    · have : j = k := ek.symm
      subst this
      rw [hno] at ho
      exact absurd ho (ne_nI (by omega))
    · exact v9 j i hj hi ho e he ek
end INS
