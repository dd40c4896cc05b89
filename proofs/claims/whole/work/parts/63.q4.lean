/-! the order of the committed and what is judged: both sides -/
section ORD
variable {B nt R : Nat} {C M : St}
theorem ah_eq {a b : Nat} : s_isAhead a b M = 0 ↔ ¬ aP M a b := by
  unfold s_isAhead aP
  by_cases h1 : M 20 a < M 20 b
  · rw [if_pos h1]
    exact ⟨fun q => absurd q (by decide), fun q => absurd (Or.inl h1) q⟩
  · rw [if_neg h1]
    by_cases h2 : M 20 a = M 20 b
    · rw [if_pos h2]
      by_cases h3 : M 25 b ≤ M 25 a
      · rw [if_pos h3]
        refine ⟨fun _ q => ?_, fun _ => rfl⟩
        rcases q with q | q
        · exact h1 q
        · exact absurd q.2 (Int32.not_lt.mpr h3)
      · rw [if_neg h3]
        exact ⟨fun q => absurd q (by decide), fun q => absurd (Or.inr ⟨h2, Int32.not_le.mp h3⟩) q⟩
    · rw [if_neg h2]
      refine ⟨fun _ q => ?_, fun _ => rfl⟩
      rcases q with q | q
      · exact h1 q
      · exact h2 q.1
/-- may be the next one behind last -/
def cnd (M : St) (last : Int32) (j : Nat) : Prop := M 23 j = 2 ∧ (last = -1 ∨ aP M last.toNatClampNeg j)
theorem nx4_step {last : Int32} {n i : Nat} {b : Int32} : s_next_4 last (n + 1) b i M = if M 23 i = 2 ∧ (last = -1 ∨ ¬ s_isAhead last.toNatClampNeg i M = 0) then (if b = -1 then s_next_4 last n (nI i) (i + 1) M else if s_isAhead i b.toNatClampNeg M = 0 then s_next_4 last n b (i + 1) M else s_next_4 last n (nI i) (i + 1) M) else s_next_4 last n b (i + 1) M := by
  rw [show s_next_4 last (n + 1) b i M = (if last = (-1 : Int32) then (if (M 23 i) = (2 : Int32) then (if b = (-1 : Int32) then (s_next_4 last n (nI i) (i + 1) M) else (if (s_isAhead i b.toNatClampNeg M) = (0 : Int32) then (s_next_4 last n b (i + 1) M) else (s_next_4 last n (nI i) (i + 1) M))) else (s_next_4 last n b (i + 1) M)) else (if (s_isAhead last.toNatClampNeg i M) = (0 : Int32) then (if (M 23 i) = (2 : Int32) then (s_next_4 last n b (i + 1) M) else (s_next_4 last n b (i + 1) M)) else (if (M 23 i) = (2 : Int32) then (if b = (-1 : Int32) then (s_next_4 last n (nI i) (i + 1) M) else (if (s_isAhead i b.toNatClampNeg M) = (0 : Int32) then (s_next_4 last n b (i + 1) M) else (s_next_4 last n (nI i) (i + 1) M))) else (s_next_4 last n b (i + 1) M)))) from rfl]
  by_cases h1 : last = -1
  · rw [if_pos h1]
    by_cases h2 : M 23 i = 2
    · rw [if_pos h2, if_pos (show M 23 i = 2 ∧ _ from ⟨h2, Or.inl h1⟩)]
    · rw [if_neg h2, if_neg (show ¬ (M 23 i = 2 ∧ _) from fun q => h2 q.1)]
  · rw [if_neg h1]
    by_cases h3 : s_isAhead last.toNatClampNeg i M = 0
    · rw [if_pos h3, if_neg (show ¬ (M 23 i = 2 ∧ (last = -1 ∨ ¬ s_isAhead last.toNatClampNeg i M = 0)) from fun q => q.2.elim h1 (fun z => z h3))]
      split <;> rfl
    · rw [if_neg h3]
      by_cases h2 : M 23 i = 2
      · rw [if_pos h2, if_pos (show M 23 i = 2 ∧ (last = -1 ∨ ¬ s_isAhead last.toNatClampNeg i M = 0) from ⟨h2, Or.inr h3⟩)]
      · rw [if_neg h2, if_neg (show ¬ (M 23 i = 2 ∧ (last = -1 ∨ ¬ s_isAhead last.toNatClampNeg i M = 0)) from fun q => h2 q.1)]
theorem aP_tot (a b : Nat) : aP M a b ∨ (M 20 a = M 20 b ∧ M 25 a = M 25 b) ∨ aP M b a := by
  unfold aP
  rcases Int32.le_total (M 20 a) (M 20 b) with h | h
  · by_cases e : M 20 a = M 20 b
    · rcases Int32.le_total (M 25 a) (M 25 b) with g | g
      · by_cases f : M 25 a = M 25 b
        · exact Or.inr (Or.inl ⟨e, f⟩)
        · exact Or.inl (Or.inr ⟨e, Int32.lt_of_le_of_ne g f⟩)
      · by_cases f : M 25 a = M 25 b
        · exact Or.inr (Or.inl ⟨e, f⟩)
        · exact Or.inr (Or.inr (Or.inr ⟨e.symm, Int32.lt_of_le_of_ne g (fun z => f z.symm)⟩))
    · exact Or.inl (Or.inl (Int32.lt_of_le_of_ne h e))
  · by_cases e : M 20 a = M 20 b
    · rcases Int32.le_total (M 25 a) (M 25 b) with g | g
      · by_cases f : M 25 a = M 25 b
        · exact Or.inr (Or.inl ⟨e, f⟩)
        · exact Or.inl (Or.inr ⟨e, Int32.lt_of_le_of_ne g f⟩)
      · by_cases f : M 25 a = M 25 b
        · exact Or.inr (Or.inl ⟨e, f⟩)
        · exact Or.inr (Or.inr (Or.inr ⟨e.symm, Int32.lt_of_le_of_ne g (fun z => f z.symm)⟩))
    · exact Or.inr (Or.inr (Or.inl (Int32.lt_of_le_of_ne h (fun z => e z.symm))))
theorem aP_eqr {a b c : Nat} (h : aP M a c) (e : M 20 b = M 20 c ∧ M 25 b = M 25 c) : aP M a b := by
  unfold aP
  rw [e.1, e.2]
  exact h
theorem nx4_ok {last : Int32} : ∀ (n i : Nat) (b : Int32), i + n ≤ 40 → (b = -1 ∨ ∃ j, j < 40 ∧ b = nI j) →
    (s_next_4 last n b i M = -1 ∧ b = -1 ∧ ∀ c, i ≤ c → c < i + n → ¬ cnd M last c) ∨ ∃ j, j < 40 ∧ s_next_4 last n b i M = nI j ∧ (b = nI j ∨ (i ≤ j ∧ j < i + n ∧ cnd M last j)) ∧ (∀ c, i ≤ c → c < i + n → cnd M last c → ¬ aP M c j) ∧ (∀ c, c < 40 → b = nI c → ¬ aP M c j)
  | 0, i, b, h, hb => by
    rcases hb with hb | ⟨j, hj, hb⟩
    · exact Or.inl ⟨hb, hb, fun c h1 h2 => absurd h2 (by omega)⟩
    · refine Or.inr ⟨j, hj, hb, Or.inl hb, fun c h1 h2 => absurd h2 (by omega), fun c hc hbc => ?_⟩
      have := (nI_eq (by omega) (by omega)).mp (hb.symm.trans hbc)
      subst this
      exact fun q => aP_irr q
  | n + 1, i, b, h, hb => by
    rw [nx4_step]
    have hc1 : (M 23 i = 2 ∧ (last = -1 ∨ ¬ s_isAhead last.toNatClampNeg i M = 0)) ↔ cnd M last i := by
      unfold cnd
      rw [ah_eq, Classical.not_not]
    have skip : ¬ cnd M last i → ((s_next_4 last n b (i + 1) M = -1 ∧ b = -1 ∧ ∀ c, i + 1 ≤ c → c < i + 1 + n → ¬ cnd M last c) ∨ ∃ j, j < 40 ∧ s_next_4 last n b (i + 1) M = nI j ∧ (b = nI j ∨ (i + 1 ≤ j ∧ j < i + 1 + n ∧ cnd M last j)) ∧ (∀ c, i + 1 ≤ c → c < i + 1 + n → cnd M last c → ¬ aP M c j) ∧ (∀ c, c < 40 → b = nI c → ¬ aP M c j)) → ((s_next_4 last n b (i + 1) M = -1 ∧ b = -1 ∧ ∀ c, i ≤ c → c < i + (n + 1) → ¬ cnd M last c) ∨ ∃ j, j < 40 ∧ s_next_4 last n b (i + 1) M = nI j ∧ (b = nI j ∨ (i ≤ j ∧ j < i + (n + 1) ∧ cnd M last j)) ∧ (∀ c, i ≤ c → c < i + (n + 1) → cnd M last c → ¬ aP M c j) ∧ (∀ c, c < 40 → b = nI c → ¬ aP M c j)) := by
      intro hn z
      rcases z with ⟨z1, z2, z3⟩ | ⟨j, z1, z2, z3, z4, z5⟩
      · refine Or.inl ⟨z1, z2, fun c h1 h2 => ?_⟩
        rcases Nat.eq_or_lt_of_le h1 with e | e
        · subst e; exact hn
        · exact z3 c e (by omega)
      · refine Or.inr ⟨j, z1, z2, z3.imp id (fun z => ⟨by omega, by omega, z.2.2⟩), fun c h1 h2 h3 => ?_, z5⟩
        rcases Nat.eq_or_lt_of_le h1 with e | e
        · subst e; exact absurd h3 hn
        · exact z4 c e (by omega) h3
    have take : cnd M last i → (∀ j, j < 40 → b = nI j → aP M i j) → ((s_next_4 last n (nI i) (i + 1) M = -1 ∧ b = -1 ∧ ∀ c, i ≤ c → c < i + (n + 1) → ¬ cnd M last c) ∨ ∃ j, j < 40 ∧ s_next_4 last n (nI i) (i + 1) M = nI j ∧ (b = nI j ∨ (i ≤ j ∧ j < i + (n + 1) ∧ cnd M last j)) ∧ (∀ c, i ≤ c → c < i + (n + 1) → cnd M last c → ¬ aP M c j) ∧ (∀ c, c < 40 → b = nI c → ¬ aP M c j)) := by
      intro hci hbi
      rcases nx4_ok (last := last) n (i + 1) (nI i) (by omega) (Or.inr ⟨i, by omega, rfl⟩) with ⟨z1, z2, z3⟩ | ⟨j, z1, z2, z3, z4, z5⟩
      · exact absurd z2.symm (ne_nI (by omega))
      · have zi := z5 i (by omega) rfl
        refine Or.inr ⟨j, z1, z2, Or.inr ?_, fun c h1 h2 h3 => ?_, fun c h1 h2 q => ?_⟩
        · rcases z3 with z3 | z3
          · have := (nI_eq (by omega) (by omega)).mp z3
            subst this
            exact ⟨Nat.le_refl _, by omega, hci⟩
          · exact ⟨by omega, by omega, z3.2.2⟩
        · rcases Nat.eq_or_lt_of_le h1 with e | e
          · subst e; exact zi
          · exact z4 c e (by omega) h3
        · exact zi (aP_trans (hbi c h1 h2) q)
    by_cases hc : cnd M last i
    · rw [if_pos (hc1.mpr hc)]
      by_cases hb1 : b = -1
      · rw [if_pos hb1]
        exact take hc (fun j hj q => absurd (hb1.symm.trans q) (ne_nI (by omega)))
      · rw [if_neg hb1]
        obtain ⟨j0, hj0, hbj⟩ : ∃ j, j < 40 ∧ b = nI j := hb.resolve_left hb1
        have e0 : b.toNatClampNeg = j0 := by rw [hbj, nI_clamp (by omega)]
        rw [e0]
        by_cases ha : s_isAhead i j0 M = 0
        · rw [if_pos ha]
          have na := ah_eq.mp ha
          rcases nx4_ok (last := last) n (i + 1) b (by omega) hb with ⟨z1, z2, z3⟩ | ⟨j, z1, z2, z3, z4, z5⟩
          · exact absurd z2 hb1
          · refine Or.inr ⟨j, z1, z2, z3.imp id (fun z => ⟨by omega, by omega, z.2.2⟩), fun c h1 h2 h3 q => ?_, z5⟩
            rcases Nat.eq_or_lt_of_le h1 with e | e
            · subst e
              rcases aP_tot (M := M) j0 j with y | y | y
              · exact z5 j0 hj0 hbj y
              · exact na (aP_eqr q y)
              · exact na (aP_trans q y)
            · exact z4 c e (by omega) h3 q
        · rw [if_neg ha]
          refine take hc (fun j hj q => ?_)
          have := (nI_eq (by omega) (by omega)).mp (hbj.symm.trans q)
          subst this
          exact Classical.not_not.mp (fun z => ha (ah_eq.mpr z))
    · rw [if_neg (fun z => hc (hc1.mp z))]
      exact skip hc (nx4_ok (last := last) n (i + 1) b (by omega) hb)
end ORD
