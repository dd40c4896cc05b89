/-! a new transaction: the cells behind `begin` -/
def gw (g : GT) (a' : Nat → Nat) : GT := (g.1, g.2.1, g.2.2.1, g.2.2.2.1, a')
theorem gw_ad {g : GT} {a' : Nat → Nat} {n : Nat} : ad (gw g a') n = a' n := rfl
theorem hp_gw {g : GT} {a' : Nat → Nat} {h : Nat × Nat} {n : Nat} (e : a' n = ad g n) : hp (gw g a') h n = hp g h n := by
  unfold hp
  rw [gw_ad, e]
theorem upr_eq {S : St} {v : Nat} {f : Nat → Int32} : upr S v f v = f := by
  funext j
  simp [upr]
theorem upr_row {S : St} {v w : Nat} {f : Nat → Int32} (h : w ≠ v) : upr S v f w = S w := by
  funext j
  simp [upr, h]
def nrm (nt b : Nat) (f : Nat → Int32) : Nat → Int32 := fun k => if f k < 0 ∨ (f k).toNatClampNeg < nt then f k else nI (nt + 1 + b + k)
def bgA (C : St) (nt c : Nat) (r : Int32) : St := up (up (up (up (up (up (up (up (up (up (up (up (tellS C c (C 0 0)) 11 nt (nI nt)) 12 nt (nI c)) 13 nt r) 14 nt (tellS C c (C 0 0) 2 c + 100)) 15 nt 0) 16 nt (tellS C c (C 0 0) 2 c)) 17 nt (tellS C c (C 0 0) 2 c)) 18 nt (C 0 0)) 19 nt (-1)) 20 nt 0) 21 nt 0) 22 nt 0
def bgB (C : St) (nt : Nat) : St := upr (upr (upr C (50 + 3 * nt) (fun _ => 0)) (51 + 3 * nt) (fun _ => 0)) (52 + 3 * nt) (fun _ => 0)
def bg0 (C : St) (nt c : Nat) (r : Int32) : St := upr (upr (bgB (bgA C nt c r) nt) 30 (nrm nt 0 (C 30))) 33 (upd (nrm nt 40 (C 33)) nt (nI nt))
section BG
variable {C : St} {nt c : Nat} {r : Int32}
theorem bgB_lo {w : Nat} (h : w < 50) : bgB C nt w = C w := by
  unfold bgB
  rw [upr_row (by omega), upr_row (by omega), upr_row (by omega)]
theorem bgB_hi {i q : Nat} (h : i ≠ nt) (hq : q < 3) : bgB C nt (50 + q + 3 * i) = C (50 + q + 3 * i) := by
  unfold bgB
  rw [upr_row (by omega), upr_row (by omega), upr_row (by omega)]
theorem bgB_nt {q : Nat} (hq : q < 3) : bgB C nt (50 + q + 3 * nt) = fun _ => 0 := by
  unfold bgB
  by_cases h2 : q = 2
  · subst h2; rw [show 50 + 2 + 3 * nt = 52 + 3 * nt by omega, upr_eq]
  · rw [upr_row (by omega)]
    by_cases h1 : q = 1
    · subst h1; rw [show 50 + 1 + 3 * nt = 51 + 3 * nt by omega, upr_eq]
    · rw [upr_row (by omega), show q = 0 by omega, upr_eq]
theorem bgA_row {w : Nat} (h : w < 11 ∨ 22 < w) (h2 : w ≠ 2) : bgA C nt c r w = C w := by
  unfold bgA tellS meetS
  rw [up_row (by omega), up_row (by omega), up_row (by omega), up_row (by omega), up_row (by omega), up_row (by omega), up_row (by omega), up_row (by omega), up_row (by omega), up_row (by omega), up_row (by omega), up_row (by omega), up_row (by omega)]
theorem bgA_2 : bgA C nt c r 2 = tellS C c (C 0 0) 2 := by
  unfold bgA
  rw [up_row (by decide), up_row (by decide), up_row (by decide), up_row (by decide), up_row (by decide), up_row (by decide), up_row (by decide), up_row (by decide), up_row (by decide), up_row (by decide), up_row (by decide), up_row (by decide)]
theorem tell_row {w : Nat} {x : Int32} (h : w ≠ 2) : tellS C c x w = C w := up_row h
theorem bgA_ne {w i : Nat} (h : 11 ≤ w) (h2 : i ≠ nt) : bgA C nt c r w i = C w i := by
  unfold bgA
  rw [up_ne (Or.inr h2), up_ne (Or.inr h2), up_ne (Or.inr h2), up_ne (Or.inr h2), up_ne (Or.inr h2), up_ne (Or.inr h2), up_ne (Or.inr h2), up_ne (Or.inr h2), up_ne (Or.inr h2), up_ne (Or.inr h2), up_ne (Or.inr h2), up_ne (Or.inr h2), tell_row (by omega)]
theorem bg0_lo {w : Nat} (h : w < 50) (h30 : w ≠ 30) (h33 : w ≠ 33) : bg0 C nt c r w = bgA C nt c r w := by
  unfold bg0
  rw [upr_row h33, upr_row h30, bgB_lo h]
theorem bg0_row {w : Nat} (h : w < 11 ∨ 22 < w) (h2 : w ≠ 2) (h5 : w < 50) (h30 : w ≠ 30) (h33 : w ≠ 33) : bg0 C nt c r w = C w := by
  rw [bg0_lo h5 h30 h33, bgA_row h h2]
theorem bg0_30 : bg0 C nt c r 30 = nrm nt 0 (C 30) := by
  unfold bg0
  rw [upr_row (by decide), upr_eq]
theorem bg0_33 : bg0 C nt c r 33 = upd (nrm nt 40 (C 33)) nt (nI nt) := by
  unfold bg0
  rw [upr_eq]
theorem bg0_hi {i q : Nat} (h : i ≠ nt) (hq : q < 3) : bg0 C nt c r (50 + q + 3 * i) = C (50 + q + 3 * i) := by
  unfold bg0
  rw [upr_row (by omega), upr_row (by omega), bgB_hi h hq, bgA_row (by omega) (by omega)]
theorem bg0_nt {q : Nat} (hq : q < 3) : bg0 C nt c r (50 + q + 3 * nt) = fun _ => 0 := by
  unfold bg0
  rw [upr_row (by omega), upr_row (by omega), bgB_nt hq]
theorem bg0_ne {w i : Nat} (h : 11 ≤ w) (h5 : w < 30) (h2 : i ≠ nt) : bg0 C nt c r w i = C w i := by
  rw [bg0_lo (by omega) (by omega) (by omega), bgA_ne h h2]
theorem bgA_at : bgA C nt c r 11 nt = nI nt ∧ bgA C nt c r 12 nt = nI c ∧ bgA C nt c r 13 nt = r ∧ bgA C nt c r 14 nt = tellS C c (C 0 0) 2 c + 100 ∧ bgA C nt c r 15 nt = 0 ∧ bgA C nt c r 16 nt = tellS C c (C 0 0) 2 c ∧ bgA C nt c r 17 nt = tellS C c (C 0 0) 2 c ∧ bgA C nt c r 18 nt = C 0 0 ∧ bgA C nt c r 19 nt = -1 ∧ bgA C nt c r 20 nt = 0 ∧ bgA C nt c r 21 nt = 0 ∧ bgA C nt c r 22 nt = 0 := by
  unfold bgA
  refine ⟨?_, ?_, ?_, ?_, ?_, ?_, ?_, ?_, ?_, ?_, ?_, ?_⟩
  · iterate 11 rw [up_row (by decide)]
    rw [up_eq]
  · iterate 10 rw [up_row (by decide)]
    rw [up_eq]
  · iterate 9 rw [up_row (by decide)]
    rw [up_eq]
  · iterate 8 rw [up_row (by decide)]
    rw [up_eq]
  · iterate 7 rw [up_row (by decide)]
    rw [up_eq]
  · iterate 6 rw [up_row (by decide)]
    rw [up_eq]
  · iterate 5 rw [up_row (by decide)]
    rw [up_eq]
  · iterate 4 rw [up_row (by decide)]
    rw [up_eq]
  · iterate 3 rw [up_row (by decide)]
    rw [up_eq]
  · iterate 2 rw [up_row (by decide)]
    rw [up_eq]
  · rw [up_row (by decide), up_eq]
  · rw [up_eq]
end BG
/-- where the cells stand when a transaction has come -/
def adB (g : GT) (C : St) (nt a0 a1 a2 a3 : Nat) : Nat → Nat := fun n =>
  if n < 73 + 4 * nt then ad g n else if n = 73 + 4 * nt then a0 else if n = 73 + 4 * nt + 1 then a1 else if n = 73 + 4 * nt + 2 then a2 else if n = 73 + 4 * nt + 3 then a3
  else if (n - 73) / 4 - (nt + 1) < 40 then ad g (73 + 4 * (C 30 ((n - 73) / 4 - (nt + 1))).toNatClampNeg) else ad g (73 + 4 * (C 33 ((n - 73) / 4 - (nt + 1) - 40)).toNatClampNeg)
section ADB
variable {g : GT} {C : St} {nt a0 a1 a2 a3 : Nat}
theorem adB_lo {n : Nat} (h : n < 73 + 4 * nt) : adB g C nt a0 a1 a2 a3 n = ad g n := if_pos h
theorem adB_0 : adB g C nt a0 a1 a2 a3 (73 + 4 * nt) = a0 := by
  unfold adB
  rw [if_neg (by omega), if_pos rfl]
theorem adB_1 : adB g C nt a0 a1 a2 a3 (73 + 4 * nt + 1) = a1 := by
  unfold adB
  rw [if_neg (by omega), if_neg (by omega), if_pos rfl]
theorem adB_2 : adB g C nt a0 a1 a2 a3 (73 + 4 * nt + 2) = a2 := by
  unfold adB
  rw [if_neg (by omega), if_neg (by omega), if_neg (by omega), if_pos rfl]
theorem adB_3 : adB g C nt a0 a1 a2 a3 (73 + 4 * nt + 3) = a3 := by
  unfold adB
  rw [if_neg (by omega), if_neg (by omega), if_neg (by omega), if_neg (by omega), if_pos rfl]
theorem adB_hi {k b : Nat} (hb : b = 0 ∧ k < 40 ∨ b = 40) : adB g C nt a0 a1 a2 a3 (73 + 4 * (nt + 1 + b + k)) = if b = 0 then ad g (73 + 4 * (C 30 k).toNatClampNeg) else ad g (73 + 4 * (C 33 k).toNatClampNeg) := by
  have e : (73 + 4 * (nt + 1 + b + k) - 73) / 4 - (nt + 1) = b + k := by omega
  unfold adB
  rw [if_neg (by omega), if_neg (by omega), if_neg (by omega), if_neg (by omega), if_neg (by omega), e]
  rcases hb with ⟨hb, hk⟩ | hb
  · subst hb
    rw [if_pos (by omega), if_pos rfl, Nat.zero_add]
  · subst hb
    rw [if_neg (by omega), if_neg (by decide), show 40 + k - 40 = k by omega]
theorem trB_ok {x : Int32} (h : x < 0 ∨ x.toNatClampNeg < nt) : trO (gw g (adB g C nt a0 a1 a2 a3)) x = trO g x := by
  unfold trO
  rcases h with h | h
  · rw [if_pos h, if_pos h]
  · rw [gw_ad, adB_lo (by omega)]
theorem trB_v {x : Int32} (h : trv nt x) : trO (gw g (adB g C nt a0 a1 a2 a3)) x = trO g x := by
  apply trB_ok
  rcases h with h | h
  · left; rw [h]; decide
  · exact Or.inr h.2
theorem trB_nrm {k b : Nat} {f : Nat → Int32} (hk : k < 40) (hn : nt ≤ 40) (hb : b = 0 ∧ f = C 30 ∨ b = 40 ∧ f = C 33) : trO (gw g (adB g C nt a0 a1 a2 a3)) (nrm nt b f k) = trO g (f k) := by
  unfold nrm
  by_cases h : f k < 0 ∨ (f k).toNatClampNeg < nt
  · rw [if_pos h, trB_ok h]
  · rw [if_neg h]
    unfold trO
    have hb9 : b ≤ 40 := by omega
    rw [if_neg (nI_pos (by omega)), if_neg (fun z => h (Or.inl z)), nI_clamp (by omega), gw_ad, adB_hi (by omega)]
    rcases hb with ⟨rfl, rfl⟩ | ⟨rfl, rfl⟩
    · rw [if_pos rfl]
    · rw [if_neg (by decide)]
theorem trB_nt (hn : nt < 2 ^ 31) : trO (gw g (adB g C nt a0 a1 a2 a3)) (nI nt) = some a0 := by
  unfold trO
  rw [if_neg (nI_pos hn), nI_clamp hn, gw_ad, adB_0]
end ADB
