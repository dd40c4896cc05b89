/-! class: the history's reading methods, the counting of bits -/
theorem decm (x : Int32) : x + Int32.ofInt (-1) = x - 1 := by rw [Int32.sub_eq_add_neg]; rfl
def rm32 (x : Int32) : Int32 := x - x / 32 * 32
def plS (C : St) (key st : Int32) : Nat → Int32
  | 0 => -1
  | p + 1 => if rm32 (C 28 p) = key then (if st < C 28 p / 32 then plS C key st p else nI p) else plS C key st p
theorem plS_in {C : St} {key st : Int32} : ∀ {p : Nat}, p < 2 ^ 31 → plS C key st p < 0 ∨ ∃ j, j < p ∧ plS C key st p = nI j
  | 0, _ => Or.inl (show (-1 : Int32) < 0 by decide)
  | p + 1, hp => by
    have ih := plS_in (C := C) (key := key) (st := st) (p := p) (by omega)
    unfold plS
    split
    · split
      · rcases ih with h | ⟨j, h1, h2⟩
        · exact Or.inl h
        · exact Or.inr ⟨j, by omega, h2⟩
      · exact Or.inr ⟨p, by omega, rfl⟩
    · rcases ih with h | ⟨j, h1, h2⟩
      · exact Or.inl h
      · exact Or.inr ⟨j, by omega, h2⟩
def stU (C : St) (c : Nat) (key st : Int32) : Int32 := if 0 ≤ plS C key st c then C 28 (plS C key st c).toNatClampNeg / 32 else 0
def vaU (C : St) (c : Nat) (key st : Int32) : Int32 := if 0 ≤ plS C key st c then C 29 (plS C key st c).toNatClampNeg else 1000
def cntS (C : St) (key : Int32) : Nat → Nat → Int32 → Int32
  | 0, _, acc => acc
  | n + 1, i, acc => cntS C key n (i + 1) (if rm32 (C 28 i) = key then acc + 1 else acc)
def chA (C : St) (place st : Int32) : Int32 := if C 26 0 ≤ place then -1 else if st < C 28 place.toNatClampNeg / 32 then -1 else C 28 place.toNatClampNeg
def coA (C : St) (place : Int32) : Int32 := if C 31 0 ≤ place then -1 else C 30 place.toNatClampNeg
theorem pl_in {C : St} {key st : Int32} {c N : Nat} (h1 : c ≤ N) (h2 : N < 2 ^ 31) (h : 0 ≤ plS C key st c) : inr (plS C key st c) N (plS C key st c).toNatClampNeg := by
  rcases plS_in (C := C) (key := key) (st := st) (p := c) (by omega) with q | ⟨j, q1, q2⟩
  · exact absurd q (Int32.not_lt.mpr h)
  · rw [q2, nI_clamp (by omega)]
    exact inr_nI (by omega) h2
theorem chA_in {C : St} {c : Nat} {place : Int32} (hc : cap C < 2 ^ 31) (hcn : C 26 0 = nI c) (hle : c ≤ cap C) (hp : ¬ place < 0) (h : ¬ C 26 0 ≤ place) : inr place (cap C) place.toNatClampNeg := by
  obtain ⟨j, hj, rfl⟩ := nI_of hp
  rw [hcn] at h
  rw [nI_clamp hj]
  refine inr_nI ?_ hc
  rcases Nat.lt_or_ge j c with q | q
  · omega
  · exact absurd (nI_le q hj) h
theorem coA_in {C : St} {k : Nat} {place : Int32} (hk : k ≤ 40) (hkn : C 31 0 = nI k) (hp : ¬ place < 0) (h : ¬ C 31 0 ≤ place) : inr place 40 place.toNatClampNeg := by
  obtain ⟨j, hj, rfl⟩ := nI_of hp
  rw [hkn] at h
  rw [nI_clamp hj]
  refine inr_nI ?_ (by decide)
  rcases Nat.lt_or_ge j k with q | q
  · omega
  · exact absurd (nI_le q hj) h
section B3
variable {g : GT} {nt : Nat} {C M : St} {o : Int64}
theorem lp_placeUpTo {key st : Int32} (hc : cap C < 2 ^ 31) : ∀ (p : Nat) (_ : p ≤ cap C) (h : Nat × Nat), V g K_X1_placeUpTo (kR K_X1_placeUpTo 0 0) (qM g 0 0 nt (fun v9 C9 M9 o9 => v9 = some (.int (plS C key st p)) ∧ C9 = C ∧ M9 = M ∧ o9 = o) (fun _ _ _ _ => False)) 0 0 nt h C M o 7 [(0, .ref (ad g 4)), (1, .int key), (2, .int st), (3, .int (nI p - 1))] [] := by
  intro p
  induction p with
  | zero =>
    intro hp h
    refine V_iload_n (dG D_X1_placeUpTo 5 rfl) rfl ?_
    refine V_if_lt (tgt := 45) (dG D_X1_placeUpTo 6 rfl) (by decide) (fun c_8 => ?_) (fun c_8 => absurd (by decide) c_8)
    refine V_iconst (v := -1) (dG D_X1_placeUpTo 27 rfl) (by decide) ?_
    exact V_iret (dG D_X1_placeUpTo 28 rfl) rfl (Nat.le_of_ble_eq_true rfl) (Nat.le_of_ble_eq_true rfl) ⟨rfl, rfl, rfl, rfl⟩
  | succ p ih =>
    intro hp h
    rw [nI_pred]
    refine V_iload_n (dG D_X1_placeUpTo 5 rfl) rfl ?_
    refine V_if_lt (tgt := 45) (dG D_X1_placeUpTo 6 rfl) (by decide) (fun c_8 => absurd c_8 (nI_pos (by omega))) (fun c_8 => ?_)
    refine V_aload_n (dG D_X1_placeUpTo 7 rfl) rfl ?_
    refine gf_X1_9 rfl (dG D_X1_placeUpTo 8 rfl) ?_
    refine V_iload_n (dG D_X1_placeUpTo 9 rfl) rfl ?_
    refine iald_ch (dG D_X1_placeUpTo 10 rfl) (by first | assumption | exact inr_nI (by first | assumption | omega) (by first | decide | assumption | omega) | exact inr_of (by assumption)) ?_
    refine V_bipush (v := 32) (dG D_X1_placeUpTo 11 rfl) (by decide) ?_
    refine V_irem (dG D_X1_placeUpTo 12 rfl) (by decide) ?_
    refine V_iload_n (dG D_X1_placeUpTo 13 rfl) rfl ?_
    refine V_icmp_ne (tgt := 39) (dG D_X1_placeUpTo 14 rfl) (by decide) (fun c_21 => ?_) (fun c_21 => ?_)
    · skip
      refine V_iinc (dG D_X1_placeUpTo 25 rfl) rfl (decm _) (Nat.le_of_ble_eq_true rfl) ?_
      refine V_goto (tgt := 7) (dG D_X1_placeUpTo 26 rfl) (by decide) ?_
      rw [show plS C key st (p + 1) = plS C key st p from by simp [plS, rm32, c_8, c_21]]
      exact ih (by omega) h
    · skip
      refine V_aload_n (dG D_X1_placeUpTo 15 rfl) rfl ?_
      refine gf_X1_9 rfl (dG D_X1_placeUpTo 16 rfl) ?_
      refine V_iload_n (dG D_X1_placeUpTo 17 rfl) rfl ?_
      refine iald_ch (dG D_X1_placeUpTo 18 rfl) (by first | assumption | exact inr_nI (by first | assumption | omega) (by first | decide | assumption | omega) | exact inr_of (by assumption)) ?_
      refine V_bipush (v := 32) (dG D_X1_placeUpTo 19 rfl) (by decide) ?_
      refine V_idiv (dG D_X1_placeUpTo 20 rfl) (by decide) ?_
      refine V_iload_n (dG D_X1_placeUpTo 21 rfl) rfl ?_
      refine V_icmp_gt (tgt := 39) (dG D_X1_placeUpTo 22 rfl) (by decide) (fun c_34 => ?_) (fun c_34 => ?_)
      · skip
        refine V_iinc (dG D_X1_placeUpTo 25 rfl) rfl (decm _) (Nat.le_of_ble_eq_true rfl) ?_
        refine V_goto (tgt := 7) (dG D_X1_placeUpTo 26 rfl) (by decide) ?_
        rw [show plS C key st (p + 1) = plS C key st p from by simp [plS, rm32, c_8, c_21, c_34]]
        exact ih (by omega) h
      · skip
        refine V_iload_n (dG D_X1_placeUpTo 23 rfl) rfl ?_
        exact V_iret (dG D_X1_placeUpTo 24 rfl) rfl (Nat.le_of_ble_eq_true rfl) (Nat.le_of_ble_eq_true rfl) ⟨(by simp [plS, rm32, c_8, c_21, c_34]), rfl, rfl, rfl⟩
theorem ok_placeUpTo {c : Nat} {key st : Int32} (hc : cap C < 2 ^ 31) (hcn : C 26 0 = nI c) (hle : c ≤ cap C) : RET g K_X1_placeUpTo 0 0 [.ref (ad g 4), .int key, .int st] nt C M o (some (.int (plS C key st c))) C M o := by
  refine MT_of (by decide +kernel) rfl rfl (Nat.le_of_ble_eq_true rfl) (by simp [cat_rf, cat_int, cat_ref]) (fun h => ?_)
  refine V_aload_n (dG D_X1_placeUpTo 0 rfl) rfl ?_
  refine gf_X1_27 rfl (dG D_X1_placeUpTo 1 rfl) ?_
  refine V_iconst (v := 1) (dG D_X1_placeUpTo 2 rfl) (by decide) ?_
  refine V_isub (dG D_X1_placeUpTo 3 rfl) ?_
  refine V_istore_n (dG D_X1_placeUpTo 4 rfl) (Nat.le_of_ble_eq_true rfl) ?_
  rw [hcn]
  exact lp_placeUpTo hc c hle h
theorem ok_stampUpTo {c : Nat} {key st : Int32} (hc : cap C < 2 ^ 31) (hcn : C 26 0 = nI c) (hle : c ≤ cap C) : RET g K_X1_stampUpTo 0 0 [.ref (ad g 4), .int key, .int st] nt C M o (some (.int (stU C c key st))) C M o := by
  refine MT_of (by decide +kernel) rfl rfl (Nat.le_of_ble_eq_true rfl) (by simp [cat_rf, cat_int, cat_ref]) (fun h => ?_)
  refine V_aload_n (dG D_X1_stampUpTo 0 rfl) rfl ?_
  refine V_iload_n (dG D_X1_stampUpTo 1 rfl) rfl ?_
  refine V_iload_n (dG D_X1_stampUpTo 2 rfl) rfl ?_
  refine R_vb2 (ok_placeUpTo hc hcn hle) lk_X1_37 (dG D_X1_stampUpTo 3 rfl) rcv_1 ⟨Nat.le_of_ble_eq_true rfl, Nat.le_of_ble_eq_true rfl⟩ ⟨(Nat.le_of_ble_eq_true rfl), (Nat.le_of_ble_eq_true rfl)⟩ (by first | exact Nat.le_of_ble_eq_true rfl | simp [cat_rf, cat_int, cat_ref]) (fun h => ?_)
  refine V_istore_n (dG D_X1_stampUpTo 4 rfl) (Nat.le_of_ble_eq_true rfl) ?_
  refine V_iload_n (dG D_X1_stampUpTo 5 rfl) rfl ?_
  refine V_if_ge (tgt := 15) (dG D_X1_stampUpTo 6 rfl) (by decide) (fun c_8 => ?_) (fun c_8 => ?_)
  · skip
    refine V_aload_n (dG D_X1_stampUpTo 9 rfl) rfl ?_
    refine gf_X1_9 rfl (dG D_X1_stampUpTo 10 rfl) ?_
    refine V_iload_n (dG D_X1_stampUpTo 11 rfl) rfl ?_
    refine iald_ch (dG D_X1_stampUpTo 12 rfl) (pl_in (by omega) (by omega) c_8) ?_
    refine V_bipush (v := 32) (dG D_X1_stampUpTo 13 rfl) (by decide) ?_
    refine V_idiv (dG D_X1_stampUpTo 14 rfl) (by decide) ?_
    exact V_iret (dG D_X1_stampUpTo 15 rfl) rfl (Nat.le_of_ble_eq_true rfl) (Nat.le_of_ble_eq_true rfl) ⟨(by simp [stU, c_8]), rfl, rfl, rfl⟩
  · skip
    refine V_iconst (v := 0) (dG D_X1_stampUpTo 7 rfl) (by decide) ?_
    refine V_goto (tgt := 24) (dG D_X1_stampUpTo 8 rfl) (by decide) ?_
    exact V_iret (dG D_X1_stampUpTo 15 rfl) rfl (Nat.le_of_ble_eq_true rfl) (Nat.le_of_ble_eq_true rfl) ⟨(by simp [stU, c_8]), rfl, rfl, rfl⟩
theorem ok_valueUpTo {c : Nat} {key st : Int32} (hc : cap C < 2 ^ 31) (hcn : C 26 0 = nI c) (hle : c ≤ cap C) (hcv : capv C < 2 ^ 31) (hlev : c ≤ capv C) : RET g K_X1_valueUpTo 0 0 [.ref (ad g 4), .int key, .int st] nt C M o (some (.int (vaU C c key st))) C M o := by
  refine MT_of (by decide +kernel) rfl rfl (Nat.le_of_ble_eq_true rfl) (by simp [cat_rf, cat_int, cat_ref]) (fun h => ?_)
  refine V_aload_n (dG D_X1_valueUpTo 0 rfl) rfl ?_
  refine V_iload_n (dG D_X1_valueUpTo 1 rfl) rfl ?_
  refine V_iload_n (dG D_X1_valueUpTo 2 rfl) rfl ?_
  refine R_vb2 (ok_placeUpTo hc hcn hle) lk_X1_37 (dG D_X1_valueUpTo 3 rfl) rcv_1 ⟨Nat.le_of_ble_eq_true rfl, Nat.le_of_ble_eq_true rfl⟩ ⟨(Nat.le_of_ble_eq_true rfl), (Nat.le_of_ble_eq_true rfl)⟩ (by first | exact Nat.le_of_ble_eq_true rfl | simp [cat_rf, cat_int, cat_ref]) (fun h => ?_)
  refine V_istore_n (dG D_X1_valueUpTo 4 rfl) (Nat.le_of_ble_eq_true rfl) ?_
  refine V_iload_n (dG D_X1_valueUpTo 5 rfl) rfl ?_
  refine V_if_ge (tgt := 17) (dG D_X1_valueUpTo 6 rfl) (by decide) (fun c_8 => ?_) (fun c_8 => ?_)
  · skip
    refine V_aload_n (dG D_X1_valueUpTo 9 rfl) rfl ?_
    refine gf_X1_15 rfl (dG D_X1_valueUpTo 10 rfl) ?_
    refine V_iload_n (dG D_X1_valueUpTo 11 rfl) rfl ?_
    refine iald_va (dG D_X1_valueUpTo 12 rfl) (pl_in (by omega) (by omega) c_8) ?_
    exact V_iret (dG D_X1_valueUpTo 13 rfl) rfl (Nat.le_of_ble_eq_true rfl) (Nat.le_of_ble_eq_true rfl) ⟨(by simp [vaU, c_8]), rfl, rfl, rfl⟩
  · skip
    refine V_sipush (v := 1000) (dG D_X1_valueUpTo 7 rfl) (by decide) ?_
    refine V_goto (tgt := 23) (dG D_X1_valueUpTo 8 rfl) (by decide) ?_
    exact V_iret (dG D_X1_valueUpTo 13 rfl) rfl (Nat.le_of_ble_eq_true rfl) (Nat.le_of_ble_eq_true rfl) ⟨(by simp [vaU, c_8]), rfl, rfl, rfl⟩
theorem lp_countOf {c : Nat} {key : Int32} (hc : cap C < 2 ^ 31) (hcn : C 26 0 = nI c) (hle : c ≤ cap C) : ∀ (n : Nat) {i : Nat} (_ : i + n = c) (acc : Int32) (h : Nat × Nat), V g K_X1_countOf (kR K_X1_countOf 0 0) (qM g 0 0 nt (fun v9 C9 M9 o9 => v9 = some (.int (cntS C key n i acc)) ∧ C9 = C ∧ M9 = M ∧ o9 = o) (fun _ _ _ _ => False)) 0 0 nt h C M o 4 [(0, .ref (ad g 4)), (1, .int key), (2, .int acc), (3, .int (nI i))] [] := by
  intro n
  induction n with
  | zero =>
    intro i hi acc h
    refine V_iload_n (dG D_X1_countOf 4 rfl) rfl ?_
    refine V_aload_n (dG D_X1_countOf 5 rfl) rfl ?_
    refine gf_X1_27 rfl (dG D_X1_countOf 6 rfl) ?_
    refine V_icmp_ge (tgt := 34) (dG D_X1_countOf 7 rfl) (by decide) (fun c_9 => ?_) (fun c_9 => absurd (by rw [hcn]; exact nI_le (by omega) (by omega)) c_9)
    refine V_iload_n (dG D_X1_countOf 19 rfl) rfl ?_
    exact V_iret (dG D_X1_countOf 20 rfl) rfl (Nat.le_of_ble_eq_true rfl) (Nat.le_of_ble_eq_true rfl) ⟨rfl, rfl, rfl, rfl⟩
  | succ n ih =>
    intro i hi acc h
    refine V_iload_n (dG D_X1_countOf 4 rfl) rfl ?_
    refine V_aload_n (dG D_X1_countOf 5 rfl) rfl ?_
    refine gf_X1_27 rfl (dG D_X1_countOf 6 rfl) ?_
    refine V_icmp_ge (tgt := 34) (dG D_X1_countOf 7 rfl) (by decide) (fun c_9 => absurd (show C 26 0 ≤ nI i from c_9) (by rw [hcn]; exact nI_ge (by omega) (by omega))) (fun c_9 => ?_)
    refine V_aload_n (dG D_X1_countOf 8 rfl) rfl ?_
    refine gf_X1_9 rfl (dG D_X1_countOf 9 rfl) ?_
    refine V_iload_n (dG D_X1_countOf 10 rfl) rfl ?_
    refine iald_ch (dG D_X1_countOf 11 rfl) (by first | assumption | exact inr_nI (by first | assumption | omega) (by first | decide | assumption | omega) | exact inr_of (by assumption)) ?_
    refine V_bipush (v := 32) (dG D_X1_countOf 12 rfl) (by decide) ?_
    refine V_irem (dG D_X1_countOf 13 rfl) (by decide) ?_
    refine V_iload_n (dG D_X1_countOf 14 rfl) rfl ?_
    refine V_icmp_ne (tgt := 28) (dG D_X1_countOf 15 rfl) (by decide) (fun c_22 => ?_) (fun c_22 => ?_)
    · skip
      refine V_iinc (dG D_X1_countOf 17 rfl) rfl (inc1 _) (Nat.le_of_ble_eq_true rfl) ?_
      refine V_goto (tgt := 4) (dG D_X1_countOf 18 rfl) (by decide) ?_
      rw [show cntS C key (n + 1) i acc = cntS C key n (i + 1) (if rm32 (C 28 i) = key then acc + 1 else acc) from by simp [cntS, c_9, c_22]]
      simp only [rm32, c_22, if_true, if_false]
      exact ih (by omega) _ h
    · skip
      refine V_iinc (dG D_X1_countOf 16 rfl) rfl rfl (Nat.le_of_ble_eq_true rfl) ?_
      refine V_iinc (dG D_X1_countOf 17 rfl) rfl (inc1 _) (Nat.le_of_ble_eq_true rfl) ?_
      refine V_goto (tgt := 4) (dG D_X1_countOf 18 rfl) (by decide) ?_
      rw [show cntS C key (n + 1) i acc = cntS C key n (i + 1) (if rm32 (C 28 i) = key then acc + 1 else acc) from by simp [cntS, c_9, c_22]]
      simp only [rm32, c_22, if_true, if_false]
      exact ih (by omega) _ h
theorem ok_countOf {c : Nat} {key : Int32} (hc : cap C < 2 ^ 31) (hcn : C 26 0 = nI c) (hle : c ≤ cap C) : RET g K_X1_countOf 0 0 [.ref (ad g 4), .int key] nt C M o (some (.int (cntS C key c 0 0))) C M o := by
  refine MT_of (by decide +kernel) rfl rfl (Nat.le_of_ble_eq_true rfl) (by simp [cat_rf, cat_int, cat_ref]) (fun h => ?_)
  refine V_iconst (v := 0) (dG D_X1_countOf 0 rfl) (by decide) ?_
  refine V_istore_n (dG D_X1_countOf 1 rfl) (Nat.le_of_ble_eq_true rfl) ?_
  refine V_iconst (v := 0) (dG D_X1_countOf 2 rfl) (by decide) ?_
  refine V_istore_n (dG D_X1_countOf 3 rfl) (Nat.le_of_ble_eq_true rfl) ?_
  exact lp_countOf hc hcn hle c (i := 0) (by omega) 0 h
theorem ok_changeAt {c : Nat} {place st : Int32} (hc : cap C < 2 ^ 31) (hcn : C 26 0 = nI c) (hle : c ≤ cap C) (hp : ¬ place < 0) : RET g K_X1_changeAt 0 0 [.ref (ad g 4), .int place, .int st] nt C M o (some (.int (chA C place st))) C M o := by
  refine MT_of (by decide +kernel) rfl rfl (Nat.le_of_ble_eq_true rfl) (by simp [cat_rf, cat_int, cat_ref]) (fun h => ?_)
  refine V_iload_n (dG D_X1_changeAt 0 rfl) rfl ?_
  refine V_aload_n (dG D_X1_changeAt 1 rfl) rfl ?_
  refine gf_X1_27 rfl (dG D_X1_changeAt 2 rfl) ?_
  refine V_icmp_ge (tgt := 30) (dG D_X1_changeAt 3 rfl) (by decide) (fun c_5 => ?_) (fun c_5 => ?_)
  · skip
    refine V_iconst (v := -1) (dG D_X1_changeAt 17 rfl) (by decide) ?_
    exact V_iret (dG D_X1_changeAt 18 rfl) rfl (Nat.le_of_ble_eq_true rfl) (Nat.le_of_ble_eq_true rfl) ⟨(by simp [chA, c_5]), rfl, rfl, rfl⟩
  · skip
    refine V_aload_n (dG D_X1_changeAt 4 rfl) rfl ?_
    refine gf_X1_9 rfl (dG D_X1_changeAt 5 rfl) ?_
    refine V_iload_n (dG D_X1_changeAt 6 rfl) rfl ?_
    refine iald_ch (dG D_X1_changeAt 7 rfl) (chA_in hc hcn hle hp c_5) ?_
    refine V_bipush (v := 32) (dG D_X1_changeAt 8 rfl) (by decide) ?_
    refine V_idiv (dG D_X1_changeAt 9 rfl) (by decide) ?_
    refine V_iload_n (dG D_X1_changeAt 10 rfl) rfl ?_
    refine V_icmp_gt (tgt := 30) (dG D_X1_changeAt 11 rfl) (by decide) (fun c_18 => ?_) (fun c_18 => ?_)
    · skip
      refine V_iconst (v := -1) (dG D_X1_changeAt 17 rfl) (by decide) ?_
      exact V_iret (dG D_X1_changeAt 18 rfl) rfl (Nat.le_of_ble_eq_true rfl) (Nat.le_of_ble_eq_true rfl) ⟨(by simp [chA, c_5, c_18]), rfl, rfl, rfl⟩
    · skip
      refine V_aload_n (dG D_X1_changeAt 12 rfl) rfl ?_
      refine gf_X1_9 rfl (dG D_X1_changeAt 13 rfl) ?_
      refine V_iload_n (dG D_X1_changeAt 14 rfl) rfl ?_
      refine iald_ch (dG D_X1_changeAt 15 rfl) (chA_in hc hcn hle hp c_5) ?_
      refine V_goto (tgt := 31) (dG D_X1_changeAt 16 rfl) (by decide) ?_
      exact V_iret (dG D_X1_changeAt 18 rfl) rfl (Nat.le_of_ble_eq_true rfl) (Nat.le_of_ble_eq_true rfl) ⟨(by simp [chA, c_5, c_18]), rfl, rfl, rfl⟩
theorem ok_committedAt {k : Nat} {place : Int32} (hk : k ≤ 40) (hkn : C 31 0 = nI k) (hp : ¬ place < 0) : RET g K_X1_committedAt 0 0 [.ref (ad g 4), .int place] nt C M o (some (va_rf (trO g (coA C place)))) C M o := by
  refine MT_of (by decide +kernel) rfl rfl (Nat.le_of_ble_eq_true rfl) (by simp [cat_rf, cat_int, cat_ref]) (fun h => ?_)
  refine V_iload_n (dG D_X1_committedAt 0 rfl) rfl ?_
  refine V_aload_n (dG D_X1_committedAt 1 rfl) rfl ?_
  refine gf_X1_41 rfl (dG D_X1_committedAt 2 rfl) ?_
  refine V_icmp_ge (tgt := 17) (dG D_X1_committedAt 3 rfl) (by decide) (fun c_5 => ?_) (fun c_5 => ?_)
  · skip
    refine V_nullt (dG D_X1_committedAt 9 rfl) ?_
    exact V_aret (dG D_X1_committedAt 10 rfl) rfl (Nat.le_of_ble_eq_true rfl) (Nat.le_of_ble_eq_true rfl) ⟨(by simp [coA, c_5]), rfl, rfl, rfl⟩
  · skip
    refine V_aload_n (dG D_X1_committedAt 4 rfl) rfl ?_
    refine gf_X1_20 rfl (dG D_X1_committedAt 5 rfl) ?_
    refine V_iload_n (dG D_X1_committedAt 6 rfl) rfl ?_
    refine aald_ord (dG D_X1_committedAt 7 rfl) (coA_in hk hkn hp c_5) ?_
    refine V_goto (tgt := 18) (dG D_X1_committedAt 8 rfl) (by decide) ?_
    exact V_aret (dG D_X1_committedAt 10 rfl) rfl (Nat.le_of_ble_eq_true rfl) (Nat.le_of_ble_eq_true rfl) ⟨(by simp [coA, c_5]), rfl, rfl, rfl⟩
end B3
