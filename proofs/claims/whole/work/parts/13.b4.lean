/-! class: loops that count, sort and look -/
def acS (t : Int32) : Nat → St → St
  | 0, C => up C 30 0 t
  | p + 1, C => if C 17 (C 30 p).toNatClampNeg ≤ C 17 t.toNatClampNeg then up C 30 (p + 1) t else acS t p (up C 30 (p + 1) (C 30 p))
def addCoS (C : St) (k : Nat) (t : Int32) : St := if C 31 0 < 40 then up (acS t k C) 31 0 (acS t k C 31 0 + 1) else C
def rdN (C : St) (t : Nat) : Nat → Nat → Int32 → Int32
  | 0, _, acc => acc
  | n + 1, i, acc => rdN C t n (i + 1) (if bI (bt (C 20 t) i) = 0 then acc else if C (50 + 3 * t) i = C 32 i then acc else acc + 1)
def rdC (t : Nat) : Nat → Nat → St → St
  | 0, _, C => C
  | n + 1, i, C => rdC t n (i + 1) (if bI (bt (C 21 t) i) = 0 then C else up C 32 i (C (51 + 3 * t) i))
theorem rdC_row {t w : Nat} (hw : w ≠ 32) : ∀ {n i : Nat} {C : St}, rdC t n i C w = C w
  | 0, _, _ => rfl
  | n + 1, i, C => by
    unfold rdC
    rw [rdC_row hw]
    split
    · rfl
    · rw [up_row hw]
def fillS (v : Int32) : Nat → Nat → St → St
  | 0, _, C => C
  | n + 1, i, C => fillS v n (i + 1) (up C 32 i v)
theorem fillS_row {v : Int32} {w : Nat} (hw : w ≠ 32) : ∀ {n i : Nat} {C : St}, fillS v n i C w = C w
  | 0, _, _ => rfl
  | n + 1, i, C => by
    unfold fillS
    rw [fillS_row hw, up_row hw]
def cuS : Nat → Nat → Int32 → St → Int32 × St
  | 0, _, acc, C => (acc, C)
  | n + 1, i, acc, C => cuS n (i + 1) (acc + rdN C (C 30 i).toNatClampNeg 32 0 0) (rdC (C 30 i).toNatClampNeg 32 0 C)
def us (x y : Int32) : Int32 := (x.toUInt32 >>> (y.toUInt32 &&& Int32.toUInt32 31)).toInt32
def bc1 (x : Int32) : Int32 := x - (us x 1 &&& 1431655765)
def bc2 (x : Int32) : Int32 := (x &&& 858993459) + (us x 2 &&& 858993459)
def bc3 (x : Int32) : Int32 := x + us x 4 &&& 252645135
def bc4 (x : Int32) : Int32 := x + us x 8
def bc5 (x : Int32) : Int32 := x + us x 16
def bcS (x : Int32) : Int32 := bc5 (bc4 (bc3 (bc2 (bc1 x)))) &&& 63
def rgS (C : St) : Nat → Nat → Int32 → Int32
  | 0, _, acc => acc
  | n + 1, i, acc => rgS C n (i + 1) (if C 5 i = 0 then acc else acc + 1)
def fkS (C : St) (range : Int32) : Nat → Nat → Int32 → Int32
  | 0, _, _ => 32
  | n + 1, i, passed => if C 5 i = 0 then fkS C range n (i + 1) passed else if passed = range then nI i else fkS C range n (i + 1) (passed + 1)
def rsS (C : St) : Nat → Nat → Int32 → Int32
  | 0, _, acc => acc
  | n + 1, i, acc => rsS C n (i + 1) (if C 15 (C 33 i).toNatClampNeg = 1 then mn acc (C 17 (C 33 i).toNatClampNeg - 1) else acc)
def haS (C : St) (t : Int32) : Nat → Nat → Int32
  | 0, _ => 1
  | n + 1, i => if bI (bt (C 21 t.toNatClampNeg) i) = 0 then haS C t n (i + 1) else if C 6 i = t then haS C t n (i + 1) else 0
def wdS (C : St) (t : Nat) : Nat → Nat → Int32
  | 0, _ => 0
  | n + 1, i => if bI (bt (C 21 t) i) = 0 then wdS C t n (i + 1) else if C 3 (C 4 i).toNatClampNeg = 0 then wdS C t n (i + 1) else 1
theorem haS_bool {C : St} {t : Int32} : ∀ {n i : Nat}, haS C t n i = 0 ∨ haS C t n i = 1
  | 0, _ => Or.inr rfl
  | n + 1, i => by
    unfold haS
    split
    · exact haS_bool
    · split
      · exact haS_bool
      · exact Or.inl rfl
theorem wdS_bool {C : St} {t : Nat} : ∀ {n i : Nat}, wdS C t n i = 0 ∨ wdS C t n i = 1
  | 0, _ => Or.inl rfl
  | n + 1, i => by
    unfold wdS
    split
    · exact wdS_bool
    · split
      · exact wdS_bool
      · exact Or.inr rfl
section B4
variable {g : GT} {nt : Nat} {C M : St} {o : Int64} {t : Int32}
theorem lp_addCommitted (ht : tok nt t) : ∀ (p : Nat) {C : St} (_ : p < 40) (_ : ∀ q, q < p → tok nt (C 30 q)) (h : Nat × Nat), V g K_X1_addCommitted (kR K_X1_addCommitted 0 0) (qM g 0 0 nt (fun v9 C9 M9 o9 => v9 = none ∧ C9 = (up (acS t p C) 31 0 (acS t p C 31 0 + 1)) ∧ M9 = M ∧ o9 = o) (fun _ _ _ _ => False)) 0 0 nt h C M o 15 [(0, .ref (ad g 4)), (1, va_rf (trO g t)), (2, .int (nI p))] [] := by
  intro p
  induction p with
  | zero =>
    intro C hp hq h
    refine V_iload_n (dG D_X1_addCommitted 8 rfl) rfl ?_
    refine V_if_le (tgt := 57) (dG D_X1_addCommitted 9 rfl) (by decide) (fun c_16 => ?_) (fun c_16 => absurd (by decide) c_16)
    refine V_aload_n (dG D_X1_addCommitted 32 rfl) rfl ?_
    refine gf_X1_20 rfl (dG D_X1_addCommitted 33 rfl) ?_
    refine V_iload_n (dG D_X1_addCommitted 34 rfl) rfl ?_
    refine V_aload_nt (dG D_X1_addCommitted 35 rfl) rfl ?_
    refine aast_ord ht (dG D_X1_addCommitted 36 rfl) (inr_nI (n := 40) (j := 0) (by omega) (by decide)) ?_
    refine V_aload_n (dG D_X1_addCommitted 37 rfl) rfl ?_
    refine V_dup (dG D_X1_addCommitted 38 rfl) rfl ?_
    refine gf_X1_41 rfl (dG D_X1_addCommitted 39 rfl) ?_
    refine V_iconst (v := 1) (dG D_X1_addCommitted 40 rfl) (by decide) ?_
    refine V_iadd (dG D_X1_addCommitted 41 rfl) ?_
    refine pf_X1_41 rfl (dG D_X1_addCommitted 42 rfl) ?_
    exact V_vret (dG D_X1_addCommitted 43 rfl) rfl (Nat.le_of_ble_eq_true rfl) (Nat.le_of_ble_eq_true rfl) ⟨rfl, rfl, rfl, rfl⟩
  | succ p ih =>
    intro C hp hq h
    refine V_iload_n (dG D_X1_addCommitted 8 rfl) rfl ?_
    refine V_if_le (tgt := 57) (dG D_X1_addCommitted 9 rfl) (by decide) (fun c_16 => absurd c_16 (nI_nle (by omega) (by omega))) (fun c_16 => ?_)
    refine V_aload_n (dG D_X1_addCommitted 10 rfl) rfl ?_
    refine gf_X1_20 rfl (dG D_X1_addCommitted 11 rfl) ?_
    refine V_iload_n (dG D_X1_addCommitted 12 rfl) rfl ?_
    refine V_iconst (v := 1) (dG D_X1_addCommitted 13 rfl) (by decide) ?_
    refine V_isub (dG D_X1_addCommitted 14 rfl) ?_
    refine aald_ord (dG D_X1_addCommitted 15 rfl) (inr_pred (by omega) (by decide)) ?_
    refine gf_X1_44 rfl (dG D_X1_addCommitted 16 rfl) (hq p (by omega)) ?_
    refine V_aload_nt (dG D_X1_addCommitted 17 rfl) rfl ?_
    refine gf_X1_44 rfl (dG D_X1_addCommitted 18 rfl) (by assumption) ?_
    refine V_icmp_le (tgt := 57) (dG D_X1_addCommitted 19 rfl) (by decide) (fun c_34 => ?_) (fun c_34 => ?_)
    · skip
      refine V_aload_n (dG D_X1_addCommitted 32 rfl) rfl ?_
      refine gf_X1_20 rfl (dG D_X1_addCommitted 33 rfl) ?_
      refine V_iload_n (dG D_X1_addCommitted 34 rfl) rfl ?_
      refine V_aload_nt (dG D_X1_addCommitted 35 rfl) rfl ?_
      refine aast_ord ht (dG D_X1_addCommitted 36 rfl) (inr_nI (n := 40) (j := p + 1) (by omega) (by decide)) ?_
      refine V_aload_n (dG D_X1_addCommitted 37 rfl) rfl ?_
      refine V_dup (dG D_X1_addCommitted 38 rfl) rfl ?_
      refine gf_X1_41 rfl (dG D_X1_addCommitted 39 rfl) ?_
      refine V_iconst (v := 1) (dG D_X1_addCommitted 40 rfl) (by decide) ?_
      refine V_iadd (dG D_X1_addCommitted 41 rfl) ?_
      refine pf_X1_41 rfl (dG D_X1_addCommitted 42 rfl) ?_
      exact V_vret (dG D_X1_addCommitted 43 rfl) rfl (Nat.le_of_ble_eq_true rfl) (Nat.le_of_ble_eq_true rfl) ⟨rfl, by rw [show acS t (p + 1) C = up C 30 (p + 1) t from by simp [acS, c_34]], rfl, rfl⟩
    · skip
      refine V_aload_n (dG D_X1_addCommitted 20 rfl) rfl ?_
      refine gf_X1_20 rfl (dG D_X1_addCommitted 21 rfl) ?_
      refine V_iload_n (dG D_X1_addCommitted 22 rfl) rfl ?_
      refine V_aload_n (dG D_X1_addCommitted 23 rfl) rfl ?_
      refine gf_X1_20 rfl (dG D_X1_addCommitted 24 rfl) ?_
      refine V_iload_n (dG D_X1_addCommitted 25 rfl) rfl ?_
      refine V_iconst (v := 1) (dG D_X1_addCommitted 26 rfl) (by decide) ?_
      refine V_isub (dG D_X1_addCommitted 27 rfl) ?_
      refine aald_ord (dG D_X1_addCommitted 28 rfl) (inr_pred (by omega) (by decide)) ?_
      refine aast_ord (hq p (by omega)) (dG D_X1_addCommitted 29 rfl) (inr_nI (n := 40) (j := p + 1) (by omega) (by decide)) ?_
      refine V_iinc (dG D_X1_addCommitted 30 rfl) rfl (dec1 _) (Nat.le_of_ble_eq_true rfl) ?_
      refine V_goto (tgt := 15) (dG D_X1_addCommitted 31 rfl) (by decide) ?_
      rw [show acS t (p + 1) C = acS t p (up C 30 (p + 1) (C 30 p)) from by simp [acS, c_16, c_34]]
      exact ih (by omega) (fun q h9 => by rw [up_ne (Or.inr (by omega))]; exact hq q (by omega)) h
theorem ok_addCommitted (ht : tok nt t) {k : Nat} (hk : k ≤ 40) (hkn : C 31 0 = nI k) (hq : ∀ q, q < k → tok nt (C 30 q)) : RET g K_X1_addCommitted 0 0 [.ref (ad g 4), va_rf (trO g t)] nt C M o none (addCoS C k t) M o := by
  refine MT_of (by decide +kernel) rfl rfl (Nat.le_of_ble_eq_true rfl) (by simp [cat_rf, cat_int, cat_ref]) (fun h => ?_)
  refine V_aload_n (dG D_X1_addCommitted 0 rfl) rfl ?_
  refine gf_X1_41 rfl (dG D_X1_addCommitted 1 rfl) ?_
  refine V_bipush (v := 40) (dG D_X1_addCommitted 2 rfl) (by decide) ?_
  refine V_icmp_lt (tgt := 10) (dG D_X1_addCommitted 3 rfl) (by decide) (fun c_6 => ?_) (fun c_6 => ?_)
  · skip
    refine V_aload_n (dG D_X1_addCommitted 5 rfl) rfl ?_
    refine gf_X1_41 rfl (dG D_X1_addCommitted 6 rfl) ?_
    refine V_istore_n (dG D_X1_addCommitted 7 rfl) (Nat.le_of_ble_eq_true rfl) ?_
    have h9 : k < 40 := by rcases Nat.lt_or_ge k 40 with q | q; exact q; exact absurd c_6 (by rw [hkn, show k = 40 by omega]; decide)
    rw [show addCoS C k t = up (acS t k C) 31 0 (acS t k C 31 0 + 1) from by simp [addCoS, c_6], hkn]
    exact lp_addCommitted ht k h9 hq h
  · skip
    exact V_vret (dG D_X1_addCommitted 4 rfl) rfl (Nat.le_of_ble_eq_true rfl) (Nat.le_of_ble_eq_true rfl) ⟨rfl, (by simp [addCoS, c_6]), rfl, rfl⟩
theorem lp_redo2 (ht : tok nt t) {acc : Int32} : ∀ (n : Nat) {i : Nat} {C : St} (_ : i + n = 32) (h : Nat × Nat), V g K_X1_redo (kR K_X1_redo 0 0) (qM g 0 0 nt (fun v9 C9 M9 o9 => v9 = some (.int acc) ∧ C9 = rdC t.toNatClampNeg n i C ∧ M9 = M ∧ o9 = o) (fun _ _ _ _ => False)) 0 0 nt h C M o 44 [(0, .ref (ad g 4)), (1, va_rf (trO g t)), (2, .int acc), (3, .int (nI i))] [] := by
  intro n
  induction n with
  | zero =>
    intro i C hi h
    refine V_iload_n (dG D_X1_redo 25 rfl) rfl ?_
    refine V_bipush (v := 32) (dG D_X1_redo 26 rfl) (by decide) ?_
    refine V_icmp_ge (tgt := 76) (dG D_X1_redo 27 rfl) (by decide) (fun c_47 => ?_) (fun c_47 => absurd (l32 (by omega)) c_47)
    refine V_iload_n (dG D_X1_redo 42 rfl) rfl ?_
    exact V_iret (dG D_X1_redo 43 rfl) rfl (Nat.le_of_ble_eq_true rfl) (Nat.le_of_ble_eq_true rfl) ⟨rfl, rfl, rfl, rfl⟩
  | succ n ih =>
    intro i C hi h
    refine V_iload_n (dG D_X1_redo 25 rfl) rfl ?_
    refine V_bipush (v := 32) (dG D_X1_redo 26 rfl) (by decide) ?_
    refine V_icmp_ge (tgt := 76) (dG D_X1_redo 27 rfl) (by decide) (fun c_47 => absurd c_47 (g32 (by omega))) (fun c_47 => ?_)
    refine V_aload_nt (dG D_X1_redo 28 rfl) rfl ?_
    refine V_iload_n (dG D_X1_redo 29 rfl) rfl ?_
    refine R_vt1 (by assumption) (ok_writes ht (show i < 32 by omega)) lk_X1_62 (dG D_X1_redo 30 rfl) ⟨Nat.le_of_ble_eq_true rfl, Nat.le_of_ble_eq_true rfl⟩ ⟨(Nat.le_of_ble_eq_true rfl), (Nat.le_of_ble_eq_true rfl)⟩ (by first | exact Nat.le_of_ble_eq_true rfl | simp [cat_rf, cat_int, cat_ref]) (fun h => ?_)
    refine V_if_eq (tgt := 70) (dG D_X1_redo 31 rfl) (by decide) (fun c_55 => ?_) (fun c_55 => ?_)
    · skip
      refine V_iinc (dG D_X1_redo 40 rfl) rfl (inc1 _) (Nat.le_of_ble_eq_true rfl) ?_
      refine V_goto (tgt := 44) (dG D_X1_redo 41 rfl) (by decide) ?_
      rw [show rdC t.toNatClampNeg (n + 1) i C = rdC t.toNatClampNeg n (i + 1) (if bI (bt (C 21 t.toNatClampNeg) i) = 0 then C else up C 32 i (C (51 + 3 * t.toNatClampNeg) i)) from by simp [rdC, c_47, c_55]]
      simp only [c_55, if_true, if_false]
      exact ih (by omega) h
    · skip
      refine V_aload_n (dG D_X1_redo 32 rfl) rfl ?_
      refine gf_X1_24 rfl (dG D_X1_redo 33 rfl) ?_
      refine V_iload_n (dG D_X1_redo 34 rfl) rfl ?_
      refine V_aload_nt (dG D_X1_redo 35 rfl) rfl ?_
      refine gf_X1_65 rfl (dG D_X1_redo 36 rfl) (by assumption) ?_
      refine V_iload_n (dG D_X1_redo 37 rfl) rfl ?_
      refine iald_t1 (by assumption) (dG D_X1_redo 38 rfl) (inr_nI (by omega) (by decide)) ?_
      refine iast_re (dG D_X1_redo 39 rfl) (inr_nI (by omega) (by decide)) ?_
      refine V_iinc (dG D_X1_redo 40 rfl) rfl (inc1 _) (Nat.le_of_ble_eq_true rfl) ?_
      refine V_goto (tgt := 44) (dG D_X1_redo 41 rfl) (by decide) ?_
      rw [show rdC t.toNatClampNeg (n + 1) i C = rdC t.toNatClampNeg n (i + 1) (if bI (bt (C 21 t.toNatClampNeg) i) = 0 then C else up C 32 i (C (51 + 3 * t.toNatClampNeg) i)) from by simp [rdC, c_47, c_55]]
      simp only [c_55, if_true, if_false]
      exact ih (by omega) h
theorem lp_redo1 (ht : tok nt t) : ∀ (n : Nat) {i : Nat} (_ : i + n = 32) (acc : Int32) (h : Nat × Nat), V g K_X1_redo (kR K_X1_redo 0 0) (qM g 0 0 nt (fun v9 C9 M9 o9 => v9 = some (.int (rdN C t.toNatClampNeg n i acc)) ∧ C9 = rdC t.toNatClampNeg 32 0 C ∧ M9 = M ∧ o9 = o) (fun _ _ _ _ => False)) 0 0 nt h C M o 4 [(0, .ref (ad g 4)), (1, va_rf (trO g t)), (2, .int acc), (3, .int (nI i))] [] := by
  intro n
  induction n with
  | zero =>
    intro i hi acc h
    refine V_iload_n (dG D_X1_redo 4 rfl) rfl ?_
    refine V_bipush (v := 32) (dG D_X1_redo 5 rfl) (by decide) ?_
    refine V_icmp_ge (tgt := 42) (dG D_X1_redo 6 rfl) (by decide) (fun c_7 => ?_) (fun c_7 => absurd (l32 (by omega)) c_7)
    refine V_iconst (v := 0) (dG D_X1_redo 23 rfl) (by decide) ?_
    refine V_istore_n (dG D_X1_redo 24 rfl) (Nat.le_of_ble_eq_true rfl) ?_
    exact lp_redo2 ht 32 (i := 0) (by omega) h
  | succ n ih =>
    intro i hi acc h
    refine V_iload_n (dG D_X1_redo 4 rfl) rfl ?_
    refine V_bipush (v := 32) (dG D_X1_redo 5 rfl) (by decide) ?_
    refine V_icmp_ge (tgt := 42) (dG D_X1_redo 6 rfl) (by decide) (fun c_7 => absurd c_7 (g32 (by omega))) (fun c_7 => ?_)
    refine V_aload_nt (dG D_X1_redo 7 rfl) rfl ?_
    refine V_iload_n (dG D_X1_redo 8 rfl) rfl ?_
    refine R_vt1 (by assumption) (ok_hasRead ht (show i < 32 by omega)) lk_X1_55 (dG D_X1_redo 9 rfl) ⟨Nat.le_of_ble_eq_true rfl, Nat.le_of_ble_eq_true rfl⟩ ⟨(Nat.le_of_ble_eq_true rfl), (Nat.le_of_ble_eq_true rfl)⟩ (by first | exact Nat.le_of_ble_eq_true rfl | simp [cat_rf, cat_int, cat_ref]) (fun h => ?_)
    refine V_if_eq (tgt := 36) (dG D_X1_redo 10 rfl) (by decide) (fun c_15 => ?_) (fun c_15 => ?_)
    · skip
      refine V_iinc (dG D_X1_redo 21 rfl) rfl (inc1 _) (Nat.le_of_ble_eq_true rfl) ?_
      refine V_goto (tgt := 4) (dG D_X1_redo 22 rfl) (by decide) ?_
      rw [show rdN C t.toNatClampNeg (n + 1) i acc = rdN C t.toNatClampNeg n (i + 1) (acc) from by simp [rdN, c_7, c_15]]
      exact ih (by omega) _ h
    · skip
      refine V_aload_nt (dG D_X1_redo 11 rfl) rfl ?_
      refine gf_X1_59 rfl (dG D_X1_redo 12 rfl) (by assumption) ?_
      refine V_iload_n (dG D_X1_redo 13 rfl) rfl ?_
      refine iald_t0 (by assumption) (dG D_X1_redo 14 rfl) (inr_nI (by omega) (by decide)) ?_
      refine V_aload_n (dG D_X1_redo 15 rfl) rfl ?_
      refine gf_X1_24 rfl (dG D_X1_redo 16 rfl) ?_
      refine V_iload_n (dG D_X1_redo 17 rfl) rfl ?_
      refine iald_re (dG D_X1_redo 18 rfl) (inr_nI (by omega) (by decide)) ?_
      refine V_icmp_eq (tgt := 36) (dG D_X1_redo 19 rfl) (by decide) (fun c_30 => ?_) (fun c_30 => ?_)
      · skip
        refine V_iinc (dG D_X1_redo 21 rfl) rfl (inc1 _) (Nat.le_of_ble_eq_true rfl) ?_
        refine V_goto (tgt := 4) (dG D_X1_redo 22 rfl) (by decide) ?_
        rw [show rdN C t.toNatClampNeg (n + 1) i acc = rdN C t.toNatClampNeg n (i + 1) (acc) from by simp [rdN, c_7, c_15, c_30]]
        exact ih (by omega) _ h
      · skip
        refine V_iinc (dG D_X1_redo 20 rfl) rfl rfl (Nat.le_of_ble_eq_true rfl) ?_
        refine V_iinc (dG D_X1_redo 21 rfl) rfl (inc1 _) (Nat.le_of_ble_eq_true rfl) ?_
        refine V_goto (tgt := 4) (dG D_X1_redo 22 rfl) (by decide) ?_
        rw [show rdN C t.toNatClampNeg (n + 1) i acc = rdN C t.toNatClampNeg n (i + 1) (acc + 1) from by simp [rdN, c_7, c_15, c_30]]
        exact ih (by omega) _ h
theorem ok_redo (ht : tok nt t) : RET g K_X1_redo 0 0 [.ref (ad g 4), va_rf (trO g t)] nt C M o (some (.int (rdN C t.toNatClampNeg 32 0 0))) (rdC t.toNatClampNeg 32 0 C) M o := by
  refine MT_of (by decide +kernel) rfl rfl (Nat.le_of_ble_eq_true rfl) (by simp [cat_rf, cat_int, cat_ref]) (fun h => ?_)
  refine V_iconst (v := 0) (dG D_X1_redo 0 rfl) (by decide) ?_
  refine V_istore_n (dG D_X1_redo 1 rfl) (Nat.le_of_ble_eq_true rfl) ?_
  refine V_iconst (v := 0) (dG D_X1_redo 2 rfl) (by decide) ?_
  refine V_istore_n (dG D_X1_redo 3 rfl) (Nat.le_of_ble_eq_true rfl) ?_
  exact lp_redo1 ht 32 (i := 0) (by omega) 0 h
theorem lp_fill {v : Int32} : ∀ (n : Nat) {i : Nat} {C : St} (_ : i + n = 32) (h : Nat × Nat), V g K_J7_fill_53178 (kR K_J7_fill_53178 0 0) (qM g 0 0 nt (fun v9 C9 M9 o9 => v9 = none ∧ C9 = fillS v n i C ∧ M9 = M ∧ o9 = o) (fun _ _ _ _ => False)) 0 0 nt h C M o 5 [(0, .ref (ad g 8)), (1, .int v), (2, .int (nI i)), (3, .int 32)] [] := by
  intro n
  induction n with
  | zero =>
    intro i C hi h
    refine V_iload_n (dG D_J7_fill_53178 5 rfl) rfl ?_
    refine V_iload_n (dG D_J7_fill_53178 6 rfl) rfl ?_
    refine V_icmp_ge (tgt := 20) (dG D_J7_fill_53178 7 rfl) (by decide) (fun c_7 => ?_) (fun c_7 => absurd (l32 (by omega)) c_7)
    exact V_vret (dG D_J7_fill_53178 14 rfl) rfl (Nat.le_of_ble_eq_true rfl) (Nat.le_of_ble_eq_true rfl) ⟨rfl, rfl, rfl, rfl⟩
  | succ n ih =>
    intro i C hi h
    refine V_iload_n (dG D_J7_fill_53178 5 rfl) rfl ?_
    refine V_iload_n (dG D_J7_fill_53178 6 rfl) rfl ?_
    refine V_icmp_ge (tgt := 20) (dG D_J7_fill_53178 7 rfl) (by decide) (fun c_7 => absurd c_7 (g32 (by omega))) (fun c_7 => ?_)
    refine V_aload_n (dG D_J7_fill_53178 8 rfl) rfl ?_
    refine V_iload_n (dG D_J7_fill_53178 9 rfl) rfl ?_
    refine V_iload_n (dG D_J7_fill_53178 10 rfl) rfl ?_
    refine iast_re (dG D_J7_fill_53178 11 rfl) (inr_nI (by omega) (by decide)) ?_
    refine V_iinc (dG D_J7_fill_53178 12 rfl) rfl (inc1 _) (Nat.le_of_ble_eq_true rfl) ?_
    refine V_goto (tgt := 5) (dG D_J7_fill_53178 13 rfl) (by decide) ?_
    rw [show fillS v (n + 1) i C = fillS v n (i + 1) (up C 32 i v) from rfl]
    exact ih (by omega) h
theorem ok_fill {v : Int32} : RET g K_J7_fill_53178 0 0 [.ref (ad g 8), .int v] nt C M o none (fillS v 32 0 C) M o := by
  refine MT_of (by decide +kernel) rfl rfl (Nat.le_of_ble_eq_true rfl) (by simp [cat_rf, cat_int, cat_ref]) (fun h => ?_)
  refine V_iconst (v := 0) (dG D_J7_fill_53178 0 rfl) (by decide) ?_
  refine V_istore_n (dG D_J7_fill_53178 1 rfl) (Nat.le_of_ble_eq_true rfl) ?_
  refine V_aload_n (dG D_J7_fill_53178 2 rfl) rfl ?_
  rw [← hp_ad (g := g) (h := h) (n := 8) (by decide) (by decide)]
  refine V_alen (n := 8) (nn := 32) (f := C 32) (v := 32) (dG D_J7_fill_53178 3 rfl) (by omega) (ent_fix (by decide)) rfl ?_
  refine V_istore_n (dG D_J7_fill_53178 4 rfl) (Nat.le_of_ble_eq_true rfl) ?_
  exact lp_fill 32 (i := 0) (by omega) h
theorem ok_bitCount {x : Int32} : RET g K_J6_bitCount_0f7a4 0 0 [.int x] nt C M o (some (.int (bcS x))) C M o := by
  refine MT_of (by decide +kernel) rfl rfl (Nat.le_of_ble_eq_true rfl) (by simp [cat_rf, cat_int, cat_ref]) (fun h => ?_)
  refine V_iload_n (dG D_J6_bitCount_0f7a4 0 rfl) rfl ?_
  refine V_iload_n (dG D_J6_bitCount_0f7a4 1 rfl) rfl ?_
  refine V_iconst (v := 1) (dG D_J6_bitCount_0f7a4 2 rfl) (by decide) ?_
  refine V_iushr (dG D_J6_bitCount_0f7a4 3 rfl) ?_
  refine V_ldcw (v := 1431655765) (dG D_J6_bitCount_0f7a4 4 rfl) w_639 ?_
  refine V_iand (dG D_J6_bitCount_0f7a4 5 rfl) ?_
  refine V_isub (dG D_J6_bitCount_0f7a4 6 rfl) ?_
  refine V_istore_n (dG D_J6_bitCount_0f7a4 7 rfl) (Nat.le_of_ble_eq_true rfl) ?_
  refine V_iload_n (dG D_J6_bitCount_0f7a4 8 rfl) rfl ?_
  refine V_ldcw (v := 858993459) (dG D_J6_bitCount_0f7a4 9 rfl) w_640 ?_
  refine V_iand (dG D_J6_bitCount_0f7a4 10 rfl) ?_
  refine V_iload_n (dG D_J6_bitCount_0f7a4 11 rfl) rfl ?_
  refine V_iconst (v := 2) (dG D_J6_bitCount_0f7a4 12 rfl) (by decide) ?_
  refine V_iushr (dG D_J6_bitCount_0f7a4 13 rfl) ?_
  refine V_ldcw (v := 858993459) (dG D_J6_bitCount_0f7a4 14 rfl) w_640 ?_
  refine V_iand (dG D_J6_bitCount_0f7a4 15 rfl) ?_
  refine V_iadd (dG D_J6_bitCount_0f7a4 16 rfl) ?_
  refine V_istore_n (dG D_J6_bitCount_0f7a4 17 rfl) (Nat.le_of_ble_eq_true rfl) ?_
  refine V_iload_n (dG D_J6_bitCount_0f7a4 18 rfl) rfl ?_
  refine V_iload_n (dG D_J6_bitCount_0f7a4 19 rfl) rfl ?_
  refine V_iconst (v := 4) (dG D_J6_bitCount_0f7a4 20 rfl) (by decide) ?_
  refine V_iushr (dG D_J6_bitCount_0f7a4 21 rfl) ?_
  refine V_iadd (dG D_J6_bitCount_0f7a4 22 rfl) ?_
  refine V_ldcw (v := 252645135) (dG D_J6_bitCount_0f7a4 23 rfl) w_641 ?_
  refine V_iand (dG D_J6_bitCount_0f7a4 24 rfl) ?_
  refine V_istore_n (dG D_J6_bitCount_0f7a4 25 rfl) (Nat.le_of_ble_eq_true rfl) ?_
  refine V_iload_n (dG D_J6_bitCount_0f7a4 26 rfl) rfl ?_
  refine V_iload_n (dG D_J6_bitCount_0f7a4 27 rfl) rfl ?_
  refine V_bipush (v := 8) (dG D_J6_bitCount_0f7a4 28 rfl) (by decide) ?_
  refine V_iushr (dG D_J6_bitCount_0f7a4 29 rfl) ?_
  refine V_iadd (dG D_J6_bitCount_0f7a4 30 rfl) ?_
  refine V_istore_n (dG D_J6_bitCount_0f7a4 31 rfl) (Nat.le_of_ble_eq_true rfl) ?_
  refine V_iload_n (dG D_J6_bitCount_0f7a4 32 rfl) rfl ?_
  refine V_iload_n (dG D_J6_bitCount_0f7a4 33 rfl) rfl ?_
  refine V_bipush (v := 16) (dG D_J6_bitCount_0f7a4 34 rfl) (by decide) ?_
  refine V_iushr (dG D_J6_bitCount_0f7a4 35 rfl) ?_
  refine V_iadd (dG D_J6_bitCount_0f7a4 36 rfl) ?_
  refine V_istore_n (dG D_J6_bitCount_0f7a4 37 rfl) (Nat.le_of_ble_eq_true rfl) ?_
  refine V_iload_n (dG D_J6_bitCount_0f7a4 38 rfl) rfl ?_
  refine V_bipush (v := 63) (dG D_J6_bitCount_0f7a4 39 rfl) (by decide) ?_
  refine V_iand (dG D_J6_bitCount_0f7a4 40 rfl) ?_
  exact V_iret (dG D_J6_bitCount_0f7a4 41 rfl) rfl (Nat.le_of_ble_eq_true rfl) (Nat.le_of_ble_eq_true rfl) ⟨rfl, rfl, rfl, rfl⟩
theorem lp_cu {k : Nat} (hk : k ≤ 40) : ∀ (n : Nat) {i : Nat} {C : St} (_ : i + n = k) (_ : C 31 0 = nI k) (_ : ∀ q, q < k → tok nt (C 30 q)) (acc : Int32) (h : Nat × Nat), V g K_X1_countUnexplained (kR K_X1_countUnexplained 0 0) (qM g 0 0 nt (fun v9 C9 M9 o9 => v9 = some (.int (cuS n i acc C).1) ∧ C9 = (cuS n i acc C).2 ∧ M9 = M ∧ o9 = o) (fun _ _ _ _ => False)) 0 0 nt h C M o 14 [(0, .ref (ad g 4)), (1, .int acc), (2, .int (nI i))] [] := by
  intro n
  induction n with
  | zero =>
    intro i C hi hkn hq acc h
    refine V_iload_n (dG D_X1_countUnexplained 8 rfl) rfl ?_
    refine V_aload_n (dG D_X1_countUnexplained 9 rfl) rfl ?_
    refine gf_X1_41 rfl (dG D_X1_countUnexplained 10 rfl) ?_
    refine V_icmp_ge (tgt := 41) (dG D_X1_countUnexplained 11 rfl) (by decide) (fun c_19 => ?_) (fun c_19 => absurd (by rw [hkn]; exact nI_le (by omega) (by omega)) c_19)
    refine V_iload_n (dG D_X1_countUnexplained 23 rfl) rfl ?_
    exact V_iret (dG D_X1_countUnexplained 24 rfl) rfl (Nat.le_of_ble_eq_true rfl) (Nat.le_of_ble_eq_true rfl) ⟨rfl, rfl, rfl, rfl⟩
  | succ n ih =>
    intro i C hi hkn hq acc h
    refine V_iload_n (dG D_X1_countUnexplained 8 rfl) rfl ?_
    refine V_aload_n (dG D_X1_countUnexplained 9 rfl) rfl ?_
    refine gf_X1_41 rfl (dG D_X1_countUnexplained 10 rfl) ?_
    refine V_icmp_ge (tgt := 41) (dG D_X1_countUnexplained 11 rfl) (by decide) (fun c_19 => absurd (show C 31 0 ≤ nI i from c_19) (by rw [hkn]; exact nI_ge (by omega) (by omega))) (fun c_19 => ?_)
    refine V_iload_n (dG D_X1_countUnexplained 12 rfl) rfl ?_
    refine V_aload_n (dG D_X1_countUnexplained 13 rfl) rfl ?_
    refine V_aload_n (dG D_X1_countUnexplained 14 rfl) rfl ?_
    refine gf_X1_20 rfl (dG D_X1_countUnexplained 15 rfl) ?_
    refine V_iload_n (dG D_X1_countUnexplained 16 rfl) rfl ?_
    refine aald_ord (dG D_X1_countUnexplained 17 rfl) (inr_nI (by omega) (by decide)) ?_
    refine R_vb1 (ok_redo (hq i (by omega))) lk_X1_51 (dG D_X1_countUnexplained 18 rfl) rcv_1 ⟨Nat.le_of_ble_eq_true rfl, Nat.le_of_ble_eq_true rfl⟩ ⟨(Nat.le_of_ble_eq_true rfl), (Nat.le_of_ble_eq_true rfl)⟩ (by first | exact Nat.le_of_ble_eq_true rfl | simp [cat_rf, cat_int, cat_ref]) (fun h => ?_)
    refine V_iadd (dG D_X1_countUnexplained 19 rfl) ?_
    refine V_istore_n (dG D_X1_countUnexplained 20 rfl) (Nat.le_of_ble_eq_true rfl) ?_
    refine V_iinc (dG D_X1_countUnexplained 21 rfl) rfl (inc1 _) (Nat.le_of_ble_eq_true rfl) ?_
    refine V_goto (tgt := 14) (dG D_X1_countUnexplained 22 rfl) (by decide) ?_
    rw [show cuS (n + 1) i acc C = cuS n (i + 1) (acc + rdN C (C 30 i).toNatClampNeg 32 0 0) (rdC (C 30 i).toNatClampNeg 32 0 C) from rfl]
    exact ih (by omega) (by rw [rdC_row (by decide)]; exact hkn) (fun q h9 => by rw [rdC_row (by decide)]; exact hq q h9) _ h
theorem ok_countUnexplained {k : Nat} (hk : k ≤ 40) (hkn : C 31 0 = nI k) (hq : ∀ q, q < k → tok nt (C 30 q)) : RET g K_X1_countUnexplained 0 0 [.ref (ad g 4)] nt C M o (some (.int (cuS k 0 0 (fillS 1000 32 0 C)).1)) (cuS k 0 0 (fillS 1000 32 0 C)).2 M o := by
  refine MT_of (by decide +kernel) rfl rfl (Nat.le_of_ble_eq_true rfl) (by simp [cat_rf, cat_int, cat_ref]) (fun h => ?_)
  refine V_aload_n (dG D_X1_countUnexplained 0 rfl) rfl ?_
  refine gf_X1_24 rfl (dG D_X1_countUnexplained 1 rfl) ?_
  refine V_sipush (v := 1000) (dG D_X1_countUnexplained 2 rfl) (by decide) ?_
  refine R_ns2 ok_fill lk_X1_47 (dG D_X1_countUnexplained 3 rfl) ⟨Nat.le_of_ble_eq_true rfl, Nat.le_of_ble_eq_true rfl⟩ ⟨(Nat.le_of_ble_eq_true rfl), (Nat.le_of_ble_eq_true rfl)⟩ (by first | exact Nat.le_of_ble_eq_true rfl | simp [cat_rf, cat_int, cat_ref]) (fun h => ?_)
  refine V_iconst (v := 0) (dG D_X1_countUnexplained 4 rfl) (by decide) ?_
  refine V_istore_n (dG D_X1_countUnexplained 5 rfl) (Nat.le_of_ble_eq_true rfl) ?_
  refine V_iconst (v := 0) (dG D_X1_countUnexplained 6 rfl) (by decide) ?_
  refine V_istore_n (dG D_X1_countUnexplained 7 rfl) (Nat.le_of_ble_eq_true rfl) ?_
  exact lp_cu hk k (i := 0) (by omega) (by rw [fillS_row (by decide)]; exact hkn) (fun q h9 => by rw [fillS_row (by decide)]; exact hq q h9) 0 h
theorem lp_rangeOf {k : Nat} (hk : k < 32) : ∀ (n : Nat) {i : Nat} (_ : i + n = k + 1) (acc : Int32) (h : Nat × Nat), V g K_X4_rangeOf (kR K_X4_rangeOf 0 0) (qM g 0 0 nt (fun v9 C9 M9 o9 => v9 = some (.int (rgS C n i acc)) ∧ C9 = C ∧ M9 = M ∧ o9 = o) (fun _ _ _ _ => False)) 0 0 nt h C M o 4 [(0, .ref (ad g 0)), (1, .int (nI k)), (2, .int acc), (3, .int (nI i))] [] := by
  intro n
  induction n with
  | zero =>
    intro i hi acc h
    refine V_iload_n (dG D_X4_rangeOf 4 rfl) rfl ?_
    refine V_iload_n (dG D_X4_rangeOf 5 rfl) rfl ?_
    refine V_icmp_gt (tgt := 30) (dG D_X4_rangeOf 6 rfl) (by decide) (fun c_6 => ?_) (fun c_6 => absurd (nI_lt (by omega) (by omega)) c_6)
    refine V_iload_n (dG D_X4_rangeOf 16 rfl) rfl ?_
    exact V_iret (dG D_X4_rangeOf 17 rfl) rfl (Nat.le_of_ble_eq_true rfl) (Nat.le_of_ble_eq_true rfl) ⟨rfl, rfl, rfl, rfl⟩
  | succ n ih =>
    intro i hi acc h
    refine V_iload_n (dG D_X4_rangeOf 4 rfl) rfl ?_
    refine V_iload_n (dG D_X4_rangeOf 5 rfl) rfl ?_
    refine V_icmp_gt (tgt := 30) (dG D_X4_rangeOf 6 rfl) (by decide) (fun c_6 => absurd c_6 (nI_nlt (by omega) (by omega))) (fun c_6 => ?_)
    refine V_aload_n (dG D_X4_rangeOf 7 rfl) rfl ?_
    refine gf_X4_17 rfl (dG D_X4_rangeOf 8 rfl) ?_
    refine V_iload_n (dG D_X4_rangeOf 9 rfl) rfl ?_
    refine aald_cells (dG D_X4_rangeOf 10 rfl) (inr_nI (by omega) (by decide)) ?_
    refine gf_X4_36 rfl (dG D_X4_rangeOf 11 rfl) (by first | assumption | omega) ?_
    refine V_if_eq (tgt := 24) (dG D_X4_rangeOf 12 rfl) (by decide) (fun c_18 => ?_) (fun c_18 => ?_)
    · skip
      refine V_iinc (dG D_X4_rangeOf 14 rfl) rfl (inc1 _) (Nat.le_of_ble_eq_true rfl) ?_
      refine V_goto (tgt := 4) (dG D_X4_rangeOf 15 rfl) (by decide) ?_
      rw [show rgS C (n + 1) i acc = rgS C n (i + 1) (if C 5 i = 0 then acc else acc + 1) from by simp [rgS, c_6, c_18]]
      simp only [c_18, if_true, if_false]
      exact ih (by omega) _ h
    · skip
      refine V_iinc (dG D_X4_rangeOf 13 rfl) rfl rfl (Nat.le_of_ble_eq_true rfl) ?_
      refine V_iinc (dG D_X4_rangeOf 14 rfl) rfl (inc1 _) (Nat.le_of_ble_eq_true rfl) ?_
      refine V_goto (tgt := 4) (dG D_X4_rangeOf 15 rfl) (by decide) ?_
      rw [show rgS C (n + 1) i acc = rgS C n (i + 1) (if C 5 i = 0 then acc else acc + 1) from by simp [rgS, c_6, c_18]]
      simp only [c_18, if_true, if_false]
      exact ih (by omega) _ h
theorem ok_rangeOf {k : Nat} (hk : k < 32) : RET g K_X4_rangeOf 0 0 [.ref (ad g 0), .int (nI k)] nt C M o (some (.int (rgS C k 1 0))) C M o := by
  refine MT_of (by decide +kernel) rfl rfl (Nat.le_of_ble_eq_true rfl) (by simp [cat_rf, cat_int, cat_ref]) (fun h => ?_)
  refine V_iconst (v := 0) (dG D_X4_rangeOf 0 rfl) (by decide) ?_
  refine V_istore_n (dG D_X4_rangeOf 1 rfl) (Nat.le_of_ble_eq_true rfl) ?_
  refine V_iconst (v := 1) (dG D_X4_rangeOf 2 rfl) (by decide) ?_
  refine V_istore_n (dG D_X4_rangeOf 3 rfl) (Nat.le_of_ble_eq_true rfl) ?_
  exact lp_rangeOf hk k (i := 1) (by omega) 0 h
theorem lp_firstKeyOf {range : Int32} : ∀ (n : Nat) {i : Nat} (_ : i + n = 32) (acc : Int32) (h : Nat × Nat), V g K_X4_firstKeyOf (kR K_X4_firstKeyOf 0 0) (qM g 0 0 nt (fun v9 C9 M9 o9 => v9 = some (.int (fkS C range n i acc)) ∧ C9 = C ∧ M9 = M ∧ o9 = o) (fun _ _ _ _ => False)) 0 0 nt h C M o 4 [(0, .ref (ad g 0)), (1, .int range), (2, .int acc), (3, .int (nI i))] [] := by
  intro n
  induction n with
  | zero =>
    intro i hi acc h
    refine V_iload_n (dG D_X4_firstKeyOf 4 rfl) rfl ?_
    refine V_bipush (v := 32) (dG D_X4_firstKeyOf 5 rfl) (by decide) ?_
    refine V_icmp_ge (tgt := 38) (dG D_X4_firstKeyOf 6 rfl) (by decide) (fun c_7 => ?_) (fun c_7 => absurd (l32 (by omega)) c_7)
    refine V_bipush (v := 32) (dG D_X4_firstKeyOf 21 rfl) (by decide) ?_
    exact V_iret (dG D_X4_firstKeyOf 22 rfl) rfl (Nat.le_of_ble_eq_true rfl) (Nat.le_of_ble_eq_true rfl) ⟨rfl, rfl, rfl, rfl⟩
  | succ n ih =>
    intro i hi acc h
    refine V_iload_n (dG D_X4_firstKeyOf 4 rfl) rfl ?_
    refine V_bipush (v := 32) (dG D_X4_firstKeyOf 5 rfl) (by decide) ?_
    refine V_icmp_ge (tgt := 38) (dG D_X4_firstKeyOf 6 rfl) (by decide) (fun c_7 => absurd c_7 (g32 (by omega))) (fun c_7 => ?_)
    refine V_aload_n (dG D_X4_firstKeyOf 7 rfl) rfl ?_
    refine gf_X4_17 rfl (dG D_X4_firstKeyOf 8 rfl) ?_
    refine V_iload_n (dG D_X4_firstKeyOf 9 rfl) rfl ?_
    refine aald_cells (dG D_X4_firstKeyOf 10 rfl) (by first | assumption | exact inr_nI (by first | assumption | omega) (by first | decide | assumption | omega) | exact inr_of (by assumption)) ?_
    refine gf_X4_36 rfl (dG D_X4_firstKeyOf 11 rfl) (by first | assumption | omega) ?_
    refine V_if_eq (tgt := 32) (dG D_X4_firstKeyOf 12 rfl) (by decide) (fun c_19 => ?_) (fun c_19 => ?_)
    · skip
      refine V_iinc (dG D_X4_firstKeyOf 19 rfl) rfl (inc1 _) (Nat.le_of_ble_eq_true rfl) ?_
      refine V_goto (tgt := 4) (dG D_X4_firstKeyOf 20 rfl) (by decide) ?_
      rw [show fkS C range (n + 1) i acc = fkS C range n (i + 1) acc from by simp [fkS, c_7, c_19]]
      exact ih (by omega) _ h
    · skip
      refine V_iload_n (dG D_X4_firstKeyOf 13 rfl) rfl ?_
      refine V_iload_n (dG D_X4_firstKeyOf 14 rfl) rfl ?_
      refine V_icmp_ne (tgt := 29) (dG D_X4_firstKeyOf 15 rfl) (by decide) (fun c_24 => ?_) (fun c_24 => ?_)
      · skip
        refine V_iinc (dG D_X4_firstKeyOf 18 rfl) rfl rfl (Nat.le_of_ble_eq_true rfl) ?_
        refine V_iinc (dG D_X4_firstKeyOf 19 rfl) rfl (inc1 _) (Nat.le_of_ble_eq_true rfl) ?_
        refine V_goto (tgt := 4) (dG D_X4_firstKeyOf 20 rfl) (by decide) ?_
        rw [show fkS C range (n + 1) i acc = fkS C range n (i + 1) (acc + 1) from by simp [fkS, c_7, c_19, c_24]]
        exact ih (by omega) _ h
      · skip
        refine V_iload_n (dG D_X4_firstKeyOf 16 rfl) rfl ?_
        exact V_iret (dG D_X4_firstKeyOf 17 rfl) rfl (Nat.le_of_ble_eq_true rfl) (Nat.le_of_ble_eq_true rfl) ⟨(by simp [fkS, c_7, c_19, c_24]), rfl, rfl, rfl⟩
theorem ok_firstKeyOf {range : Int32} : RET g K_X4_firstKeyOf 0 0 [.ref (ad g 0), .int range] nt C M o (some (.int (fkS C range 32 0 0))) C M o := by
  refine MT_of (by decide +kernel) rfl rfl (Nat.le_of_ble_eq_true rfl) (by simp [cat_rf, cat_int, cat_ref]) (fun h => ?_)
  refine V_iconst (v := 0) (dG D_X4_firstKeyOf 0 rfl) (by decide) ?_
  refine V_istore_n (dG D_X4_firstKeyOf 1 rfl) (Nat.le_of_ble_eq_true rfl) ?_
  refine V_iconst (v := 0) (dG D_X4_firstKeyOf 2 rfl) (by decide) ?_
  refine V_istore_n (dG D_X4_firstKeyOf 3 rfl) (Nat.le_of_ble_eq_true rfl) ?_
  exact lp_firstKeyOf 32 (i := 0) (by omega) 0 h
theorem lp_resolved {b : Nat} (hb40 : b ≤ 40) (hb : C 10 0 = nI b) (h33 : ∀ i, i < b → tok nt (C 33 i)) : ∀ (n : Nat) {i : Nat} (_ : i + n = b) (acc : Int32) (h : Nat × Nat), V g K_X4_resolvedStamp (kR K_X4_resolvedStamp 0 0) (qM g 0 0 nt (fun v9 C9 M9 o9 => v9 = some (.int (rsS C n i acc)) ∧ C9 = C ∧ M9 = M ∧ o9 = o) (fun _ _ _ _ => False)) 0 0 nt h C M o 7 [(0, .ref (ad g 0)), (1, .int acc), (2, .int (nI i))] [] := by
  intro n
  induction n with
  | zero =>
    intro i hi acc h
    refine V_iload_n (dG D_X4_resolvedStamp 5 rfl) rfl ?_
    refine V_aload_n (dG D_X4_resolvedStamp 6 rfl) rfl ?_
    refine gf_X4_115 rfl (dG D_X4_resolvedStamp 7 rfl) ?_
    refine V_icmp_ge (tgt := 50) (dG D_X4_resolvedStamp 8 rfl) (by decide) (fun c_12 => ?_) (fun c_12 => absurd (by rw [hb]; exact nI_le (by omega) (by omega)) c_12)
    refine V_iload_n (dG D_X4_resolvedStamp 28 rfl) rfl ?_
    exact V_iret (dG D_X4_resolvedStamp 29 rfl) rfl (Nat.le_of_ble_eq_true rfl) (Nat.le_of_ble_eq_true rfl) ⟨rfl, rfl, rfl, rfl⟩
  | succ n ih =>
    intro i hi acc h
    refine V_iload_n (dG D_X4_resolvedStamp 5 rfl) rfl ?_
    refine V_aload_n (dG D_X4_resolvedStamp 6 rfl) rfl ?_
    refine gf_X4_115 rfl (dG D_X4_resolvedStamp 7 rfl) ?_
    refine V_icmp_ge (tgt := 50) (dG D_X4_resolvedStamp 8 rfl) (by decide) (fun c_12 => absurd (show C 10 0 ≤ nI i from c_12) (by rw [hb]; exact nI_ge (by omega) (by omega))) (fun c_12 => ?_)
    refine V_aload_n (dG D_X4_resolvedStamp 9 rfl) rfl ?_
    refine gf_X4_23 rfl (dG D_X4_resolvedStamp 10 rfl) ?_
    refine V_iload_n (dG D_X4_resolvedStamp 11 rfl) rfl ?_
    refine aald_trs (dG D_X4_resolvedStamp 12 rfl) (inr_nI (by omega) (by decide)) ?_
    refine gf_X4_147 rfl (dG D_X4_resolvedStamp 13 rfl) (h33 i (by omega)) ?_
    refine V_iconst (v := 1) (dG D_X4_resolvedStamp 14 rfl) (by decide) ?_
    refine V_icmp_ne (tgt := 44) (dG D_X4_resolvedStamp 15 rfl) (by decide) (fun c_25 => ?_) (fun c_25 => ?_)
    · skip
      refine V_iinc (dG D_X4_resolvedStamp 26 rfl) rfl (inc1 _) (Nat.le_of_ble_eq_true rfl) ?_
      refine V_goto (tgt := 7) (dG D_X4_resolvedStamp 27 rfl) (by decide) ?_
      rw [show rsS C (n + 1) i acc = rsS C n (i + 1) (if C 15 (C 33 i).toNatClampNeg = 1 then mn acc (C 17 (C 33 i).toNatClampNeg - 1) else acc) from by simp [rsS, c_12, c_25]]
      simp only [c_25, if_true, if_false, mn]
      exact ih (by omega) _ h
    · skip
      refine V_iload_n (dG D_X4_resolvedStamp 16 rfl) rfl ?_
      refine V_aload_n (dG D_X4_resolvedStamp 17 rfl) rfl ?_
      refine gf_X4_23 rfl (dG D_X4_resolvedStamp 18 rfl) ?_
      refine V_iload_n (dG D_X4_resolvedStamp 19 rfl) rfl ?_
      refine aald_trs (dG D_X4_resolvedStamp 20 rfl) (inr_nI (by omega) (by decide)) ?_
      refine gf_X4_163 rfl (dG D_X4_resolvedStamp 21 rfl) (h33 i (by omega)) ?_
      refine V_iconst (v := 1) (dG D_X4_resolvedStamp 22 rfl) (by decide) ?_
      refine V_isub (dG D_X4_resolvedStamp 23 rfl) ?_
      refine V_min w_138 (dG D_X4_resolvedStamp 24 rfl) ⟨(Nat.le_of_ble_eq_true rfl), (by first | exact Nat.le_of_ble_eq_true rfl | (simp only [List.map, List.sum, cat_rf, cat_int, cat_ref]; exact Nat.le_of_ble_eq_true rfl))⟩ ⟨(Nat.le_of_ble_eq_true rfl), (Nat.le_of_ble_eq_true rfl)⟩ ?_
      refine V_istore_n (dG D_X4_resolvedStamp 25 rfl) (Nat.le_of_ble_eq_true rfl) ?_
      refine V_iinc (dG D_X4_resolvedStamp 26 rfl) rfl (inc1 _) (Nat.le_of_ble_eq_true rfl) ?_
      refine V_goto (tgt := 7) (dG D_X4_resolvedStamp 27 rfl) (by decide) ?_
      rw [show rsS C (n + 1) i acc = rsS C n (i + 1) (if C 15 (C 33 i).toNatClampNeg = 1 then mn acc (C 17 (C 33 i).toNatClampNeg - 1) else acc) from by simp [rsS, c_12, c_25]]
      simp only [c_25, if_true, if_false, mn]
      exact ih (by omega) _ h
theorem ok_resolvedStamp {b : Nat} (hb40 : b ≤ 40) (hb : C 10 0 = nI b) (h33 : ∀ i, i < b → tok nt (C 33 i)) : RET g K_X4_resolvedStamp 0 0 [.ref (ad g 0)] nt C M o (some (.int (rsS C b 0 (closedS C)))) C M o := by
  refine MT_of (by decide +kernel) rfl rfl (Nat.le_of_ble_eq_true rfl) (by simp [cat_rf, cat_int, cat_ref]) (fun h => ?_)
  refine V_aload_n (dG D_X4_resolvedStamp 0 rfl) rfl ?_
  refine R_vb0 ok_closedStamp lk_X4_72 (dG D_X4_resolvedStamp 1 rfl) rcv_4 ⟨Nat.le_of_ble_eq_true rfl, Nat.le_of_ble_eq_true rfl⟩ ⟨(Nat.le_of_ble_eq_true rfl), (Nat.le_of_ble_eq_true rfl)⟩ (by first | exact Nat.le_of_ble_eq_true rfl | simp [cat_rf, cat_int, cat_ref]) (fun h => ?_)
  refine V_istore_n (dG D_X4_resolvedStamp 2 rfl) (Nat.le_of_ble_eq_true rfl) ?_
  refine V_iconst (v := 0) (dG D_X4_resolvedStamp 3 rfl) (by decide) ?_
  refine V_istore_n (dG D_X4_resolvedStamp 4 rfl) (Nat.le_of_ble_eq_true rfl) ?_
  exact lp_resolved hb40 hb h33 b (i := 0) (by omega) _ h
theorem lp_hasAll (ht : tok nt t) (wo : ∀ k, k < 32 → trv nt (C 6 k)) : ∀ (n : Nat) {i : Nat} (_ : i + n = 32) (h : Nat × Nat), V g K_X4_hasAllIntents (kR K_X4_hasAllIntents 0 0) (qM g 0 0 nt (fun v9 C9 M9 o9 => v9 = some (.int (haS C t n i)) ∧ C9 = C ∧ M9 = M ∧ o9 = o) (fun _ _ _ _ => False)) 0 0 nt h C M o 2 [(0, .ref (ad g 0)), (1, va_rf (trO g t)), (2, .int (nI i))] [] := by
  intro n
  induction n with
  | zero =>
    intro i hi h
    refine V_iload_n (dG D_X4_hasAllIntents 2 rfl) rfl ?_
    refine V_bipush (v := 32) (dG D_X4_hasAllIntents 3 rfl) (by decide) ?_
    refine V_icmp_ge (tgt := 37) (dG D_X4_hasAllIntents 4 rfl) (by decide) (fun c_5 => ?_) (fun c_5 => absurd (l32 (by omega)) c_5)
    refine V_iconst (v := 1) (dG D_X4_hasAllIntents 20 rfl) (by decide) ?_
    exact V_zret (dG D_X4_hasAllIntents 21 rfl) rfl (by first | rfl | assumption) (Nat.le_of_ble_eq_true rfl) (Nat.le_of_ble_eq_true rfl) ⟨rfl, rfl, rfl, rfl⟩
  | succ n ih =>
    intro i hi h
    refine V_iload_n (dG D_X4_hasAllIntents 2 rfl) rfl ?_
    refine V_bipush (v := 32) (dG D_X4_hasAllIntents 3 rfl) (by decide) ?_
    refine V_icmp_ge (tgt := 37) (dG D_X4_hasAllIntents 4 rfl) (by decide) (fun c_5 => absurd c_5 (g32 (by omega))) (fun c_5 => ?_)
    refine V_aload_nt (dG D_X4_hasAllIntents 5 rfl) rfl ?_
    refine V_iload_n (dG D_X4_hasAllIntents 6 rfl) rfl ?_
    refine R_vt1 (by assumption) (ok_writes ht (show i < 32 by omega)) lk_X4_274 (dG D_X4_hasAllIntents 7 rfl) ⟨Nat.le_of_ble_eq_true rfl, Nat.le_of_ble_eq_true rfl⟩ ⟨(Nat.le_of_ble_eq_true rfl), (Nat.le_of_ble_eq_true rfl)⟩ (by first | exact Nat.le_of_ble_eq_true rfl | simp [cat_rf, cat_int, cat_ref]) (fun h => ?_)
    refine V_if_eq (tgt := 31) (dG D_X4_hasAllIntents 8 rfl) (by decide) (fun c_13 => ?_) (fun c_13 => ?_)
    · skip
      refine V_iinc (dG D_X4_hasAllIntents 18 rfl) rfl (inc1 _) (Nat.le_of_ble_eq_true rfl) ?_
      refine V_goto (tgt := 2) (dG D_X4_hasAllIntents 19 rfl) (by decide) ?_
      rw [show haS C t (n + 1) i = haS C t n (i + 1) from by simp [haS, c_5, c_13]]
      exact ih (by omega) h
    · skip
      refine V_aload_n (dG D_X4_hasAllIntents 9 rfl) rfl ?_
      refine gf_X4_17 rfl (dG D_X4_hasAllIntents 10 rfl) ?_
      refine V_iload_n (dG D_X4_hasAllIntents 11 rfl) rfl ?_
      refine aald_cells (dG D_X4_hasAllIntents 12 rfl) (inr_nI (by omega) (by decide)) ?_
      refine gf_X4_82 rfl (dG D_X4_hasAllIntents 13 rfl) (by first | assumption | omega) ?_
      refine V_aload_nt (dG D_X4_hasAllIntents 14 rfl) rfl ?_
      refine V_acmpt_eq (tgt := 31) (dG D_X4_hasAllIntents 15 rfl) (by decide) (wo i (by omega)) (Or.inr ht) (fun c_26 => ?_) (fun c_26 => ?_)
      · skip
        refine V_iinc (dG D_X4_hasAllIntents 18 rfl) rfl (inc1 _) (Nat.le_of_ble_eq_true rfl) ?_
        refine V_goto (tgt := 2) (dG D_X4_hasAllIntents 19 rfl) (by decide) ?_
        rw [show haS C t (n + 1) i = haS C t n (i + 1) from by simp [haS, c_5, c_13, c_26]]
        exact ih (by omega) h
      · skip
        refine V_iconst (v := 0) (dG D_X4_hasAllIntents 16 rfl) (by decide) ?_
        exact V_zret (dG D_X4_hasAllIntents 17 rfl) rfl (by first | rfl | assumption) (Nat.le_of_ble_eq_true rfl) (Nat.le_of_ble_eq_true rfl) ⟨(by simp [haS, c_5, c_13, c_26]), rfl, rfl, rfl⟩
theorem ok_hasAllIntents (ht : tok nt t) (wo : ∀ k, k < 32 → trv nt (C 6 k)) : RET g K_X4_hasAllIntents 0 0 [.ref (ad g 0), va_rf (trO g t)] nt C M o (some (.int (haS C t 32 0))) C M o := by
  refine MT_of (by decide +kernel) rfl rfl (Nat.le_of_ble_eq_true rfl) (by simp [cat_rf, cat_int, cat_ref]) (fun h => ?_)
  refine V_iconst (v := 0) (dG D_X4_hasAllIntents 0 rfl) (by decide) ?_
  refine V_istore_n (dG D_X4_hasAllIntents 1 rfl) (Nat.le_of_ble_eq_true rfl) ?_
  exact lp_hasAll ht wo 32 (i := 0) (by omega) h
theorem lp_writesDown (ht : tok nt t) (wn : ∀ k, k < 32 → vp_in (C 4 k) 4) : ∀ (n : Nat) {i : Nat} (_ : i + n = 32) (h : Nat × Nat), V g K_X4_writesOnDownNode (kR K_X4_writesOnDownNode 0 0) (qM g 0 0 nt (fun v9 C9 M9 o9 => v9 = some (.int (wdS C t.toNatClampNeg n i)) ∧ C9 = C ∧ M9 = M ∧ o9 = o) (fun _ _ _ _ => False)) 0 0 nt h C M o 2 [(0, .ref (ad g 0)), (1, va_rf (trO g t)), (2, .int (nI i))] [] := by
  intro n
  induction n with
  | zero =>
    intro i hi h
    refine V_iload_n (dG D_X4_writesOnDownNode 2 rfl) rfl ?_
    refine V_bipush (v := 32) (dG D_X4_writesOnDownNode 3 rfl) (by decide) ?_
    refine V_icmp_ge (tgt := 44) (dG D_X4_writesOnDownNode 4 rfl) (by decide) (fun c_5 => ?_) (fun c_5 => absurd (l32 (by omega)) c_5)
    refine V_iconst (v := 0) (dG D_X4_writesOnDownNode 23 rfl) (by decide) ?_
    exact V_zret (dG D_X4_writesOnDownNode 24 rfl) rfl (by first | rfl | assumption) (Nat.le_of_ble_eq_true rfl) (Nat.le_of_ble_eq_true rfl) ⟨rfl, rfl, rfl, rfl⟩
  | succ n ih =>
    intro i hi h
    refine V_iload_n (dG D_X4_writesOnDownNode 2 rfl) rfl ?_
    refine V_bipush (v := 32) (dG D_X4_writesOnDownNode 3 rfl) (by decide) ?_
    refine V_icmp_ge (tgt := 44) (dG D_X4_writesOnDownNode 4 rfl) (by decide) (fun c_5 => absurd c_5 (g32 (by omega))) (fun c_5 => ?_)
    refine V_aload_nt (dG D_X4_writesOnDownNode 5 rfl) rfl ?_
    refine V_iload_n (dG D_X4_writesOnDownNode 6 rfl) rfl ?_
    refine R_vt1 (by assumption) (ok_writes ht (show i < 32 by omega)) lk_X4_274 (dG D_X4_writesOnDownNode 7 rfl) ⟨Nat.le_of_ble_eq_true rfl, Nat.le_of_ble_eq_true rfl⟩ ⟨(Nat.le_of_ble_eq_true rfl), (Nat.le_of_ble_eq_true rfl)⟩ (by first | exact Nat.le_of_ble_eq_true rfl | simp [cat_rf, cat_int, cat_ref]) (fun h => ?_)
    refine V_if_eq (tgt := 38) (dG D_X4_writesOnDownNode 8 rfl) (by decide) (fun c_13 => ?_) (fun c_13 => ?_)
    · skip
      refine V_iinc (dG D_X4_writesOnDownNode 21 rfl) rfl (inc1 _) (Nat.le_of_ble_eq_true rfl) ?_
      refine V_goto (tgt := 2) (dG D_X4_writesOnDownNode 22 rfl) (by decide) ?_
      rw [show wdS C t.toNatClampNeg (n + 1) i = wdS C t.toNatClampNeg n (i + 1) from by simp [wdS, c_5, c_13]]
      exact ih (by omega) h
    · skip
      refine V_aload_n (dG D_X4_writesOnDownNode 9 rfl) rfl ?_
      refine gf_X4_11 rfl (dG D_X4_writesOnDownNode 10 rfl) ?_
      refine V_aload_n (dG D_X4_writesOnDownNode 11 rfl) rfl ?_
      refine gf_X4_17 rfl (dG D_X4_writesOnDownNode 12 rfl) ?_
      refine V_iload_n (dG D_X4_writesOnDownNode 13 rfl) rfl ?_
      refine aald_cells (dG D_X4_writesOnDownNode 14 rfl) (inr_nI (by omega) (by decide)) ?_
      refine gf_X4_79 rfl (dG D_X4_writesOnDownNode 15 rfl) (by first | assumption | omega) ?_
      refine aald_nodes (dG D_X4_writesOnDownNode 16 rfl) (inr_of (wn i (by omega))) ?_
      refine gf_X4_76 rfl (dG D_X4_writesOnDownNode 17 rfl) (vin_lt (wn i (by omega))) ?_
      refine V_if_eq (tgt := 38) (dG D_X4_writesOnDownNode 18 rfl) (by decide) (fun c_33 => ?_) (fun c_33 => ?_)
      · skip
        refine V_iinc (dG D_X4_writesOnDownNode 21 rfl) rfl (inc1 _) (Nat.le_of_ble_eq_true rfl) ?_
        refine V_goto (tgt := 2) (dG D_X4_writesOnDownNode 22 rfl) (by decide) ?_
        rw [show wdS C t.toNatClampNeg (n + 1) i = wdS C t.toNatClampNeg n (i + 1) from by simp [wdS, c_5, c_13, c_33]]
        exact ih (by omega) h
      · skip
        refine V_iconst (v := 1) (dG D_X4_writesOnDownNode 19 rfl) (by decide) ?_
        exact V_zret (dG D_X4_writesOnDownNode 20 rfl) rfl (by first | rfl | assumption) (Nat.le_of_ble_eq_true rfl) (Nat.le_of_ble_eq_true rfl) ⟨(by simp [wdS, c_5, c_13, c_33]), rfl, rfl, rfl⟩
theorem ok_writesOnDownNode (ht : tok nt t) (wn : ∀ k, k < 32 → vp_in (C 4 k) 4) : RET g K_X4_writesOnDownNode 0 0 [.ref (ad g 0), va_rf (trO g t)] nt C M o (some (.int (wdS C t.toNatClampNeg 32 0))) C M o := by
  refine MT_of (by decide +kernel) rfl rfl (Nat.le_of_ble_eq_true rfl) (by simp [cat_rf, cat_int, cat_ref]) (fun h => ?_)
  refine V_iconst (v := 0) (dG D_X4_writesOnDownNode 0 rfl) (by decide) ?_
  refine V_istore_n (dG D_X4_writesOnDownNode 1 rfl) (Nat.le_of_ble_eq_true rfl) ?_
  exact lp_writesDown ht wn 32 (i := 0) (by omega) h
end B4
