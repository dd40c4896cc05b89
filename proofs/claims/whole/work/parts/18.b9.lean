/-! class: refreshing, looking to read and to write -/
def stX (C : St) (key s : Int32) : Int32 := stU C (cn C) key s
def vaX (C : St) (key s : Int32) : Int32 := vaU C (cn C) key s
def rf2 (D : St) (t s : Int32) (i : Nat) (p : Int32 × St) : Int32 × St := if stX D (nI i) s ≤ D 16 t.toNatClampNeg then p else (0, D)
def rfA (t s : Int32) : Nat → Nat → St → Int32 × St
  | 0, _, C => (1, C)
  | n + 1, i, C => if bI (bt (C 20 t.toNatClampNeg) i) = 0 then rfA t s n (i + 1) C else if C 3 (C 4 i).toNatClampNeg = 0 then (if meetR C t i < 0 then rf2 (meetC C t i) t s i (rfA t s n (i + 1) (meetC C t i)) else if meetC C t i 17 (meetR C t i).toNatClampNeg ≤ s then (0, meetC C t i) else rf2 (meetC C t i) t s i (rfA t s n (i + 1) (meetC C t i))) else (0, C)
def rfB (t s : Int32) : Nat → Nat → St → St
  | 0, _, C => C
  | n + 1, i, C => rfB t s n (i + 1) (if bI (bt (C 20 t.toNatClampNeg) i) = 0 then C else noteR C i (C 11 t.toNatClampNeg) s)
def rfF (t s : Int32) (p : Int32 × St) : St := if p.1 = 0 then p.2 else raiseS (rfB t s 32 0 p.2) t.toNatClampNeg s
def refC (C : St) (t s : Int32) : St := rfF t s (rfA t s 32 0 C)
def refR (C : St) (t s : Int32) : Int32 := (rfA t s 32 0 C).1
theorem noteR_row {C : St} {k w : Nat} {num s : Int32} (h8 : w ≠ 8) (h9 : w ≠ 9) : noteR C k num s w = C w := by
  unfold noteR
  split
  · split
    · split
      · rfl
      · exact up_row h9
    · rfl
  · rw [up_row h9, up_row h8]
theorem rfB_row {t s : Int32} {w : Nat} (h8 : w ≠ 8) (h9 : w ≠ 9) : ∀ {n i : Nat} {C : St}, rfB t s n i C w = C w
  | 0, _, _ => rfl
  | n + 1, i, C => by
    unfold rfB
    rw [rfB_row h8 h9]
    split
    · rfl
    · exact noteR_row h8 h9
theorem rf2_2 {D E : St} {t s : Int32} {i : Nat} {p : Int32 × St} (P : St → Prop) (h1 : P p.2) (h2 : P D) : P (rf2 D t s i p).2 := by
  unfold rf2
  split
  · exact h1
  · exact h2
theorem rfA_WF {nt : Nat} {t s : Int32} : ∀ {n i : Nat} {C : St}, i + n ≤ 32 → WF nt C → WF nt (rfA t s n i C).2 ∧ cap C ≤ cap (rfA t s n i C).2
  | 0, _, _, _, h => ⟨h, Nat.le_refl _⟩
  | n + 1, i, C, hi, h => by
    have hm := WF_meet (t := t) h (show i < 32 by omega)
    have hcm := cap_meet (t := t) h (show i < 32 by omega)
    have ih := rfA_WF (t := t) (s := s) (n := n) (i := i + 1) (by omega) hm
    have h2 : WF nt (rf2 (meetC C t i) t s i (rfA t s n (i + 1) (meetC C t i))).2 ∧ cap C ≤ cap (rf2 (meetC C t i) t s i (rfA t s n (i + 1) (meetC C t i))).2 := rf2_2 (E := C) (fun X => WF nt X ∧ cap C ≤ cap X) ⟨ih.1, Nat.le_trans hcm ih.2⟩ ⟨hm, hcm⟩
    unfold rfA
    split
    · exact rfA_WF (by omega) h
    · split
      · split
        · exact h2
        · split
          · exact ⟨hm, hcm⟩
          · exact h2
      · exact ⟨h, Nat.le_refl _⟩
theorem rf2_ge {D : St} {t s : Int32} {i : Nat} {p : Int32 × St} (h : cap D ≤ cap p.2) : cap D ≤ cap (rf2 D t s i p).2 := rf2_2 (E := D) (fun X => cap D ≤ cap X) h (Nat.le_refl _)
theorem rfA_ge {nt : Nat} {t s : Int32} {n i : Nat} {C : St} (hi : i + (n + 1) ≤ 32) (h : WF nt C) (c1 : ¬ bI (bt (C 20 t.toNatClampNeg) i) = 0) (c2 : C 3 (C 4 i).toNatClampNeg = 0) : cap (meetC C t i) ≤ cap (rfA t s (n + 1) i C).2 := by
  have hm := WF_meet (t := t) h (show i < 32 by omega)
  have h1 := rf2_ge (t := t) (s := s) (i := i) (rfA_WF (t := t) (s := s) (n := n) (i := i + 1) (by omega) hm).2
  unfold rfA
  rw [if_neg c1, if_pos c2]
  split
  · exact h1
  · split
    · exact Nat.le_refl _
    · exact h1
theorem rfF_WF {nt : Nat} {t s : Int32} {p : Int32 × St} (h : WF nt p.2) : WF nt (rfF t s p) ∧ cap (rfF t s p) = cap p.2 := by
  unfold rfF
  split
  · exact ⟨h, rfl⟩
  · have hr : ∀ w, w ≠ 8 → w ≠ 9 → w ≠ 16 → w ≠ 17 → raiseS (rfB t s 32 0 p.2) t.toNatClampNeg s w = p.2 w := fun w h8 h9 h16 h17 => by
      unfold raiseS
      rw [up_row h17, up_row h16, rfB_row h8 h9]
    refine ⟨h.congr (hr _ (by decide) (by decide) (by decide) (by decide)) (hr _ (by decide) (by decide) (by decide) (by decide)) (hr _ (by decide) (by decide) (by decide) (by decide)) (hr _ (by decide) (by decide) (by decide) (by decide)) (hr _ (by decide) (by decide) (by decide) (by decide)) (hr _ (by decide) (by decide) (by decide) (by decide)) (hr _ (by decide) (by decide) (by decide) (by decide)) (hr _ (by decide) (by decide) (by decide) (by decide)) (hr _ (by decide) (by decide) (by decide) (by decide)) (hr _ (by decide) (by decide) (by decide) (by decide)) (hr _ (by decide) (by decide) (by decide) (by decide)) (hr _ (by decide) (by decide) (by decide) (by decide)), ?_⟩
    unfold cap
    rw [hr _ (by decide) (by decide) (by decide) (by decide)]
theorem WF_ref {nt : Nat} {C : St} {t s : Int32} (h : WF nt C) : WF nt (refC C t s) := (rfF_WF (rfA_WF (by omega) h).1).1
theorem cap_ref {nt : Nat} {C : St} {t s : Int32} (h : WF nt C) : cap C ≤ cap (refC C t s) := by
  have h1 := rfA_WF (t := t) (s := s) (n := 32) (i := 0) (by omega) h
  unfold refC
  rw [(rfF_WF h1.1).2]
  exact h1.2
theorem WF.cnn {nt : Nat} {C : St} (h : WF nt C) : C 26 0 = nI (cn C) ∧ cn C ≤ cap C ∧ cap C < 2 ^ 31 ∧ capv C < 2 ^ 31 ∧ cn C ≤ capv C := by
  obtain ⟨c, k, q1, q2, q3, q4, q5, q6, q7, q8, q9⟩ := h.hi
  have e : cn C = c := by unfold cn; rw [q1, nI_clamp (by omega)]
  rw [e]
  exact ⟨q1, q5, by omega, by omega, by omega⟩
def lk2 (E : St) (t : Int32) (k : Nat) (hz : Int32) : Int32 × St :=
  if stX E (nI k) hz ≤ E 16 t.toNatClampNeg then (vaX (noteR E k (E 11 t.toNatClampNeg) (E 16 t.toNatClampNeg)) (nI k) (E 16 t.toNatClampNeg), noteReadS (noteR E k (E 11 t.toNatClampNeg) (E 16 t.toNatClampNeg)) t.toNatClampNeg k (vaX (noteR E k (E 11 t.toNatClampNeg) (E 16 t.toNatClampNeg)) (nI k) (E 16 t.toNatClampNeg)))
  else if refR E t (stX E (nI k) hz) = 0 then (-12, resC (refC E t (stX E (nI k) hz)) t (stX E (nI k) hz)) else (-99, refC E t (stX E (nI k) hz))
def hzS (D : St) (t : Nat) (k : Nat) : Int32 := mx (D 16 t) (D (52 + 3 * t) (D 4 k).toNatClampNeg)
def lkR (C : St) (t : Int32) (k : Nat) : Int32 × St :=
  if bI (bt (C 21 t.toNatClampNeg) k) = 0 then
    (if meetR C t k < 0 then lk2 (meetC C t k) t k (hzS (meetC C t k) t.toNatClampNeg k)
     else if hzS (meetC C t k) t.toNatClampNeg k < meetC C t k 17 (meetR C t k).toNatClampNeg then lk2 (meetC C t k) t k (hzS (meetC C t k) t.toNatClampNeg k)
     else if meetC C t k 13 (meetR C t k).toNatClampNeg < meetC C t k 13 t.toNatClampNeg then lk2 (up (meetC C t k) 17 (meetR C t k).toNatClampNeg (hzS (meetC C t k) t.toNatClampNeg k + 1)) t k (hzS (meetC C t k) t.toNatClampNeg k)
     else (waR (meetC C t k) t (meetR C t k), waC (meetC C t k) t (meetR C t k)))
  else (C (51 + 3 * t.toNatClampNeg) k, C)
def lw2 (D : St) (t : Int32) (k : Nat) : Int32 := if D 9 k = D 11 t.toNatClampNeg then stX D (nI k) 2147483647 + 1 else mx (stX D (nI k) 2147483647 + 1) (D 8 k + 1)
def lw3 (D : St) (t : Int32) (k : Nat) (v : Int32) : St := up (up (noteWriteS (up D 17 t.toNatClampNeg (mx (D 17 t.toNatClampNeg) (lw2 D t k))) t.toNatClampNeg k v) 6 k t) 7 k 0
def lwR (C : St) (t : Int32) (k : Nat) (v : Int32) : Int32 × St :=
  if meetR C t k < 0 then (0, lw3 (meetC C t k) t k v)
  else if meetC C t k 13 (meetR C t k).toNatClampNeg < meetC C t k 13 t.toNatClampNeg then (0, lw3 (up (meetC C t k) 15 (meetR C t k).toNatClampNeg 3) t k v)
  else (waR (meetC C t k) t (meetR C t k), waC (meetC C t k) t (meetR C t k))
theorem cap_res {C : St} {t s : Int32} : cap (resC C t s) = cap C := by
  unfold cap resC forgetS
  rw [up_row (by decide), up_row (by decide), up_row (by decide), up_row (by decide), raL_row (by decide)]
theorem cap_wa {C : St} {t u : Int32} : cap (waC C t u) = cap C := by
  unfold cap waC
  split
  · rw [up_row (by decide)]
  · rw [up_row (by decide), up_row (by decide), up_row (by decide)]
theorem cap_nr {E : St} {i k : Nat} {num s v : Int32} : cap (noteReadS (noteR E k num s) i k v) = cap E := by
  unfold cap noteReadS
  rw [up_row (by omega), up_row (by decide), noteR_row (by decide) (by decide)]
theorem cap_lk2 {nt : Nat} {E : St} {t hz : Int32} {k : Nat} (h : WF nt E) : cap E ≤ cap (lk2 E t k hz).2 := by
  unfold lk2
  split
  · exact Nat.le_of_eq cap_nr.symm
  · split
    · show _ ≤ cap (resC _ _ _)
      rw [cap_res]
      exact cap_ref h
    · exact cap_ref h
theorem cap_lw3 {D : St} {t v : Int32} {k : Nat} : cap (lw3 D t k v) = cap D := by
  unfold cap lw3 noteWriteS
  rw [up_row (by decide), up_row (by decide), up_row (by omega), up_row (by decide), up_row (by decide)]
theorem cap_up17 {C : St} {i : Nat} {x : Int32} : cap (up C 17 i x) = cap C := by unfold cap; rw [up_row (by decide)]
theorem cap_up15 {C : St} {i : Nat} {x : Int32} : cap (up C 15 i x) = cap C := by unfold cap; rw [up_row (by decide)]
theorem WF_up17 {nt : Nat} {C : St} (h : WF nt C) {i : Nat} {x : Int32} : WF nt (up C 17 i x) := WF_up h (by decide)
theorem cap_lk {nt : Nat} {C : St} {t : Int32} {k : Nat} (h : WF nt C) (hk : k < 32) : cap C ≤ cap (lkR C t k).2 := by
  have hm := WF_meet (t := t) h hk
  have hcm := cap_meet (t := t) h hk
  unfold lkR
  split
  · split
    · exact Nat.le_trans hcm (cap_lk2 hm)
    · split
      · exact Nat.le_trans hcm (cap_lk2 hm)
      · split
        · refine Nat.le_trans hcm (Nat.le_trans ?_ (cap_lk2 (WF_up17 hm)))
          rw [cap_up17]
          exact Nat.le_refl _
        · show _ ≤ cap (waC _ _ _)
          rw [cap_wa]
          exact hcm
  · exact Nat.le_refl _
theorem cap_lw {nt : Nat} {C : St} {t v : Int32} {k : Nat} (h : WF nt C) (hk : k < 32) : cap C ≤ cap (lwR C t k v).2 := by
  have hcm := cap_meet (t := t) h hk
  unfold lwR
  split
  · show _ ≤ cap (lw3 _ _ _ _)
    rw [cap_lw3]; exact hcm
  · split
    · show _ ≤ cap (lw3 _ _ _ _)
      rw [cap_lw3, cap_up15]; exact hcm
    · show _ ≤ cap (waC _ _ _)
      rw [cap_wa]; exact hcm
section B9
variable {g : GT} {nt : Nat} {C M : St} {o : Int64} {t u : Int32}
theorem okW_st (hW : WF nt C) {key s : Int32} : RET g K_X1_stampUpTo 0 0 [.ref (ad g 4), .int key, .int s] nt C M o (some (.int (stX C key s))) C M o := by
  obtain ⟨q1, q2, q3, q4, q5⟩ := hW.cnn
  exact ok_stampUpTo q3 q1 q2
theorem okW_va (hW : WF nt C) {key s : Int32} : RET g K_X1_valueUpTo 0 0 [.ref (ad g 4), .int key, .int s] nt C M o (some (.int (vaX C key s))) C M o := by
  obtain ⟨q1, q2, q3, q4, q5⟩ := hW.cnn
  exact ok_valueUpTo q3 q1 q2 q4 q5
theorem lp_refB (ht : tok nt t) {s : Int32} {mc ms : Nat} : ∀ (n : Nat) {i kb nb : Nat} {C : St} (_ : i + n = 32) (_ : kb ≤ mc) (_ : nb ≤ ms) (h : Nat × Nat), V g K_X4_refreshReads (kR K_X4_refreshReads mc ms) (qM g mc ms nt (fun v9 C9 M9 o9 => v9 = some (.int 1) ∧ C9 = raiseS (rfB t s n i C) t.toNatClampNeg s ∧ M9 = M ∧ o9 = o) (fun _ _ _ _ => False)) kb nb nt h C M o 89 [(0, .ref (ad g 0)), (1, va_rf (trO g t)), (2, .int s), (3, .int (nI i))] [] := by
  intro n
  induction n with
  | zero =>
    intro i kb nb C hi hk9 hn9 h
    refine V_iload_n (dG D_X4_refreshReads 47 rfl) rfl ?_
    refine V_bipush (v := 32) (dG D_X4_refreshReads 48 rfl) (by decide) ?_
    refine V_icmp_ge (tgt := 123) (dG D_X4_refreshReads 49 rfl) (by decide) (fun c_92 => ?_) (fun c_92 => absurd (l32 (by omega)) c_92)
    refine V_aload_nt (dG D_X4_refreshReads 64 rfl) rfl ?_
    refine V_iload_n (dG D_X4_refreshReads 65 rfl) rfl ?_
    refine R_nt1 (by assumption) (ok_raiseStamps ht) lk_X4_307 (dG D_X4_refreshReads 66 rfl) ⟨Nat.le_of_ble_eq_true rfl, Nat.le_of_ble_eq_true rfl⟩ ⟨by show kb + 0 ≤ mc; omega, by show nb + 0 ≤ ms; omega⟩ (by first | exact Nat.le_of_ble_eq_true rfl | simp [cat_rf, cat_int, cat_ref]) (fun h => ?_)
    refine V_iconst (v := 1) (dG D_X4_refreshReads 67 rfl) (by decide) ?_
    exact V_zret (dG D_X4_refreshReads 68 rfl) rfl rfl (by omega) (by omega) ⟨rfl, rfl, rfl, rfl⟩
  | succ n ih =>
    intro i kb nb C hi hk9 hn9 h
    refine V_iload_n (dG D_X4_refreshReads 47 rfl) rfl ?_
    refine V_bipush (v := 32) (dG D_X4_refreshReads 48 rfl) (by decide) ?_
    refine V_icmp_ge (tgt := 123) (dG D_X4_refreshReads 49 rfl) (by decide) (fun c_92 => absurd c_92 (g32 (by omega))) (fun c_92 => ?_)
    refine V_aload_nt (dG D_X4_refreshReads 50 rfl) rfl ?_
    refine V_iload_n (dG D_X4_refreshReads 51 rfl) rfl ?_
    refine R_vt1 (by assumption) (ok_hasRead ht (show i < 32 by omega)) lk_X4_304 (dG D_X4_refreshReads 52 rfl) ⟨Nat.le_of_ble_eq_true rfl, Nat.le_of_ble_eq_true rfl⟩ ⟨by show kb + 0 ≤ mc; omega, by show nb + 0 ≤ ms; omega⟩ (by first | exact Nat.le_of_ble_eq_true rfl | simp [cat_rf, cat_int, cat_ref]) (fun h => ?_)
    refine V_if_eq (tgt := 117) (dG D_X4_refreshReads 53 rfl) (by decide) (fun c_100 => ?_) (fun c_100 => ?_)
    · skip
      refine V_iinc (dG D_X4_refreshReads 62 rfl) rfl (inc1 _) (Nat.le_of_ble_eq_true rfl) ?_
      refine V_goto (tgt := 89) (dG D_X4_refreshReads 63 rfl) (by decide) ?_
      rw [show rfB t s (n + 1) i C = rfB t s n (i + 1) (if bI (bt (C 20 t.toNatClampNeg) i) = 0 then C else noteR C i (C 11 t.toNatClampNeg) s) from rfl, if_pos c_100]
      exact ih (by omega) (by omega) (by omega) h
    · skip
      refine V_aload_n (dG D_X4_refreshReads 54 rfl) rfl ?_
      refine gf_X4_17 rfl (dG D_X4_refreshReads 55 rfl) ?_
      refine V_iload_n (dG D_X4_refreshReads 56 rfl) rfl ?_
      refine aald_cells (dG D_X4_refreshReads 57 rfl) (inr_nI (by omega) (by decide)) ?_
      refine V_aload_nt (dG D_X4_refreshReads 58 rfl) rfl ?_
      refine gf_X4_199 rfl (dG D_X4_refreshReads 59 rfl) (by assumption) ?_
      refine V_iload_n (dG D_X4_refreshReads 60 rfl) rfl ?_
      refine R_nb2 (ok_noteReader (show i < 32 by omega)) lk_X4_298 (dG D_X4_refreshReads 61 rfl) (rcv_0 (show i < 32 by omega)) ⟨Nat.le_of_ble_eq_true rfl, Nat.le_of_ble_eq_true rfl⟩ ⟨by show kb + 0 + 0 ≤ mc; omega, by show nb + 0 + 0 ≤ ms; omega⟩ (Nat.le_of_ble_eq_true rfl) (fun h => ?_)
      refine V_iinc (dG D_X4_refreshReads 62 rfl) rfl (inc1 _) (Nat.le_of_ble_eq_true rfl) ?_
      refine V_goto (tgt := 89) (dG D_X4_refreshReads 63 rfl) (by decide) ?_
      rw [show rfB t s (n + 1) i C = rfB t s n (i + 1) (if bI (bt (C 20 t.toNatClampNeg) i) = 0 then C else noteR C i (C 11 t.toNatClampNeg) s) from rfl, if_neg c_100]
      exact ih (by omega) (by omega) (by omega) h
theorem lp_refA (ht : tok nt t) {s : Int32} {mc ms c0 : Nat} : ∀ (n : Nat) (i : Nat) (C : St) (_ : i + n = 32) (_ : WF nt C) (_ : c0 ≤ cap C) (_ : cap (rfA t s n i C).2 - c0 ≤ mc) (_ : 4 * (cap (rfA t s n i C).2 - c0) ≤ ms) (h : Nat × Nat), V g K_X4_refreshReads (kR K_X4_refreshReads mc ms) (qM g mc ms nt (fun v9 C9 M9 o9 => v9 = some (.int (rfA t s n i C).1) ∧ C9 = rfF t s (rfA t s n i C) ∧ M9 = M ∧ o9 = o) (fun _ _ _ _ => False)) (cap C - c0) (4 * (cap C - c0)) nt h C M o 2 [(0, .ref (ad g 0)), (1, va_rf (trO g t)), (2, .int s), (3, .int (nI i))] [] := by
  intro n
  induction n with
  | zero =>
    intro i C hi hW h0 hk9 hn9 h
    refine V_iload_n (dG D_X4_refreshReads 2 rfl) rfl ?_
    refine V_bipush (v := 32) (dG D_X4_refreshReads 3 rfl) (by decide) ?_
    refine V_icmp_ge (tgt := 87) (dG D_X4_refreshReads 4 rfl) (by decide) (fun c_5 => ?_) (fun c_5 => absurd (l32 (by omega)) c_5)
    refine V_iconst (v := 0) (dG D_X4_refreshReads 45 rfl) (by decide) ?_
    refine V_istore_n (dG D_X4_refreshReads 46 rfl) (Nat.le_of_ble_eq_true rfl) ?_
    rw [show rfA t s 0 i C = (1, C) from rfl, show rfF t s (1, C) = raiseS (rfB t s 32 0 C) t.toNatClampNeg s from rfl]
    exact lp_refB ht 32 (i := 0) (by omega) hk9 hn9 h
  | succ n ih =>
    intro i C hi hW h0 hk9 hn9 h
    have hm9 := (rfA_WF (t := t) (s := s) (n := n + 1) (i := i) (by omega) hW).2
    have hWm := WF_meet (t := t) hW (show i < 32 by omega)
    have hcm := cap_meet (t := t) hW (show i < 32 by omega)
    have hm8 := (rfA_WF (t := t) (s := s) (n := n) (i := i + 1) (by omega) hWm).2
    refine V_iload_n (dG D_X4_refreshReads 2 rfl) rfl ?_
    refine V_bipush (v := 32) (dG D_X4_refreshReads 3 rfl) (by decide) ?_
    refine V_icmp_ge (tgt := 87) (dG D_X4_refreshReads 4 rfl) (by decide) (fun c_5 => absurd c_5 (g32 (by omega))) (fun c_5 => ?_)
    refine V_aload_nt (dG D_X4_refreshReads 5 rfl) rfl ?_
    refine V_iload_n (dG D_X4_refreshReads 6 rfl) rfl ?_
    refine R_vt1 (by assumption) (ok_hasRead ht (show i < 32 by omega)) lk_X4_304 (dG D_X4_refreshReads 7 rfl) ⟨Nat.le_of_ble_eq_true rfl, Nat.le_of_ble_eq_true rfl⟩ ⟨by show cap C - c0 + 0 ≤ mc; omega, by show 4 * (cap C - c0) + 0 ≤ ms; omega⟩ (by first | exact Nat.le_of_ble_eq_true rfl | simp [cat_rf, cat_int, cat_ref]) (fun h => ?_)
    refine V_if_ne (tgt := 19) (dG D_X4_refreshReads 8 rfl) (by decide) (fun c_13 => ?_) (fun c_13 => ?_)
    · skip
      refine V_aload_n (dG D_X4_refreshReads 10 rfl) rfl ?_
      refine gf_X4_11 rfl (dG D_X4_refreshReads 11 rfl) ?_
      refine V_aload_n (dG D_X4_refreshReads 12 rfl) rfl ?_
      refine gf_X4_17 rfl (dG D_X4_refreshReads 13 rfl) ?_
      refine V_iload_n (dG D_X4_refreshReads 14 rfl) rfl ?_
      refine aald_cells (dG D_X4_refreshReads 15 rfl) (inr_nI (by omega) (by decide)) ?_
      refine gf_X4_79 rfl (dG D_X4_refreshReads 16 rfl) (by first | assumption | omega) ?_
      refine aald_nodes (dG D_X4_refreshReads 17 rfl) (inr_of (hW.wn i (by omega))) ?_
      refine gf_X4_76 rfl (dG D_X4_refreshReads 18 rfl) (vin_lt (hW.wn i (by omega))) ?_
      refine V_if_eq (tgt := 41) (dG D_X4_refreshReads 19 rfl) (by decide) (fun c_36 => ?_) (fun c_36 => ?_)
      · have hge := rfA_ge (t := t) (s := s) (n := n) (by omega) hW c_13 c_36
        have hg2 := rf2_ge (t := t) (s := s) (i := i) hm8
        refine V_aload_n (dG D_X4_refreshReads 22 rfl) rfl ?_
        refine V_aload_nt (dG D_X4_refreshReads 23 rfl) rfl ?_
        refine V_iload_n (dG D_X4_refreshReads 24 rfl) rfl ?_
        refine R_vb2 (ok_meetIntent ht (show i < 32 by omega) hW) lk_X4_281 (dG D_X4_refreshReads 25 rfl) rcv_4 ⟨Nat.le_of_ble_eq_true rfl, Nat.le_of_ble_eq_true rfl⟩ ⟨by show cap C - c0 + 0 + (cap (meetC C t i) - cap C) ≤ mc; omega, by show 4 * (cap C - c0) + 0 + 4 * (cap (meetC C t i) - cap C) ≤ ms; omega⟩ (Nat.le_of_ble_eq_true rfl) (fun h => ?_)
        refine V_mono (kb' := cap (meetC C t i) - c0) (nb' := 4 * (cap (meetC C t i) - c0)) (show cap C - c0 + 0 + (cap (meetC C t i) - cap C) ≤ _ by omega) (show 4 * (cap C - c0) + 0 + 4 * (cap (meetC C t i) - cap C) ≤ _ by omega) ?_
        refine V_astoret (dG D_X4_refreshReads 26 rfl) (Nat.le_of_ble_eq_true rfl) ?_
        refine V_aloadt (dG D_X4_refreshReads 27 rfl) rfl ?_
        refine V_ifnullt (tgt := 63) (dG D_X4_refreshReads 28 rfl) (by decide) (fun c_51 => ?_) (fun c_51 => ?_)
        · rw [show rfA t s (n + 1) i C = rf2 (meetC C t i) t s i (rfA t s n (i + 1) (meetC C t i)) from by simp only [rfA, if_neg c_13, if_pos c_36, if_pos c_51]] at hk9 hn9 ⊢
          refine V_aload_n (dG D_X4_refreshReads 33 rfl) rfl ?_
          refine gf_X4_30 rfl (dG D_X4_refreshReads 34 rfl) ?_
          refine V_iload_n (dG D_X4_refreshReads 35 rfl) rfl ?_
          refine V_iload_n (dG D_X4_refreshReads 36 rfl) rfl ?_
          refine R_vb2 (okW_st hWm) lk_X4_295 (dG D_X4_refreshReads 37 rfl) rcv_1 ⟨Nat.le_of_ble_eq_true rfl, Nat.le_of_ble_eq_true rfl⟩ ⟨by show cap (meetC C t i) - c0 + 0 ≤ mc; omega, by show 4 * (cap (meetC C t i) - c0) + 0 ≤ ms; omega⟩ (by first | exact Nat.le_of_ble_eq_true rfl | simp [cat_rf, cat_int, cat_ref]) (fun h => ?_)
          refine V_aload_nt (dG D_X4_refreshReads 38 rfl) rfl ?_
          refine gf_X4_172 rfl (dG D_X4_refreshReads 39 rfl) (by assumption) ?_
          refine V_icmp_le (tgt := 81) (dG D_X4_refreshReads 40 rfl) (by decide) (fun c_76 => ?_) (fun c_76 => ?_)
          · rw [show rf2 (meetC C t i) t s i (rfA t s n (i + 1) (meetC C t i)) = rfA t s n (i + 1) (meetC C t i) from if_pos c_76] at hk9 hn9 ⊢
            refine V_iinc (dG D_X4_refreshReads 43 rfl) rfl (inc1 _) (Nat.le_of_ble_eq_true rfl) ?_
            refine V_goto (tgt := 2) (dG D_X4_refreshReads 44 rfl) (by decide) ?_
            refine V_sub [0, 1, 2, 3] rfl ?_
            exact ih (i + 1) (meetC C t i) (by omega) hWm (by omega) hk9 hn9 h
          · rw [show rf2 (meetC C t i) t s i (rfA t s n (i + 1) (meetC C t i)) = (0, meetC C t i) from if_neg c_76] at hk9 hn9 ⊢
            refine V_iconst (v := 0) (dG D_X4_refreshReads 41 rfl) (by decide) ?_
            exact V_zret (dG D_X4_refreshReads 42 rfl) rfl rfl (by first | exact hk9 | (show _ + 0 ≤ _; omega)) (by first | exact hn9 | (show _ + 0 ≤ _; omega)) ⟨rfl, rfl, rfl, rfl⟩
        · have hu := trv_tok (meetR_trv hW (show i < 32 by omega)) c_51
          refine V_aloadt (dG D_X4_refreshReads 29 rfl) rfl ?_
          refine gf_X4_163 rfl (dG D_X4_refreshReads 30 rfl) hu ?_
          refine V_iload_n (dG D_X4_refreshReads 31 rfl) rfl ?_
          refine V_icmp_le (tgt := 79) (dG D_X4_refreshReads 32 rfl) (by decide) (fun c_60 => ?_) (fun c_60 => ?_)
          · rw [show rfA t s (n + 1) i C = (0, meetC C t i) from by simp only [rfA, if_neg c_13, if_pos c_36, if_neg c_51, if_pos c_60]] at hk9 hn9 ⊢
            refine V_iconst (v := 0) (dG D_X4_refreshReads 41 rfl) (by decide) ?_
            exact V_zret (dG D_X4_refreshReads 42 rfl) rfl rfl (by first | exact hk9 | (show _ + 0 ≤ _; omega)) (by first | exact hn9 | (show _ + 0 ≤ _; omega)) ⟨rfl, rfl, rfl, rfl⟩
          · rw [show rfA t s (n + 1) i C = rf2 (meetC C t i) t s i (rfA t s n (i + 1) (meetC C t i)) from by simp only [rfA, if_neg c_13, if_pos c_36, if_neg c_51, if_neg c_60]] at hk9 hn9 ⊢
            refine V_aload_n (dG D_X4_refreshReads 33 rfl) rfl ?_
            refine gf_X4_30 rfl (dG D_X4_refreshReads 34 rfl) ?_
            refine V_iload_n (dG D_X4_refreshReads 35 rfl) rfl ?_
            refine V_iload_n (dG D_X4_refreshReads 36 rfl) rfl ?_
            refine R_vb2 (okW_st hWm) lk_X4_295 (dG D_X4_refreshReads 37 rfl) rcv_1 ⟨Nat.le_of_ble_eq_true rfl, Nat.le_of_ble_eq_true rfl⟩ ⟨by show cap (meetC C t i) - c0 + 0 ≤ mc; omega, by show 4 * (cap (meetC C t i) - c0) + 0 ≤ ms; omega⟩ (by first | exact Nat.le_of_ble_eq_true rfl | simp [cat_rf, cat_int, cat_ref]) (fun h => ?_)
            refine V_aload_nt (dG D_X4_refreshReads 38 rfl) rfl ?_
            refine gf_X4_172 rfl (dG D_X4_refreshReads 39 rfl) (by assumption) ?_
            refine V_icmp_le (tgt := 81) (dG D_X4_refreshReads 40 rfl) (by decide) (fun c_76 => ?_) (fun c_76 => ?_)
            · rw [show rf2 (meetC C t i) t s i (rfA t s n (i + 1) (meetC C t i)) = rfA t s n (i + 1) (meetC C t i) from if_pos c_76] at hk9 hn9 ⊢
              refine V_iinc (dG D_X4_refreshReads 43 rfl) rfl (inc1 _) (Nat.le_of_ble_eq_true rfl) ?_
              refine V_goto (tgt := 2) (dG D_X4_refreshReads 44 rfl) (by decide) ?_
              refine V_sub [0, 1, 2, 3] rfl ?_
              exact ih (i + 1) (meetC C t i) (by omega) hWm (by omega) hk9 hn9 h
            · rw [show rf2 (meetC C t i) t s i (rfA t s n (i + 1) (meetC C t i)) = (0, meetC C t i) from if_neg c_76] at hk9 hn9 ⊢
              refine V_iconst (v := 0) (dG D_X4_refreshReads 41 rfl) (by decide) ?_
              exact V_zret (dG D_X4_refreshReads 42 rfl) rfl rfl (by first | exact hk9 | (show _ + 0 ≤ _; omega)) (by first | exact hn9 | (show _ + 0 ≤ _; omega)) ⟨rfl, rfl, rfl, rfl⟩
      · rw [show rfA t s (n + 1) i C = (0, C) from by simp only [rfA, if_neg c_13, if_neg c_36]] at hk9 hn9 ⊢
        refine V_iconst (v := 0) (dG D_X4_refreshReads 20 rfl) (by decide) ?_
        exact V_zret (dG D_X4_refreshReads 21 rfl) rfl rfl (by first | exact hk9 | (show _ + 0 ≤ _; omega)) (by first | exact hn9 | (show _ + 0 ≤ _; omega)) ⟨rfl, rfl, rfl, rfl⟩
    · rw [show rfA t s (n + 1) i C = rfA t s n (i + 1) C from by simp only [rfA, if_pos c_13]] at hk9 hn9 ⊢
      refine V_goto (tgt := 81) (dG D_X4_refreshReads 9 rfl) (by decide) ?_
      refine V_iinc (dG D_X4_refreshReads 43 rfl) rfl (inc1 _) (Nat.le_of_ble_eq_true rfl) ?_
      refine V_goto (tgt := 2) (dG D_X4_refreshReads 44 rfl) (by decide) ?_
      refine V_sub [0, 1, 2, 3] rfl ?_
      exact ih (i + 1) C (by omega) hW h0 hk9 hn9 h
theorem ok_refreshReads (ht : tok nt t) {s : Int32} (hW : WF nt C) : RET g K_X4_refreshReads (cap (refC C t s) - cap C) (4 * (cap (refC C t s) - cap C)) [.ref (ad g 0), va_rf (trO g t), .int s] nt C M o (some (.int (refR C t s))) (refC C t s) M o := by
  refine MT_of (by decide +kernel) rfl rfl (Nat.le_of_ble_eq_true rfl) (by simp [cat_rf, cat_int, cat_ref]) (fun h => ?_)
  refine V_iconst (v := 0) (dG D_X4_refreshReads 0 rfl) (by decide) ?_
  refine V_istore_n (dG D_X4_refreshReads 1 rfl) (Nat.le_of_ble_eq_true rfl) ?_
  have hcc := (rfF_WF (t := t) (s := s) (rfA_WF (t := t) (s := s) (n := 32) (i := 0) (by omega) hW).1).2
  refine V_mono (kb' := cap C - cap C) (nb' := 4 * (cap C - cap C)) (Nat.zero_le _) (Nat.zero_le _) ?_
  exact lp_refA ht 32 0 C (by omega) hW (Nat.le_refl _) (by unfold refC; rw [hcc]; exact Nat.le_refl _) (by unfold refC; rw [hcc]; exact Nat.le_refl _) h
theorem lr_84 (ht : tok nt t) {k : Nat} (hk : k < 32) {hz : Int32} {mc ms c0 : Nat} (hW : WF nt C) (h0 : c0 ≤ cap C) (hk9 : cap (lk2 C t k hz).2 - c0 ≤ mc) (hn9 : 4 * (cap (lk2 C t k hz).2 - c0) ≤ ms) (h : Nat × Nat) : V g K_X4_lookToRead (kR K_X4_lookToRead mc ms) (qM g mc ms nt (fun v9 C9 M9 o9 => v9 = some (.int (lk2 C t k hz).1) ∧ C9 = (lk2 C t k hz).2 ∧ M9 = M ∧ o9 = o) (fun _ _ _ _ => False)) (cap C - c0) (4 * (cap C - c0)) nt h C M o 84 [(0, .ref (ad g 0)), (1, va_rf (trO g t)), (2, .int (nI k)), (3, va_rf (trO g u)), (4, .int hz)] [] := by
  have hm9 := cap_lk2 (t := t) (k := k) (hz := hz) hW
  have hrf := cap_ref (t := t) (s := stX C (nI k) hz) hW
  refine V_aload_n (dG D_X4_lookToRead 47 rfl) rfl ?_
  refine gf_X4_30 rfl (dG D_X4_lookToRead 48 rfl) ?_
  refine V_iload_n (dG D_X4_lookToRead 49 rfl) rfl ?_
  refine V_iload (dG D_X4_lookToRead 50 rfl) rfl ?_
  refine R_vb2 (okW_st hW) lk_X4_295 (dG D_X4_lookToRead 51 rfl) rcv_1 ⟨Nat.le_of_ble_eq_true rfl, Nat.le_of_ble_eq_true rfl⟩ ⟨by show cap C - c0 + 0 ≤ mc; omega, by show 4 * (cap C - c0) + 0 ≤ ms; omega⟩ (by first | exact Nat.le_of_ble_eq_true rfl | simp [cat_rf, cat_int, cat_ref]) (fun h => ?_)
  refine V_istore (dG D_X4_lookToRead 52 rfl) (Nat.le_of_ble_eq_true rfl) ?_
  refine V_iload (dG D_X4_lookToRead 53 rfl) rfl ?_
  refine V_aload_nt (dG D_X4_lookToRead 54 rfl) rfl ?_
  refine gf_X4_172 rfl (dG D_X4_lookToRead 55 rfl) (by assumption) ?_
  refine V_icmp_le (tgt := 128) (dG D_X4_lookToRead 56 rfl) (by decide) (fun c_102 => ?_) (fun c_102 => ?_)
  · rw [show lk2 C t k hz = (vaX (noteR C k (C 11 t.toNatClampNeg) (C 16 t.toNatClampNeg)) (nI k) (C 16 t.toNatClampNeg), noteReadS (noteR C k (C 11 t.toNatClampNeg) (C 16 t.toNatClampNeg)) t.toNatClampNeg k (vaX (noteR C k (C 11 t.toNatClampNeg) (C 16 t.toNatClampNeg)) (nI k) (C 16 t.toNatClampNeg))) from if_pos c_102]
    have hnr := cap_nr (E := C) (i := t.toNatClampNeg) (k := k) (num := C 11 t.toNatClampNeg) (s := C 16 t.toNatClampNeg) (v := vaX (noteR C k (C 11 t.toNatClampNeg) (C 16 t.toNatClampNeg)) (nI k) (C 16 t.toNatClampNeg))
    have e16 : (noteR C k (C 11 t.toNatClampNeg) (C 16 t.toNatClampNeg)) 16 t.toNatClampNeg = C 16 t.toNatClampNeg := by rw [noteR_row (by decide) (by decide)]
    have hW2 : WF nt (noteR C k (C 11 t.toNatClampNeg) (C 16 t.toNatClampNeg)) := hW.congr (noteR_row (by decide) (by decide)) (noteR_row (by decide) (by decide)) (noteR_row (by decide) (by decide)) (noteR_row (by decide) (by decide)) (noteR_row (by decide) (by decide)) (noteR_row (by decide) (by decide)) (noteR_row (by decide) (by decide)) (noteR_row (by decide) (by decide)) (noteR_row (by decide) (by decide)) (noteR_row (by decide) (by decide)) (noteR_row (by decide) (by decide)) (noteR_row (by decide) (by decide))
    refine V_aload_n (dG D_X4_lookToRead 69 rfl) rfl ?_
    refine gf_X4_17 rfl (dG D_X4_lookToRead 70 rfl) ?_
    refine V_iload_n (dG D_X4_lookToRead 71 rfl) rfl ?_
    refine aald_cells (dG D_X4_lookToRead 72 rfl) (by first | assumption | exact inr_nI (by first | assumption | omega) (by first | decide | assumption | omega) | exact inr_of (by assumption)) ?_
    refine V_aload_nt (dG D_X4_lookToRead 73 rfl) rfl ?_
    refine gf_X4_199 rfl (dG D_X4_lookToRead 74 rfl) (by assumption) ?_
    refine V_aload_nt (dG D_X4_lookToRead 75 rfl) rfl ?_
    refine gf_X4_172 rfl (dG D_X4_lookToRead 76 rfl) (by assumption) ?_
    refine R_nb2 (ok_noteReader hk) lk_X4_298 (dG D_X4_lookToRead 77 rfl) (rcv_0 (by first | assumption | omega)) ⟨Nat.le_of_ble_eq_true rfl, Nat.le_of_ble_eq_true rfl⟩ ⟨by show cap C - c0 + 0 + 0 ≤ mc; omega, by show 4 * (cap C - c0) + 0 + 0 ≤ ms; omega⟩ (by first | exact Nat.le_of_ble_eq_true rfl | simp [cat_rf, cat_int, cat_ref]) (fun h => ?_)
    refine V_aload_nt (dG D_X4_lookToRead 78 rfl) rfl ?_
    refine V_iload_n (dG D_X4_lookToRead 79 rfl) rfl ?_
    refine V_aload_n (dG D_X4_lookToRead 80 rfl) rfl ?_
    refine gf_X4_30 rfl (dG D_X4_lookToRead 81 rfl) ?_
    refine V_iload_n (dG D_X4_lookToRead 82 rfl) rfl ?_
    refine V_aload_nt (dG D_X4_lookToRead 83 rfl) rfl ?_
    refine gf_X4_172 rfl (dG D_X4_lookToRead 84 rfl) (by assumption) ?_
    rw [e16]
    refine R_vb2 (okW_va (C := noteR C k (C 11 t.toNatClampNeg) (C 16 t.toNatClampNeg)) hW2) lk_X4_223 (dG D_X4_lookToRead 85 rfl) rcv_1 ⟨Nat.le_of_ble_eq_true rfl, Nat.le_of_ble_eq_true rfl⟩ ⟨by show cap C - c0 + 0 + 0 + 0 ≤ mc; omega, by show 4 * (cap C - c0) + 0 + 0 + 0 ≤ ms; omega⟩ (by first | exact Nat.le_of_ble_eq_true rfl | simp [cat_rf, cat_int, cat_ref]) (fun h => ?_)
    refine R_vt2 (by assumption) (ok_noteRead ht hk) lk_X4_301 (dG D_X4_lookToRead 86 rfl) ⟨Nat.le_of_ble_eq_true rfl, Nat.le_of_ble_eq_true rfl⟩ ⟨by show cap C - c0 + 0 + 0 + 0 + 0 ≤ mc; omega, by show 4 * (cap C - c0) + 0 + 0 + 0 + 0 ≤ ms; omega⟩ (by first | exact Nat.le_of_ble_eq_true rfl | simp [cat_rf, cat_int, cat_ref]) (fun h => ?_)
    exact V_iret (dG D_X4_lookToRead 87 rfl) rfl (by first | exact hk9 | (show _ ≤ mc; omega)) (by first | exact hn9 | (show _ ≤ ms; omega)) ⟨rfl, rfl, rfl, rfl⟩
  · have hx : cap (refC C t (stX C (nI k) hz)) ≤ cap (lk2 C t k hz).2 := by
      unfold lk2; rw [if_neg c_102]; split
      · exact Nat.le_of_eq cap_res.symm
      · exact Nat.le_refl _
    have hrs := cap_res (C := refC C t (stX C (nI k) hz)) (t := t) (s := stX C (nI k) hz)
    refine V_aload_n (dG D_X4_lookToRead 57 rfl) rfl ?_
    refine V_aload_nt (dG D_X4_lookToRead 58 rfl) rfl ?_
    refine V_iload (dG D_X4_lookToRead 59 rfl) rfl ?_
    refine R_vb2 (ok_refreshReads ht hW) lk_X4_175 (dG D_X4_lookToRead 60 rfl) rcv_4 ⟨Nat.le_of_ble_eq_true rfl, Nat.le_of_ble_eq_true rfl⟩ ⟨by show cap C - c0 + 0 + (cap (refC C t (stX C (nI k) hz)) - cap C) ≤ mc; omega, by show 4 * (cap C - c0) + 0 + 4 * (cap (refC C t (stX C (nI k) hz)) - cap C) ≤ ms; omega⟩ (by first | exact Nat.le_of_ble_eq_true rfl | simp [cat_rf, cat_int, cat_ref]) (fun h => ?_)
    refine V_if_eq (tgt := 120) (dG D_X4_lookToRead 61 rfl) (by decide) (fun c_112 => ?_) (fun c_112 => ?_)
    · rw [show lk2 C t k hz = (-12, resC (refC C t (stX C (nI k) hz)) t (stX C (nI k) hz)) from by simp only [lk2, if_neg c_102, if_pos (show refR C t (stX C (nI k) hz) = 0 from c_112)]]
      refine V_aload_n (dG D_X4_lookToRead 64 rfl) rfl ?_
      refine V_aload_nt (dG D_X4_lookToRead 65 rfl) rfl ?_
      refine V_iload (dG D_X4_lookToRead 66 rfl) rfl ?_
      refine R_vb2 (ok_restartAt ht (C := refC C t (stX C (nI k) hz)) (WF_ref hW).wo) lk_X4_179 (dG D_X4_lookToRead 67 rfl) rcv_4 ⟨Nat.le_of_ble_eq_true rfl, Nat.le_of_ble_eq_true rfl⟩ ⟨by show cap C - c0 + 0 + (cap (refC C t (stX C (nI k) hz)) - cap C) + 0 ≤ mc; omega, by show 4 * (cap C - c0) + 0 + 4 * (cap (refC C t (stX C (nI k) hz)) - cap C) + 0 ≤ ms; omega⟩ (by first | exact Nat.le_of_ble_eq_true rfl | simp [cat_rf, cat_int, cat_ref]) (fun h => ?_)
      exact V_iret (dG D_X4_lookToRead 68 rfl) rfl (by first | exact hk9 | (show _ ≤ mc; omega)) (by first | exact hn9 | (show _ ≤ ms; omega)) ⟨rfl, rfl, rfl, rfl⟩
    · rw [show lk2 C t k hz = (-99, refC C t (stX C (nI k) hz)) from by simp only [lk2, if_neg c_102, if_neg (show ¬ refR C t (stX C (nI k) hz) = 0 from c_112)]]
      refine V_bipush (v := -99) (dG D_X4_lookToRead 62 rfl) (by decide) ?_
      refine V_goto (tgt := 127) (dG D_X4_lookToRead 63 rfl) (by decide) ?_
      exact V_iret (dG D_X4_lookToRead 68 rfl) rfl (by first | exact hk9 | (show _ ≤ mc; omega)) (by first | exact hn9 | (show _ ≤ ms; omega)) ⟨rfl, rfl, rfl, rfl⟩
theorem ok_lookToRead (ht : tok nt t) {k : Nat} (hk : k < 32) (hW : WF nt C) : RET g K_X4_lookToRead (cap (lkR C t k).2 - cap C) (4 * (cap (lkR C t k).2 - cap C)) [.ref (ad g 0), va_rf (trO g t), .int (nI k)] nt C M o (some (.int (lkR C t k).1)) (lkR C t k).2 M o := by
  refine MT_of (by decide +kernel) rfl rfl (Nat.le_of_ble_eq_true rfl) (by simp [cat_rf, cat_int, cat_ref]) (fun h => ?_)
  have hm9 := cap_lk (t := t) hW hk
  have hWm := WF_meet (t := t) hW hk
  have hcm := cap_meet (t := t) hW hk
  have hcw := cap_wa (C := meetC C t k) (t := t) (u := meetR C t k)
  obtain ⟨mc, hmc0⟩ : ∃ z, z = cap (lkR C t k).2 - cap C := ⟨_, rfl⟩
  rw [← hmc0]
  obtain ⟨ms, hms0⟩ : ∃ z, z = 4 * mc := ⟨_, rfl⟩
  rw [← hms0]
  have hmc : cap (lkR C t k).2 - cap C ≤ mc := Nat.le_of_eq hmc0.symm
  have hms : 4 * (cap (lkR C t k).2 - cap C) ≤ ms := by omega
  have hpre : cap (meetC C t k) - cap C ≤ mc ∨ ¬ bI (bt (C 21 t.toNatClampNeg) k) = 0 := by
    by_cases c_5 : bI (bt (C 21 t.toNatClampNeg) k) = 0
    · left
      have h1 := cap_lk2 (t := t) (k := k) (hz := hzS (meetC C t k) t.toNatClampNeg k) hWm
      have h2 := cap_lk2 (t := t) (k := k) (hz := hzS (meetC C t k) t.toNatClampNeg k) (WF_up17 hWm (i := (meetR C t k).toNatClampNeg) (x := hzS (meetC C t k) t.toNatClampNeg k + 1))
      rw [cap_up17] at h2
      unfold lkR at hmc
      rw [if_pos c_5] at hmc
      split at hmc
      · omega
      · split at hmc
        · omega
        · split at hmc
          · omega
          · rw [show (waR (meetC C t k) t (meetR C t k), waC (meetC C t k) t (meetR C t k)).2 = waC (meetC C t k) t (meetR C t k) from rfl, hcw] at hmc; exact hmc
    · exact Or.inr c_5
  refine V_aload_nt (dG D_X4_lookToRead 0 rfl) rfl ?_
  refine V_iload_n (dG D_X4_lookToRead 1 rfl) rfl ?_
  refine R_vt1 (by assumption) (ok_writes ht hk) lk_X4_274 (dG D_X4_lookToRead 2 rfl) ⟨Nat.le_of_ble_eq_true rfl, Nat.le_of_ble_eq_true rfl⟩ ⟨by show 0 + 0 ≤ mc; omega, by show 0 + 0 ≤ ms; omega⟩ (by first | exact Nat.le_of_ble_eq_true rfl | simp [cat_rf, cat_int, cat_ref]) (fun h => ?_)
  refine V_if_eq (tgt := 15) (dG D_X4_lookToRead 3 rfl) (by decide) (fun c_5 => ?_) (fun c_5 => ?_)
  · have hmm := hpre.resolve_right (fun q => q c_5)
    refine V_aload_n (dG D_X4_lookToRead 9 rfl) rfl ?_
    refine V_aload_nt (dG D_X4_lookToRead 10 rfl) rfl ?_
    refine V_iload_n (dG D_X4_lookToRead 11 rfl) rfl ?_
    refine R_vb2 (ok_meetIntent ht hk hW) lk_X4_281 (dG D_X4_lookToRead 12 rfl) rcv_4 ⟨Nat.le_of_ble_eq_true rfl, Nat.le_of_ble_eq_true rfl⟩ ⟨by show 0 + 0 + (cap (meetC C t k) - cap C) ≤ mc; omega, by show 0 + 0 + 4 * (cap (meetC C t k) - cap C) ≤ ms; omega⟩ (by first | exact Nat.le_of_ble_eq_true rfl | simp [cat_rf, cat_int, cat_ref]) (fun h => ?_)
    refine V_astore_nt (dG D_X4_lookToRead 13 rfl) (Nat.le_of_ble_eq_true rfl) ?_
    refine V_aload_nt (dG D_X4_lookToRead 14 rfl) rfl ?_
    refine gf_X4_172 rfl (dG D_X4_lookToRead 15 rfl) (by assumption) ?_
    refine V_aload_nt (dG D_X4_lookToRead 16 rfl) rfl ?_
    refine gf_X4_285 rfl (dG D_X4_lookToRead 17 rfl) (by assumption) ?_
    refine V_aload_n (dG D_X4_lookToRead 18 rfl) rfl ?_
    refine gf_X4_17 rfl (dG D_X4_lookToRead 19 rfl) ?_
    refine V_iload_n (dG D_X4_lookToRead 20 rfl) rfl ?_
    refine aald_cells (dG D_X4_lookToRead 21 rfl) (by first | assumption | exact inr_nI (by first | assumption | omega) (by first | decide | assumption | omega) | exact inr_of (by assumption)) ?_
    refine gf_X4_79 rfl (dG D_X4_lookToRead 22 rfl) (by first | assumption | omega) ?_
    refine iald_t2 (by assumption) (dG D_X4_lookToRead 23 rfl) (inr_of (hWm.wn k hk)) ?_
    refine V_max w_127 (dG D_X4_lookToRead 24 rfl) ⟨(Nat.le_of_ble_eq_true rfl), (by first | exact Nat.le_of_ble_eq_true rfl | (simp only [List.map, List.sum, cat_rf, cat_int, cat_ref]; exact Nat.le_of_ble_eq_true rfl))⟩ ⟨by show 0 + 0 + (cap (meetC C t k) - cap C) ≤ mc; omega, by show 0 + 0 + 4 * (cap (meetC C t k) - cap C) ≤ ms; omega⟩ ?_
    refine V_istore (dG D_X4_lookToRead 25 rfl) (Nat.le_of_ble_eq_true rfl) ?_
    refine V_aload_nt (dG D_X4_lookToRead 26 rfl) rfl ?_
    refine V_ifnullt (tgt := 84) (dG D_X4_lookToRead 27 rfl) (by decide) (fun c_46 => ?_) (fun c_46 => ?_)
    · have he : lkR C t k = lk2 (meetC C t k) t k (hzS (meetC C t k) t.toNatClampNeg k) := by simp only [lkR, if_pos c_5, if_pos c_46]
      rw [he]
      refine V_mono (kb' := cap (meetC C t k) - cap C) (nb' := 4 * (cap (meetC C t k) - cap C)) (show 0 + 0 + (cap (meetC C t k) - cap C) ≤ _ by omega) (show 0 + 0 + 4 * (cap (meetC C t k) - cap C) ≤ _ by omega) ?_
      exact lr_84 (C := meetC C t k) ht hk hWm (by omega) (by rw [← he]; exact hmc) (by rw [← he]; exact hms) h
    · have hu := trv_tok (meetR_trv hW hk) c_46
      refine V_aload_nt (dG D_X4_lookToRead 28 rfl) rfl ?_
      refine gf_X4_163 rfl (dG D_X4_lookToRead 29 rfl) hu ?_
      refine V_iload (dG D_X4_lookToRead 30 rfl) rfl ?_
      refine V_icmp_gt (tgt := 84) (dG D_X4_lookToRead 31 rfl) (by decide) (fun c_55 => ?_) (fun c_55 => ?_)
      · have he : lkR C t k = lk2 (meetC C t k) t k (hzS (meetC C t k) t.toNatClampNeg k) := by simp only [lkR, if_pos c_5, if_neg c_46, if_pos (show hzS (meetC C t k) t.toNatClampNeg k < meetC C t k 17 (meetR C t k).toNatClampNeg from c_55)]
        rw [he]
        refine V_mono (kb' := cap (meetC C t k) - cap C) (nb' := 4 * (cap (meetC C t k) - cap C)) (show 0 + 0 + (cap (meetC C t k) - cap C) ≤ _ by omega) (show 0 + 0 + 4 * (cap (meetC C t k) - cap C) ≤ _ by omega) ?_
        exact lr_84 (C := meetC C t k) ht hk hWm (by omega) (by rw [← he]; exact hmc) (by rw [← he]; exact hms) h
      · skip
        refine V_aload_nt (dG D_X4_lookToRead 32 rfl) rfl ?_
        refine gf_X4_288 rfl (dG D_X4_lookToRead 33 rfl) (by assumption) ?_
        refine V_aload_nt (dG D_X4_lookToRead 34 rfl) rfl ?_
        refine gf_X4_288 rfl (dG D_X4_lookToRead 35 rfl) hu ?_
        refine V_icmp_gt (tgt := 76) (dG D_X4_lookToRead 36 rfl) (by decide) (fun c_66 => ?_) (fun c_66 => ?_)
        · have he : lkR C t k = lk2 (up (meetC C t k) 17 (meetR C t k).toNatClampNeg (hzS (meetC C t k) t.toNatClampNeg k + 1)) t k (hzS (meetC C t k) t.toNatClampNeg k) := by simp only [lkR, if_pos c_5, if_neg c_46, if_neg (show ¬ hzS (meetC C t k) t.toNatClampNeg k < meetC C t k 17 (meetR C t k).toNatClampNeg from c_55), if_pos c_66]
          rw [he]
          refine V_aload_nt (dG D_X4_lookToRead 42 rfl) rfl ?_
          refine V_iload (dG D_X4_lookToRead 43 rfl) rfl ?_
          refine V_iconst (v := 1) (dG D_X4_lookToRead 44 rfl) (by decide) ?_
          refine V_iadd (dG D_X4_lookToRead 45 rfl) ?_
          refine pf_X4_163 rfl (dG D_X4_lookToRead 46 rfl) hu ?_
          have hc17 := cap_up17 (C := meetC C t k) (i := (meetR C t k).toNatClampNeg) (x := hzS (meetC C t k) t.toNatClampNeg k + 1)
          refine V_mono (kb' := cap (up (meetC C t k) 17 (meetR C t k).toNatClampNeg (hzS (meetC C t k) t.toNatClampNeg k + 1)) - cap C) (nb' := 4 * (cap (up (meetC C t k) 17 (meetR C t k).toNatClampNeg (hzS (meetC C t k) t.toNatClampNeg k + 1)) - cap C)) (show 0 + 0 + (cap (meetC C t k) - cap C) ≤ _ by omega) (show 0 + 0 + 4 * (cap (meetC C t k) - cap C) ≤ _ by omega) ?_
          exact lr_84 (C := up (meetC C t k) 17 (meetR C t k).toNatClampNeg (hzS (meetC C t k) t.toNatClampNeg k + 1)) ht hk (WF_up17 hWm) (by omega) (by rw [← he]; exact hmc) (by rw [← he]; exact hms) h
        · rw [show lkR C t k = (waR (meetC C t k) t (meetR C t k), waC (meetC C t k) t (meetR C t k)) from by simp only [lkR, if_pos c_5, if_neg c_46, if_neg (show ¬ hzS (meetC C t k) t.toNatClampNeg k < meetC C t k 17 (meetR C t k).toNatClampNeg from c_55), if_neg c_66]]
          refine V_aload_n (dG D_X4_lookToRead 37 rfl) rfl ?_
          refine V_aload_nt (dG D_X4_lookToRead 38 rfl) rfl ?_
          refine V_aload_nt (dG D_X4_lookToRead 39 rfl) rfl ?_
          refine R_vb2 (ok_waitFor ht hu hWm.aw) lk_X4_291 (dG D_X4_lookToRead 40 rfl) rcv_4 ⟨Nat.le_of_ble_eq_true rfl, Nat.le_of_ble_eq_true rfl⟩ ⟨by show 0 + 0 + (cap (meetC C t k) - cap C) + 0 ≤ mc; omega, by show 0 + 0 + 4 * (cap (meetC C t k) - cap C) + 0 ≤ ms; omega⟩ (by first | exact Nat.le_of_ble_eq_true rfl | simp [cat_rf, cat_int, cat_ref]) (fun h => ?_)
          exact V_iret (dG D_X4_lookToRead 41 rfl) rfl (by show _ ≤ mc; omega) (by show _ ≤ ms; omega) ⟨rfl, rfl, rfl, rfl⟩
  · rw [show lkR C t k = (C (51 + 3 * t.toNatClampNeg) k, C) from by simp only [lkR, if_neg c_5]]
    refine V_aload_nt (dG D_X4_lookToRead 4 rfl) rfl ?_
    refine gf_X4_277 rfl (dG D_X4_lookToRead 5 rfl) (by assumption) ?_
    refine V_iload_n (dG D_X4_lookToRead 6 rfl) rfl ?_
    refine iald_t1 (by assumption) (dG D_X4_lookToRead 7 rfl) (inr_nI hk (by decide)) ?_
    exact V_iret (dG D_X4_lookToRead 8 rfl) rfl (by show _ ≤ mc; omega) (by show _ ≤ ms; omega) ⟨rfl, rfl, rfl, rfl⟩
end B9
