/-! class: committing, ending, telling -/
def cmF (F : St) (t : Int32) : Int32 × St := (if F 15 t.toNatClampNeg = 3 then -13 else 0, F)
def cm1 (D : St) (t p : Int32) : St := if p = 0 then decS D t else if D 21 t.toNatClampNeg = 0 then decS D t else if haS D t 32 0 = 0 then decS D t else D
def cm2 (E : St) (t p : Int32) : St := cm1 (up E 15 t.toNatClampNeg 1) t p
def cm3 (D : St) (t p : Int32) : Int32 × St := if D 17 t.toNatClampNeg ≤ D 16 t.toNatClampNeg then cmF (cm2 D t p) t else if refR D t (D 17 t.toNatClampNeg) = 0 then (-12, resC (refC D t (D 17 t.toNatClampNeg)) t (refC D t (D 17 t.toNatClampNeg) 17 t.toNatClampNeg)) else cmF (cm2 (refC D t (D 17 t.toNatClampNeg)) t p) t
def cm4 (D : St) (t p : Int32) : Int32 × St := if D 21 t.toNatClampNeg = 0 then cm3 D t p else cm3 (up D 17 t.toNatClampNeg (mx (D 17 t.toNatClampNeg) (closedS D + 1))) t p
def cmS (C : St) (t p : Int32) : Int32 × St := if C 15 t.toNatClampNeg = 0 then (if C 3 (C 12 t.toNatClampNeg).toNatClampNeg = 0 then (if wdS C t.toNatClampNeg 32 0 = 0 then cm4 (up C 19 t.toNatClampNeg (-1)) t p else (-14, C)) else (-14, C)) else (-13, C)
theorem cm1_WF {nt : Nat} {D : St} {t p : Int32} (h : WF nt D) (ht : tok nt t) (h2 : D 15 t.toNatClampNeg ≠ 2) : WF nt (cm1 D t p) ∧ cap D ≤ cap (cm1 D t p) := by
  unfold cm1
  split
  · exact ⟨WF_dec h ht h2, cap_decS h ht h2⟩
  · split
    · exact ⟨WF_dec h ht h2, cap_decS h ht h2⟩
    · split
      · exact ⟨WF_dec h ht h2, cap_decS h ht h2⟩
      · exact ⟨h, Nat.le_refl _⟩
theorem cm2_WF {nt : Nat} {D : St} {t p : Int32} (h : WF nt D) (ht : tok nt t) (h2 : D 15 t.toNatClampNeg ≠ 2) : WF nt (cm2 D t p) ∧ cap D ≤ cap (cm2 D t p) := by
  have h3 := cm1_WF (p := p) (WF_up15 h h2 (x := 1) (by decide)) ht (by rw [up_eq]; decide)
  rw [cap_up15] at h3
  exact h3
theorem cm3_WF {nt : Nat} {D : St} {t p : Int32} (h : WF nt D) (ht : tok nt t) (h2 : D 15 t.toNatClampNeg ≠ 2) : WF nt (cm3 D t p).2 ∧ cap D ≤ cap (cm3 D t p).2 := by
  unfold cm3
  split
  · exact cm2_WF h ht h2
  · split
    · exact ⟨WF_res (WF_ref h), by rw [show cap (resC (refC D t (D 17 t.toNatClampNeg)) t (refC D t (D 17 t.toNatClampNeg) 17 t.toNatClampNeg)) = _ from cap_res]; exact cap_ref h⟩
    · obtain ⟨a1, a2⟩ := cm2_WF (p := p) (WF_ref h (t := t) (s := D 17 t.toNatClampNeg)) ht (by rw [ref_15 h ht]; exact h2)
      exact ⟨a1, Nat.le_trans (cap_ref h) a2⟩
theorem cm4_WF {nt : Nat} {D : St} {t p : Int32} (h : WF nt D) (ht : tok nt t) (h2 : D 15 t.toNatClampNeg ≠ 2) : WF nt (cm4 D t p).2 ∧ cap D ≤ cap (cm4 D t p).2 := by
  unfold cm4
  split
  · exact cm3_WF h ht h2
  · obtain ⟨a1, a2⟩ := cm3_WF (p := p) (WF_up17 h (i := t.toNatClampNeg) (x := mx (D 17 t.toNatClampNeg) (closedS D + 1))) ht (by rw [up_row (by decide)]; exact h2)
    rw [cap_up17] at a2
    exact ⟨a1, a2⟩
theorem cmS_WF {nt : Nat} {C : St} {t p : Int32} (h : WF nt C) (ht : tok nt t) : WF nt (cmS C t p).2 ∧ cap C ≤ cap (cmS C t p).2 := by
  unfold cmS
  split
  · rename_i h0
    split
    · split
      · obtain ⟨a1, a2⟩ := cm4_WF (p := p) (WF_up19 h (i := t.toNatClampNeg) (x := -1) trv_null) ht (by rw [up_row (by decide), h0]; decide)
        rw [cap_up (by decide)] at a2
        exact ⟨a1, a2⟩
      · exact ⟨h, Nat.le_refl _⟩
    · exact ⟨h, Nat.le_refl _⟩
  · exact ⟨h, Nat.le_refl _⟩
def rcS (C : St) (t : Int32) : St := if C 15 t.toNatClampNeg = 1 then decS C t else C
theorem rcS_WF {nt : Nat} {C : St} {t : Int32} (h : WF nt C) (ht : tok nt t) : WF nt (rcS C t) ∧ cap C ≤ cap (rcS C t) := by
  unfold rcS
  split
  · rename_i e
    exact ⟨WF_dec h ht (by rw [e]; decide), cap_decS h ht (by rw [e]; decide)⟩
  · exact ⟨h, Nat.le_refl _⟩
def toS (C : St) (i w : Nat) : Int32 := if w = 0 then C 15 i else if w = 1 then C 16 i else if w = 2 then C 17 i else if w = 3 then (if wfS C i < 0 then -1 else C 11 (wfS C i).toNatClampNeg) else if w = 4 then bcS (C 20 i) else if w = 5 then bcS (C 21 i) else if vanB C i (C 0 0) = 0 then 0 else 1
def kyS (C : St) (k w : Nat) : Int32 := if w = 0 then cntS C (nI k) (cn C) 0 0 else if w = 1 then (if C 6 k < 0 then -1 else C 11 (C 6 k).toNatClampNeg) else if w = 2 then C 8 k else if w = 3 then C 9 k else if w = 4 then rgS C k 1 0 else if w = 5 then C 4 k else if C 6 k < 0 then 0 else if C 7 k = 0 then 0 else 1
def aoS (C : St) (k : Nat) (s : Int32) : Int32 := if C 6 k < 0 then vaX C (nI k) s else if C 15 (C 6 k).toNatClampNeg = 1 then (if s < C 17 (C 6 k).toNatClampNeg then vaX C (nI k) s else -11) else vaX C (nI k) s
def orS (C : St) (x : Int32) : Int32 := if coA C x < 0 then -1 else C 11 (coA C x).toNatClampNeg
theorem WF.kmm {nt : Nat} {C : St} (h : WF nt C) : C 31 0 = nI (km C) ∧ km C ≤ 40 ∧ ∀ q, q < km C → tok nt (C 30 q) := by
  obtain ⟨c, k, q1, q2, q3, q4, q5, q6, q7, q8, q9⟩ := h.hi
  have hk : k ≤ 40 := by
    have := ct2_le (C := C) (n := nt)
    have := h.n40
    omega
  have e : km C = k := by show (C 31 0).toNatClampNeg = k; rw [q2, nI_clamp (by omega)]
  rw [e]
  exact ⟨q2, hk, q9⟩
theorem co_trv {nt : Nat} {C : St} {x : Int32} (h : WF nt C) (hx : ¬ x < 0) : trv nt (coA C x) := by
  obtain ⟨q1, q2, q3⟩ := h.kmm
  unfold coA
  split
  · exact trv_null
  · rename_i c
    refine Or.inr (q3 _ ?_)
    rw [q1, ← nI_self hx] at c
    have hx2 : x.toNatClampNeg < 2 ^ 31 := by
      have := Int32.toInt_le x
      have e : Int32.maxValue.toInt = 2147483647 := by decide
      unfold Int32.toNatClampNeg
      omega
    refine Nat.not_le.mp (fun q => c (nI_le q hx2))
section B13
set_option maxHeartbeats 60000
variable {g : GT} {nt : Nat} {C M : St} {o : Int64} {t u : Int32} {K : MK} {R : Room} {Qf : QT} {kb nb : Nat} {h : Nat × Nat} {pc : Nat} {lv : List (Nat × Value)} {st : List Value}
theorem V_tabIn {dflt lo hi : Int} {offs : Array Int} {len : Nat} {x : Int32} {off : Int} {tgt : Nat} (hd : decode (kc K) pc = .ok (.tableswitch dflt lo hi offs, len)) (h1 : ¬ x.toInt < lo) (h2 : ¬ hi < x.toInt) (ho : offs[(x.toInt - lo).toNat]? = some off) (ht : (pc : Int) + off = (tgt : Int)) (k : V g K R Qf kb nb nt h C M o tgt lv st) : V g K R Qf kb nb nt h C M o pc lv (.int x :: st) := by
  intro p e s m args below meth c H locs k1 n1 ls X z1 z2 hR hS hl hc
  exact lv_tableIn X.1 X.2.1 hd h1 h2 ho ht (k p e s m args below meth c H locs k1 n1 ls X z1 z2 hR hS hl hc)
theorem V_tabOut {dflt lo hi : Int} {offs : Array Int} {len : Nat} {x : Int32} {tgt : Nat} (hd : decode (kc K) pc = .ok (.tableswitch dflt lo hi offs, len)) (h1 : x.toInt < lo ∨ hi < x.toInt) (ht : (pc : Int) + dflt = (tgt : Int)) (k : V g K R Qf kb nb nt h C M o tgt lv st) : V g K R Qf kb nb nt h C M o pc lv (.int x :: st) := by
  intro p e s m args below meth c H locs k1 n1 ls X z1 z2 hR hS hl hc
  exact lv_tableOut X.1 X.2.1 hd h1 ht (k p e s m args below meth c H locs k1 n1 ls X z1 z2 hR hS hl hc)
end B13
section B13
set_option maxHeartbeats 60000
variable {g : GT} {nt : Nat} {C M : St} {o : Int64} {t u : Int32}
theorem cm_139 (ht : tok nt t) {x p : Int32} {mc ms kb nb : Nat} (hk9 : kb ≤ mc) (hn9 : nb ≤ ms) (h : Nat × Nat) : V g K_X4_commit (kR K_X4_commit mc ms) (qM g mc ms nt (fun v9 C9 M9 o9 => v9 = some (.int (cmF C t).1) ∧ C9 = (cmF C t).2 ∧ M9 = M ∧ o9 = o) (fun _ _ _ _ => False)) kb nb nt h C M o 139 [(0, .ref (ad g 0)), (1, .int x), (2, .int p), (3, va_rf (trO g t))] [] := by
  refine V_aload_nt (dG D_X4_commit 73 rfl) rfl ?_
  refine gf_X4_147 rfl (dG D_X4_commit 74 rfl) (by assumption) ?_
  refine V_iconst (v := 3) (dG D_X4_commit 75 rfl) (by decide) ?_
  refine V_icmp_ne (tgt := 152) (dG D_X4_commit 76 rfl) (by decide) (fun c_144 => ?_) (fun c_144 => ?_)
  · skip
    refine V_iconst (v := 0) (dG D_X4_commit 79 rfl) (by decide) ?_
    exact V_iret (dG D_X4_commit 80 rfl) rfl hk9 hn9 ⟨by rw [show (cmF C t).1 = 0 from if_neg c_144], rfl, rfl, rfl⟩
  · skip
    refine V_bipush (v := -13) (dG D_X4_commit 77 rfl) (by decide) ?_
    refine V_goto (tgt := 153) (dG D_X4_commit 78 rfl) (by decide) ?_
    exact V_iret (dG D_X4_commit 80 rfl) rfl hk9 hn9 ⟨by rw [show (cmF C t).1 = -13 from if_pos c_144], rfl, rfl, rfl⟩
theorem cm_134 (ht : tok nt t) (hW : WF nt C) (h1 : C 15 t.toNatClampNeg = 1) {x p : Int32} {mc ms c0 : Nat} (h0 : c0 ≤ cap C) (hk9 : cap (decS C t) - c0 ≤ mc) (hn9 : 4 * (cap (decS C t) - c0) ≤ ms) (h : Nat × Nat) : V g K_X4_commit (kR K_X4_commit mc ms) (qM g mc ms nt (fun v9 C9 M9 o9 => v9 = some (.int (cmF (decS C t) t).1) ∧ C9 = (cmF (decS C t) t).2 ∧ M9 = M ∧ o9 = o) (fun _ _ _ _ => False)) (cap C - c0) (4 * (cap C - c0)) nt h C M o 134 [(0, .ref (ad g 0)), (1, .int x), (2, .int p), (3, va_rf (trO g t))] [] := by
  have hcd := cap_decS hW ht (by rw [h1]; decide)
  refine V_aload_n (dG D_X4_commit 70 rfl) rfl ?_
  refine V_aload_nt (dG D_X4_commit 71 rfl) rfl ?_
  refine R_nb1 (ok_decideStaged ht hW (by rw [h1]; decide)) lk_X4_185 (dG D_X4_commit 72 rfl) rcv_4 ⟨Nat.le_of_ble_eq_true rfl, Nat.le_of_ble_eq_true rfl⟩ ⟨by show cap C - c0 + (cap (decS C t) - cap C) ≤ mc; omega, by show 4 * (cap C - c0) + 4 * (cap (decS C t) - cap C) ≤ ms; omega⟩ (by first | exact Nat.le_of_ble_eq_true rfl | simp [cat_rf, cat_int, cat_ref]) (fun h => ?_)
  exact cm_139 ht (show cap C - c0 + (cap (decS C t) - cap C) ≤ mc by omega) (show 4 * (cap C - c0) + 4 * (cap (decS C t) - cap C) ≤ ms by omega) h
theorem cm_115 (ht : tok nt t) (hW : WF nt C) (h1 : C 15 t.toNatClampNeg = 1) {x p : Int32} {mc ms c0 : Nat} (h0 : c0 ≤ cap C) (hk9 : cap (cm1 C t p) - c0 ≤ mc) (hn9 : 4 * (cap (cm1 C t p) - c0) ≤ ms) (h : Nat × Nat) : V g K_X4_commit (kR K_X4_commit mc ms) (qM g mc ms nt (fun v9 C9 M9 o9 => v9 = some (.int (cmF (cm1 C t p) t).1) ∧ C9 = (cmF (cm1 C t p) t).2 ∧ M9 = M ∧ o9 = o) (fun _ _ _ _ => False)) (cap C - c0) (4 * (cap C - c0)) nt h C M o 115 [(0, .ref (ad g 0)), (1, .int x), (2, .int p), (3, va_rf (trO g t))] [] := by
  have hcd := (cm1_WF (p := p) hW ht (by rw [h1]; decide)).2
  refine V_iload_n (dG D_X4_commit 61 rfl) rfl ?_
  refine V_if_eq (tgt := 134) (dG D_X4_commit 62 rfl) (by decide) (fun c_116 => ?_) (fun c_116 => ?_)
  · rw [show cm1 C t p = decS C t from by simp only [cm1, if_pos c_116]] at hk9 hn9 ⊢
    exact cm_134 ht hW h1 h0 hk9 hn9 h
  · skip
    refine V_aload_nt (dG D_X4_commit 63 rfl) rfl ?_
    refine gf_X4_160 rfl (dG D_X4_commit 64 rfl) (by assumption) ?_
    refine V_if_eq (tgt := 134) (dG D_X4_commit 65 rfl) (by decide) (fun c_123 => ?_) (fun c_123 => ?_)
    · rw [show cm1 C t p = decS C t from by simp only [cm1, if_neg c_116, if_pos c_123]] at hk9 hn9 ⊢
      exact cm_134 ht hW h1 h0 hk9 hn9 h
    · skip
      refine V_aload_n (dG D_X4_commit 66 rfl) rfl ?_
      refine V_aload_nt (dG D_X4_commit 67 rfl) rfl ?_
      refine R_vb1 (ok_hasAllIntents ht hW.wo) lk_X4_182 (dG D_X4_commit 68 rfl) rcv_4 ⟨Nat.le_of_ble_eq_true rfl, Nat.le_of_ble_eq_true rfl⟩ ⟨by show cap C - c0 + 0 ≤ mc; omega, by show 4 * (cap C - c0) + 0 ≤ ms; omega⟩ (by first | exact Nat.le_of_ble_eq_true rfl | simp [cat_rf, cat_int, cat_ref]) (fun h => ?_)
      refine V_if_ne (tgt := 139) (dG D_X4_commit 69 rfl) (by decide) (fun c_131 => ?_) (fun c_131 => ?_)
      · rw [show cm1 C t p = C from by simp only [cm1, if_neg c_116, if_neg c_123, if_neg c_131]] at hk9 hn9 ⊢
        exact cm_139 ht hk9 hn9 h
      · rw [show cm1 C t p = decS C t from by simp only [cm1, if_neg c_116, if_neg c_123, if_pos c_131]] at hk9 hn9 ⊢
        exact cm_134 ht hW h1 h0 hk9 hn9 h
theorem cm_110 (ht : tok nt t) (hW : WF nt C) (h2 : C 15 t.toNatClampNeg ≠ 2) {x p : Int32} {mc ms c0 : Nat} (h0 : c0 ≤ cap C) (hk9 : cap (cm2 C t p) - c0 ≤ mc) (hn9 : 4 * (cap (cm2 C t p) - c0) ≤ ms) (h : Nat × Nat) : V g K_X4_commit (kR K_X4_commit mc ms) (qM g mc ms nt (fun v9 C9 M9 o9 => v9 = some (.int (cmF (cm2 C t p) t).1) ∧ C9 = (cmF (cm2 C t p) t).2 ∧ M9 = M ∧ o9 = o) (fun _ _ _ _ => False)) (cap C - c0) (4 * (cap C - c0)) nt h C M o 110 [(0, .ref (ad g 0)), (1, .int x), (2, .int p), (3, va_rf (trO g t))] [] := by
  refine V_aload_nt (dG D_X4_commit 58 rfl) rfl ?_
  refine V_iconst (v := 1) (dG D_X4_commit 59 rfl) (by decide) ?_
  refine pf_X4_147 rfl (dG D_X4_commit 60 rfl) (by assumption) ?_
  exact cm_115 (C := up C 15 t.toNatClampNeg 1) (c0 := c0) ht (WF_up15 hW h2 (by decide)) up_eq h0 hk9 hn9 h
theorem cm_77 (ht : tok nt t) (hW : WF nt C) (h2 : C 15 t.toNatClampNeg ≠ 2) {x p : Int32} {mc ms c0 : Nat} (h0 : c0 ≤ cap C) (hk9 : cap (cm3 C t p).2 - c0 ≤ mc) (hn9 : 4 * (cap (cm3 C t p).2 - c0) ≤ ms) (h : Nat × Nat) : V g K_X4_commit (kR K_X4_commit mc ms) (qM g mc ms nt (fun v9 C9 M9 o9 => v9 = some (.int (cm3 C t p).1) ∧ C9 = (cm3 C t p).2 ∧ M9 = M ∧ o9 = o) (fun _ _ _ _ => False)) (cap C - c0) (4 * (cap C - c0)) nt h C M o 77 [(0, .ref (ad g 0)), (1, .int x), (2, .int p), (3, va_rf (trO g t))] [] := by
  refine V_aload_nt (dG D_X4_commit 41 rfl) rfl ?_
  refine gf_X4_163 rfl (dG D_X4_commit 42 rfl) (by assumption) ?_
  refine V_aload_nt (dG D_X4_commit 43 rfl) rfl ?_
  refine gf_X4_172 rfl (dG D_X4_commit 44 rfl) (by assumption) ?_
  refine V_icmp_le (tgt := 110) (dG D_X4_commit 45 rfl) (by decide) (fun c_85 => ?_) (fun c_85 => ?_)
  · rw [show cm3 C t p = cmF (cm2 C t p) t from by simp only [cm3, if_pos c_85]] at hk9 hn9 ⊢
    exact cm_110 ht hW h2 h0 hk9 hn9 h
  · have hx : cap (refC C t (C 17 t.toNatClampNeg)) ≤ cap (cm3 C t p).2 := by
      unfold cm3
      rw [if_neg c_85]
      split
      · exact Nat.le_of_eq cap_res.symm
      · exact (cm2_WF (p := p) (WF_ref hW) ht (by rw [ref_15 hW ht]; exact h2)).2
    have hcr := cap_ref (t := t) (s := C 17 t.toNatClampNeg) hW
    refine V_aload_n (dG D_X4_commit 46 rfl) rfl ?_
    refine V_aload_nt (dG D_X4_commit 47 rfl) rfl ?_
    refine V_aload_nt (dG D_X4_commit 48 rfl) rfl ?_
    refine gf_X4_163 rfl (dG D_X4_commit 49 rfl) (by assumption) ?_
    refine R_vb2 (ok_refreshReads ht hW) lk_X4_175 (dG D_X4_commit 50 rfl) rcv_4 ⟨Nat.le_of_ble_eq_true rfl, Nat.le_of_ble_eq_true rfl⟩ ⟨by show cap C - c0 + (cap (refC C t (C 17 t.toNatClampNeg)) - cap C) ≤ mc; omega, by show 4 * (cap C - c0) + 4 * (cap (refC C t (C 17 t.toNatClampNeg)) - cap C) ≤ ms; omega⟩ (by first | exact Nat.le_of_ble_eq_true rfl | simp [cat_rf, cat_int, cat_ref]) (fun h => ?_)
    refine V_if_ne (tgt := 110) (dG D_X4_commit 51 rfl) (by decide) (fun c_97 => ?_) (fun c_97 => ?_)
    · rw [show cm3 C t p = cmF (cm2 (refC C t (C 17 t.toNatClampNeg)) t p) t from by simp only [cm3, if_neg c_85, if_neg c_97]] at hk9 hn9 ⊢
      refine V_mono (kb' := cap (refC C t (C 17 t.toNatClampNeg)) - c0) (nb' := 4 * (cap (refC C t (C 17 t.toNatClampNeg)) - c0)) (show cap C - c0 + (cap (refC C t (C 17 t.toNatClampNeg)) - cap C) ≤ _ by omega) (show 4 * (cap C - c0) + 4 * (cap (refC C t (C 17 t.toNatClampNeg)) - cap C) ≤ _ by omega) ?_
      exact cm_110 ht (WF_ref hW) (by rw [ref_15 hW ht]; exact h2) (by omega) hk9 hn9 h
    · rw [show cm3 C t p = (-12, resC (refC C t (C 17 t.toNatClampNeg)) t ((refC C t (C 17 t.toNatClampNeg)) 17 t.toNatClampNeg)) from by simp only [cm3, if_neg c_85, if_pos c_97]]
      refine V_aload_n (dG D_X4_commit 52 rfl) rfl ?_
      refine V_aload_nt (dG D_X4_commit 53 rfl) rfl ?_
      refine V_aload_nt (dG D_X4_commit 54 rfl) rfl ?_
      refine gf_X4_163 rfl (dG D_X4_commit 55 rfl) (by assumption) ?_
      refine R_vb2 (ok_restartAt ht (C := refC C t (C 17 t.toNatClampNeg)) (WF_ref hW).wo) lk_X4_179 (dG D_X4_commit 56 rfl) rcv_4 ⟨Nat.le_of_ble_eq_true rfl, Nat.le_of_ble_eq_true rfl⟩ ⟨by show cap C - c0 + (cap (refC C t (C 17 t.toNatClampNeg)) - cap C) + 0 ≤ mc; omega, by show 4 * (cap C - c0) + 4 * (cap (refC C t (C 17 t.toNatClampNeg)) - cap C) + 0 ≤ ms; omega⟩ (by first | exact Nat.le_of_ble_eq_true rfl | simp [cat_rf, cat_int, cat_ref]) (fun h => ?_)
      exact V_iret (dG D_X4_commit 57 rfl) rfl (show cap C - c0 + (cap (refC C t (C 17 t.toNatClampNeg)) - cap C) + 0 ≤ mc by omega) (show 4 * (cap C - c0) + 4 * (cap (refC C t (C 17 t.toNatClampNeg)) - cap C) + 0 ≤ ms by omega) ⟨rfl, rfl, rfl, rfl⟩
theorem ok_commit (ht : tok nt t) (hW : WF nt C) {p : Int32} : RET g K_X4_commit (cap (cmS C t p).2 - cap C) (4 * (cap (cmS C t p).2 - cap C)) [.ref (ad g 0), .int t, .int p] nt C M o (some (.int (cmS C t p).1)) (cmS C t p).2 M o := by
  refine MT_of (by decide +kernel) rfl rfl (Nat.le_of_ble_eq_true rfl) (by simp [cat_rf, cat_int, cat_ref]) (fun h => ?_)
  have hi40 := hW.n40
  have h33 : C 33 t.toNatClampNeg = t := (hW.x33 _ ht.2).trans (nI_self ht.1)
  have hin : inr t 40 t.toNatClampNeg := inr_of (fun q => q.elim ht.1 (fun z => absurd ht.2 (by omega)))
  have hlt : t < C 10 0 := by have q := hW.ltb ht.2; rw [nI_self ht.1] at q; exact q
  refine V_aload_n (dG D_X4_commit 0 rfl) rfl ?_
  refine V_iload_n (dG D_X4_commit 1 rfl) rfl ?_
  refine R_nb1 (ok_needTransaction ht.1 hlt) lk_X4_123 (dG D_X4_commit 2 rfl) rcv_4 ⟨Nat.le_of_ble_eq_true rfl, Nat.le_of_ble_eq_true rfl⟩ ⟨Nat.zero_le _, Nat.zero_le _⟩ (by first | exact Nat.le_of_ble_eq_true rfl | simp [cat_rf, cat_int, cat_ref]) (fun h => ?_)
  refine V_aload_n (dG D_X4_commit 3 rfl) rfl ?_
  refine gf_X4_23 rfl (dG D_X4_commit 4 rfl) ?_
  refine V_iload_n (dG D_X4_commit 5 rfl) rfl ?_
  refine aald_trs (dG D_X4_commit 6 rfl) hin ?_
  rw [h33]
  refine V_astore_nt (dG D_X4_commit 7 rfl) (Nat.le_of_ble_eq_true rfl) ?_
  refine V_aload_nt (dG D_X4_commit 8 rfl) rfl ?_
  refine gf_X4_147 rfl (dG D_X4_commit 9 rfl) (by assumption) ?_
  refine V_if_eq (tgt := 22) (dG D_X4_commit 10 rfl) (by decide) (fun c_16 => ?_) (fun c_16 => ?_)
  · skip
    refine V_aload_n (dG D_X4_commit 13 rfl) rfl ?_
    refine gf_X4_11 rfl (dG D_X4_commit 14 rfl) ?_
    refine V_aload_nt (dG D_X4_commit 15 rfl) rfl ?_
    refine gf_X4_150 rfl (dG D_X4_commit 16 rfl) (by assumption) ?_
    refine aald_nodes (dG D_X4_commit 17 rfl) (inr_of (hW.wh _ ht.2)) ?_
    refine gf_X4_76 rfl (dG D_X4_commit 18 rfl) (vin_lt (hW.wh _ ht.2)) ?_
    refine V_if_ne (tgt := 45) (dG D_X4_commit 19 rfl) (by decide) (fun c_34 => ?_) (fun c_34 => ?_)
    · rw [show cmS C t p = (-14, C) from by simp only [cmS, if_pos c_16, if_neg c_34]]
      refine V_bipush (v := -14) (dG D_X4_commit 24 rfl) (by decide) ?_
      exact V_iret (dG D_X4_commit 25 rfl) rfl (Nat.zero_le _) (Nat.zero_le _) ⟨rfl, rfl, rfl, rfl⟩
    · skip
      refine V_aload_n (dG D_X4_commit 20 rfl) rfl ?_
      refine V_aload_nt (dG D_X4_commit 21 rfl) rfl ?_
      refine R_vb1 (ok_writesOnDownNode ht hW.wn) lk_X4_153 (dG D_X4_commit 22 rfl) rcv_4 ⟨Nat.le_of_ble_eq_true rfl, Nat.le_of_ble_eq_true rfl⟩ ⟨Nat.zero_le _, Nat.zero_le _⟩ (by first | exact Nat.le_of_ble_eq_true rfl | simp [cat_rf, cat_int, cat_ref]) (fun h => ?_)
      refine V_if_eq (tgt := 48) (dG D_X4_commit 23 rfl) (by decide) (fun c_42 => ?_) (fun c_42 => ?_)
      · rw [show cmS C t p = cm4 (up C 19 t.toNatClampNeg (-1)) t p from by simp only [cmS, if_pos c_16, if_pos c_34, if_pos c_42]]
        have hW1 : WF nt (up C 19 t.toNatClampNeg (-1)) := WF_up19 hW trv_null
        have h21 : (up C 19 t.toNatClampNeg (-1)) 15 t.toNatClampNeg ≠ 2 := by rw [up_row (by decide), c_16]; decide
        refine V_aload_nt (dG D_X4_commit 26 rfl) rfl ?_
        refine V_nullt (dG D_X4_commit 27 rfl) ?_
        refine pf_X4_157 rfl (dG D_X4_commit 28 rfl) (by assumption) ?_
        refine V_aload_nt (dG D_X4_commit 29 rfl) rfl ?_
        refine gf_X4_160 rfl (dG D_X4_commit 30 rfl) (by assumption) ?_
        refine V_if_eq (tgt := 77) (dG D_X4_commit 31 rfl) (by decide) (fun c_57 => ?_) (fun c_57 => ?_)
        · rw [show cm4 (up C 19 t.toNatClampNeg (-1)) t p = cm3 (up C 19 t.toNatClampNeg (-1)) t p from by simp only [cm4, if_pos c_57]]
          refine V_mono (kb' := cap (up C 19 t.toNatClampNeg (-1)) - cap C) (nb' := 4 * (cap (up C 19 t.toNatClampNeg (-1)) - cap C)) (Nat.zero_le _) (Nat.zero_le _) ?_
          exact cm_77 (C := up C 19 t.toNatClampNeg (-1)) (c0 := cap C) ht hW1 h21 (Nat.le_refl _) (Nat.le_refl _) (Nat.le_refl _) h
        · rw [show cm4 (up C 19 t.toNatClampNeg (-1)) t p = cm3 (up (up C 19 t.toNatClampNeg (-1)) 17 t.toNatClampNeg (mx ((up C 19 t.toNatClampNeg (-1)) 17 t.toNatClampNeg) (closedS (up C 19 t.toNatClampNeg (-1)) + 1))) t p from by simp only [cm4, if_neg c_57]]
          refine V_aload_nt (dG D_X4_commit 32 rfl) rfl ?_
          refine V_aload_nt (dG D_X4_commit 33 rfl) rfl ?_
          refine gf_X4_163 rfl (dG D_X4_commit 34 rfl) (by assumption) ?_
          refine V_aload_n (dG D_X4_commit 35 rfl) rfl ?_
          refine R_vb0 ok_closedStamp lk_X4_72 (dG D_X4_commit 36 rfl) rcv_4 ⟨Nat.le_of_ble_eq_true rfl, Nat.le_of_ble_eq_true rfl⟩ ⟨Nat.zero_le _, Nat.zero_le _⟩ (by first | exact Nat.le_of_ble_eq_true rfl | simp [cat_rf, cat_int, cat_ref]) (fun h => ?_)
          refine V_iconst (v := 1) (dG D_X4_commit 37 rfl) (by decide) ?_
          refine V_iadd (dG D_X4_commit 38 rfl) ?_
          refine V_max w_127 (dG D_X4_commit 39 rfl) ⟨(Nat.le_of_ble_eq_true rfl), (by first | exact Nat.le_of_ble_eq_true rfl | (simp only [List.map, List.sum, cat_rf, cat_int, cat_ref]; exact Nat.le_of_ble_eq_true rfl))⟩ ⟨Nat.zero_le _, Nat.zero_le _⟩ ?_
          refine pf_X4_163 rfl (dG D_X4_commit 40 rfl) (by assumption) ?_
          refine V_mono (kb' := cap (up (up C 19 t.toNatClampNeg (-1)) 17 t.toNatClampNeg (mx ((up C 19 t.toNatClampNeg (-1)) 17 t.toNatClampNeg) (closedS (up C 19 t.toNatClampNeg (-1)) + 1))) - cap C) (nb' := 4 * (cap (up (up C 19 t.toNatClampNeg (-1)) 17 t.toNatClampNeg (mx ((up C 19 t.toNatClampNeg (-1)) 17 t.toNatClampNeg) (closedS (up C 19 t.toNatClampNeg (-1)) + 1))) - cap C)) (Nat.zero_le _) (Nat.zero_le _) ?_
          exact cm_77 (C := up (up C 19 t.toNatClampNeg (-1)) 17 t.toNatClampNeg (mx ((up C 19 t.toNatClampNeg (-1)) 17 t.toNatClampNeg) (closedS (up C 19 t.toNatClampNeg (-1)) + 1))) (c0 := cap C) ht (WF_up17 hW1) h21 (Nat.le_refl _) (Nat.le_refl _) (Nat.le_refl _) h
      · rw [show cmS C t p = (-14, C) from by simp only [cmS, if_pos c_16, if_pos c_34, if_neg c_42]]
        refine V_bipush (v := -14) (dG D_X4_commit 24 rfl) (by decide) ?_
        exact V_iret (dG D_X4_commit 25 rfl) rfl (Nat.zero_le _) (Nat.zero_le _) ⟨rfl, rfl, rfl, rfl⟩
  · rw [show cmS C t p = (-13, C) from if_neg c_16]
    refine V_bipush (v := -13) (dG D_X4_commit 11 rfl) (by decide) ?_
    exact V_iret (dG D_X4_commit 12 rfl) rfl (Nat.zero_le _) (Nat.zero_le _) ⟨rfl, rfl, rfl, rfl⟩
theorem ok_abort {i : Nat} (hi : i < nt) (hW : WF nt C) : RET g K_X4_abort 0 0 [.ref (ad g 0), .int (nI i)] nt C M o (some (.int (if C 15 (nI i).toNatClampNeg = 0 then (0, up C 15 (nI i).toNatClampNeg 3) else (-13, C) : Int32 × St).1)) (if C 15 (nI i).toNatClampNeg = 0 then (0, up C 15 (nI i).toNatClampNeg 3) else (-13, C) : Int32 × St).2 M o := by
  refine MT_of (by decide +kernel) rfl rfl (Nat.le_of_ble_eq_true rfl) (by simp [cat_rf, cat_int, cat_ref]) (fun h => ?_)
  have hi40 := hW.n40
  have ht : tok nt (nI i) := tok_nI hi hi40
  refine V_aload_n (dG D_X4_abort 0 rfl) rfl ?_
  refine V_iload_n (dG D_X4_abort 1 rfl) rfl ?_
  refine R_nb1 (ok_needTransaction (hW.pos hi) (hW.ltb hi)) lk_X4_123 (dG D_X4_abort 2 rfl) rcv_4 ⟨Nat.le_of_ble_eq_true rfl, Nat.le_of_ble_eq_true rfl⟩ ⟨(Nat.le_of_ble_eq_true rfl), (Nat.le_of_ble_eq_true rfl)⟩ (by first | exact Nat.le_of_ble_eq_true rfl | simp [cat_rf, cat_int, cat_ref]) (fun h => ?_)
  refine V_aload_n (dG D_X4_abort 3 rfl) rfl ?_
  refine gf_X4_23 rfl (dG D_X4_abort 4 rfl) ?_
  refine V_iload_n (dG D_X4_abort 5 rfl) rfl ?_
  refine aald_trs (dG D_X4_abort 6 rfl) (show inr (nI i) 40 i from inr_nI (by omega) (by decide)) ?_
  rw [hW.x33 i hi]
  refine gf_X4_147 rfl (dG D_X4_abort 7 rfl) (by assumption) ?_
  refine V_if_eq (tgt := 20) (dG D_X4_abort 8 rfl) (by decide) (fun c_14 => ?_) (fun c_14 => ?_)
  · rw [if_pos c_14]
    refine V_aload_n (dG D_X4_abort 11 rfl) rfl ?_
    refine gf_X4_23 rfl (dG D_X4_abort 12 rfl) ?_
    refine V_iload_n (dG D_X4_abort 13 rfl) rfl ?_
    refine aald_trs (dG D_X4_abort 14 rfl) (show inr (nI i) 40 i from inr_nI (by omega) (by decide)) ?_
    rw [hW.x33 i hi]
    refine V_iconst (v := 3) (dG D_X4_abort 15 rfl) (by decide) ?_
    refine pf_X4_147 rfl (dG D_X4_abort 16 rfl) (by assumption) ?_
    refine V_iconst (v := 0) (dG D_X4_abort 17 rfl) (by decide) ?_
    exact V_iret (dG D_X4_abort 18 rfl) rfl (Nat.le_of_ble_eq_true rfl) (Nat.le_of_ble_eq_true rfl) ⟨rfl, rfl, rfl, rfl⟩
  · rw [if_neg c_14]
    refine V_bipush (v := -13) (dG D_X4_abort 9 rfl) (by decide) ?_
    exact V_iret (dG D_X4_abort 10 rfl) rfl (Nat.le_of_ble_eq_true rfl) (Nat.le_of_ble_eq_true rfl) ⟨rfl, rfl, rfl, rfl⟩
theorem ok_beat {i : Nat} (hi : i < nt) (hW : WF nt C) : RET g K_X4_beat 0 0 [.ref (ad g 0), .int (nI i)] nt C M o (some (.int (if C 15 (nI i).toNatClampNeg = 0 then (0, up C 18 (nI i).toNatClampNeg (C 0 0)) else (-13, C) : Int32 × St).1)) (if C 15 (nI i).toNatClampNeg = 0 then (0, up C 18 (nI i).toNatClampNeg (C 0 0)) else (-13, C) : Int32 × St).2 M o := by
  refine MT_of (by decide +kernel) rfl rfl (Nat.le_of_ble_eq_true rfl) (by simp [cat_rf, cat_int, cat_ref]) (fun h => ?_)
  have hi40 := hW.n40
  have ht : tok nt (nI i) := tok_nI hi hi40
  refine V_aload_n (dG D_X4_beat 0 rfl) rfl ?_
  refine V_iload_n (dG D_X4_beat 1 rfl) rfl ?_
  refine R_nb1 (ok_needTransaction (hW.pos hi) (hW.ltb hi)) lk_X4_123 (dG D_X4_beat 2 rfl) rcv_4 ⟨Nat.le_of_ble_eq_true rfl, Nat.le_of_ble_eq_true rfl⟩ ⟨(Nat.le_of_ble_eq_true rfl), (Nat.le_of_ble_eq_true rfl)⟩ (by first | exact Nat.le_of_ble_eq_true rfl | simp [cat_rf, cat_int, cat_ref]) (fun h => ?_)
  refine V_aload_n (dG D_X4_beat 3 rfl) rfl ?_
  refine gf_X4_23 rfl (dG D_X4_beat 4 rfl) ?_
  refine V_iload_n (dG D_X4_beat 5 rfl) rfl ?_
  refine aald_trs (dG D_X4_beat 6 rfl) (show inr (nI i) 40 i from inr_nI (by omega) (by decide)) ?_
  rw [hW.x33 i hi]
  refine gf_X4_147 rfl (dG D_X4_beat 7 rfl) (by assumption) ?_
  refine V_if_eq (tgt := 20) (dG D_X4_beat 8 rfl) (by decide) (fun c_14 => ?_) (fun c_14 => ?_)
  · rw [if_pos c_14]
    refine V_aload_n (dG D_X4_beat 11 rfl) rfl ?_
    refine gf_X4_23 rfl (dG D_X4_beat 12 rfl) ?_
    refine V_iload_n (dG D_X4_beat 13 rfl) rfl ?_
    refine aald_trs (dG D_X4_beat 14 rfl) (show inr (nI i) 40 i from inr_nI (by omega) (by decide)) ?_
    rw [hW.x33 i hi]
    refine V_aload_n (dG D_X4_beat 15 rfl) rfl ?_
    refine gf_X4_47 rfl (dG D_X4_beat 16 rfl) ?_
    refine pf_X4_189 rfl (dG D_X4_beat 17 rfl) (by assumption) ?_
    refine V_iconst (v := 0) (dG D_X4_beat 18 rfl) (by decide) ?_
    exact V_iret (dG D_X4_beat 19 rfl) rfl (Nat.le_of_ble_eq_true rfl) (Nat.le_of_ble_eq_true rfl) ⟨rfl, rfl, rfl, rfl⟩
  · rw [if_neg c_14]
    refine V_bipush (v := -13) (dG D_X4_beat 9 rfl) (by decide) ?_
    exact V_iret (dG D_X4_beat 10 rfl) rfl (Nat.le_of_ble_eq_true rfl) (Nat.le_of_ble_eq_true rfl) ⟨rfl, rfl, rfl, rfl⟩
theorem ok_recover {i : Nat} (hi : i < nt) (hW : WF nt C) : RET g K_X4_recover (cap (rcS C (nI i)) - cap C) (4 * (cap (rcS C (nI i)) - cap C)) [.ref (ad g 0), .int (nI i)] nt C M o (some (.int (rcS C (nI i) 15 (nI i).toNatClampNeg))) (rcS C (nI i)) M o := by
  refine MT_of (by decide +kernel) rfl rfl (Nat.le_of_ble_eq_true rfl) (by simp [cat_rf, cat_int, cat_ref]) (fun h => ?_)
  have hi40 := hW.n40
  have ht : tok nt (nI i) := tok_nI hi hi40
  refine V_aload_n (dG D_X4_recover 0 rfl) rfl ?_
  refine V_iload_n (dG D_X4_recover 1 rfl) rfl ?_
  refine R_nb1 (ok_needTransaction (hW.pos hi) (hW.ltb hi)) lk_X4_123 (dG D_X4_recover 2 rfl) rcv_4 ⟨Nat.le_of_ble_eq_true rfl, Nat.le_of_ble_eq_true rfl⟩ ⟨Nat.zero_le _, Nat.zero_le _⟩ (by first | exact Nat.le_of_ble_eq_true rfl | simp [cat_rf, cat_int, cat_ref]) (fun h => ?_)
  refine V_aload_n (dG D_X4_recover 3 rfl) rfl ?_
  refine gf_X4_23 rfl (dG D_X4_recover 4 rfl) ?_
  refine V_iload_n (dG D_X4_recover 5 rfl) rfl ?_
  refine aald_trs (dG D_X4_recover 6 rfl) (show inr (nI i) 40 i from inr_nI (by omega) (by decide)) ?_
  rw [hW.x33 i hi]
  refine V_astore_nt (dG D_X4_recover 7 rfl) (Nat.le_of_ble_eq_true rfl) ?_
  refine V_aload_nt (dG D_X4_recover 8 rfl) rfl ?_
  refine gf_X4_147 rfl (dG D_X4_recover 9 rfl) (by assumption) ?_
  refine V_iconst (v := 1) (dG D_X4_recover 10 rfl) (by decide) ?_
  refine V_icmp_ne (tgt := 25) (dG D_X4_recover 11 rfl) (by decide) (fun c_17 => ?_) (fun c_17 => ?_)
  · rw [show rcS C (nI i) = C from if_neg c_17]
    refine V_aload_nt (dG D_X4_recover 15 rfl) rfl ?_
    refine gf_X4_147 rfl (dG D_X4_recover 16 rfl) (by assumption) ?_
    exact V_iret (dG D_X4_recover 17 rfl) rfl (by first | exact Nat.zero_le _ | (show 0 + 0 + _ ≤ _; omega)) (by first | exact Nat.zero_le _ | (show 0 + 0 + _ ≤ _; omega)) ⟨rfl, rfl, rfl, rfl⟩
  · rw [show rcS C (nI i) = decS C (nI i) from if_pos c_17]
    refine V_aload_n (dG D_X4_recover 12 rfl) rfl ?_
    refine V_aload_nt (dG D_X4_recover 13 rfl) rfl ?_
    refine R_nb1 (ok_decideStaged ht hW (by rw [c_17]; decide)) lk_X4_185 (dG D_X4_recover 14 rfl) rcv_4 ⟨Nat.le_of_ble_eq_true rfl, Nat.le_of_ble_eq_true rfl⟩ ⟨by show 0 + 0 + _ ≤ cap (decS C (nI i)) - cap C; omega, by show 0 + 0 + _ ≤ 4 * (cap (decS C (nI i)) - cap C); omega⟩ (by first | exact Nat.le_of_ble_eq_true rfl | simp [cat_rf, cat_int, cat_ref]) (fun h => ?_)
    refine V_aload_nt (dG D_X4_recover 15 rfl) rfl ?_
    refine gf_X4_147 rfl (dG D_X4_recover 16 rfl) (by assumption) ?_
    exact V_iret (dG D_X4_recover 17 rfl) rfl (by first | exact Nat.zero_le _ | (show 0 + 0 + _ ≤ _; omega)) (by first | exact Nat.zero_le _ | (show 0 + 0 + _ ≤ _; omega)) ⟨rfl, rfl, rfl, rfl⟩
theorem th_commit {x : Int32} {y : Int32} (h0 : x < 0 ∨ ¬ x < C 10 0) : THR g K_X4_commit 1 6 [.ref (ad g 0), .int x, .int y] nt C M o "java/lang/IndexOutOfBoundsException" := by
  refine MT_of (by decide +kernel) rfl rfl (Nat.le_of_ble_eq_true rfl) (by simp [cat_rf, cat_int, cat_ref]) (fun h => ?_)
  refine V_aload_n (dG D_X4_commit 0 rfl) rfl ?_
  refine V_iload_n (dG D_X4_commit 1 rfl) rfl ?_
  exact T_b1 (th_needTransaction h0) lk_X4_123 (dG D_X4_commit 2 rfl) rcv_4 ⟨Nat.le_of_ble_eq_true rfl, Nat.le_of_ble_eq_true rfl⟩ ⟨(Nat.le_of_ble_eq_true rfl), (Nat.le_of_ble_eq_true rfl)⟩ (by first | exact Nat.le_of_ble_eq_true rfl | simp [cat_rf, cat_int, cat_ref]) (fun h => VX_out rfl (Nat.le_of_ble_eq_true rfl) (Nat.le_of_ble_eq_true rfl) ⟨rfl, rfl, rfl, rfl⟩)
theorem th_abort {x : Int32} (h0 : x < 0 ∨ ¬ x < C 10 0) : THR g K_X4_abort 1 6 [.ref (ad g 0), .int x] nt C M o "java/lang/IndexOutOfBoundsException" := by
  refine MT_of (by decide +kernel) rfl rfl (Nat.le_of_ble_eq_true rfl) (by simp [cat_rf, cat_int, cat_ref]) (fun h => ?_)
  refine V_aload_n (dG D_X4_abort 0 rfl) rfl ?_
  refine V_iload_n (dG D_X4_abort 1 rfl) rfl ?_
  exact T_b1 (th_needTransaction h0) lk_X4_123 (dG D_X4_abort 2 rfl) rcv_4 ⟨Nat.le_of_ble_eq_true rfl, Nat.le_of_ble_eq_true rfl⟩ ⟨(Nat.le_of_ble_eq_true rfl), (Nat.le_of_ble_eq_true rfl)⟩ (by first | exact Nat.le_of_ble_eq_true rfl | simp [cat_rf, cat_int, cat_ref]) (fun h => VX_out rfl (Nat.le_of_ble_eq_true rfl) (Nat.le_of_ble_eq_true rfl) ⟨rfl, rfl, rfl, rfl⟩)
theorem th_beat {x : Int32} (h0 : x < 0 ∨ ¬ x < C 10 0) : THR g K_X4_beat 1 6 [.ref (ad g 0), .int x] nt C M o "java/lang/IndexOutOfBoundsException" := by
  refine MT_of (by decide +kernel) rfl rfl (Nat.le_of_ble_eq_true rfl) (by simp [cat_rf, cat_int, cat_ref]) (fun h => ?_)
  refine V_aload_n (dG D_X4_beat 0 rfl) rfl ?_
  refine V_iload_n (dG D_X4_beat 1 rfl) rfl ?_
  exact T_b1 (th_needTransaction h0) lk_X4_123 (dG D_X4_beat 2 rfl) rcv_4 ⟨Nat.le_of_ble_eq_true rfl, Nat.le_of_ble_eq_true rfl⟩ ⟨(Nat.le_of_ble_eq_true rfl), (Nat.le_of_ble_eq_true rfl)⟩ (by first | exact Nat.le_of_ble_eq_true rfl | simp [cat_rf, cat_int, cat_ref]) (fun h => VX_out rfl (Nat.le_of_ble_eq_true rfl) (Nat.le_of_ble_eq_true rfl) ⟨rfl, rfl, rfl, rfl⟩)
theorem th_recover {x : Int32} (h0 : x < 0 ∨ ¬ x < C 10 0) : THR g K_X4_recover 1 6 [.ref (ad g 0), .int x] nt C M o "java/lang/IndexOutOfBoundsException" := by
  refine MT_of (by decide +kernel) rfl rfl (Nat.le_of_ble_eq_true rfl) (by simp [cat_rf, cat_int, cat_ref]) (fun h => ?_)
  refine V_aload_n (dG D_X4_recover 0 rfl) rfl ?_
  refine V_iload_n (dG D_X4_recover 1 rfl) rfl ?_
  exact T_b1 (th_needTransaction h0) lk_X4_123 (dG D_X4_recover 2 rfl) rcv_4 ⟨Nat.le_of_ble_eq_true rfl, Nat.le_of_ble_eq_true rfl⟩ ⟨(Nat.le_of_ble_eq_true rfl), (Nat.le_of_ble_eq_true rfl)⟩ (by first | exact Nat.le_of_ble_eq_true rfl | simp [cat_rf, cat_int, cat_ref]) (fun h => VX_out rfl (Nat.le_of_ble_eq_true rfl) (Nat.le_of_ble_eq_true rfl) ⟨rfl, rfl, rfl, rfl⟩)
end B13
