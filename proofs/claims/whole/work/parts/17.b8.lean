/-! class: meeting, waiting, asking, restarting -/
def m1S (C : St) (u : Int32) : St := if C 15 u.toNatClampNeg = 1 then decS C u else C
def m2S (C : St) (u : Int32) : St := if C 15 u.toNatClampNeg = 0 then (if vanB C u.toNatClampNeg (C 0 0) = 0 then C else up C 15 u.toNatClampNeg 3) else C
def m3S (C : St) (k : Nat) (u : Int32) : St := if C 15 u.toNatClampNeg = 3 then up C 6 k (-1) else C
def mrS (C : St) (u : Int32) : Int32 := if C 15 u.toNatClampNeg = 0 then u else -1
def meetC (C : St) (t : Int32) (k : Nat) : St := if C 6 k < 0 then C else if C 6 k = t then C else m3S (m2S (m1S C (C 6 k)) (C 6 k)) k (C 6 k)
def meetR (C : St) (t : Int32) (k : Nat) : Int32 := if C 6 k < 0 then -1 else if C 6 k = t then -1 else mrS (m3S (m2S (m1S C (C 6 k)) (C 6 k)) k (C 6 k)) (C 6 k)
theorem cap_m1 {nt : Nat} {C : St} {u : Int32} (h : WF nt C) (hu : tok nt u) : cap C ≤ cap (m1S C u) := by
  unfold m1S
  split
  · rename_i e
    exact cap_decS h hu (by rw [e]; decide)
  · exact Nat.le_refl _
theorem WF_m1 {nt : Nat} {C : St} {u : Int32} (h : WF nt C) (hu : tok nt u) : WF nt (m1S C u) := by
  unfold m1S
  split
  · rename_i e
    exact WF_dec h hu (by rw [e]; decide)
  · exact h
theorem cap_m2 {C : St} {u : Int32} : cap (m2S C u) = cap C := by
  unfold m2S
  split
  · split
    · rfl
    · unfold cap; rw [up_row (by decide)]
  · rfl
theorem WF_m2 {nt : Nat} {C : St} {u : Int32} (h : WF nt C) : WF nt (m2S C u) := by
  unfold m2S
  split
  · rename_i e
    split
    · exact h
    · exact WF_up15 h (by rw [e]; decide) (by decide)
  · exact h
theorem cap_m3 {C : St} {k : Nat} {u : Int32} : cap (m3S C k u) = cap C := by
  unfold m3S
  split
  · unfold cap; rw [up_row (by decide)]
  · rfl
theorem WF_m3 {nt : Nat} {C : St} {k : Nat} {u : Int32} (h : WF nt C) : WF nt (m3S C k u) := by
  unfold m3S
  split
  · exact WF_up6 h trv_null
  · exact h
theorem cap_meet {nt : Nat} {C : St} {t : Int32} {k : Nat} (h : WF nt C) (hk : k < 32) : cap C ≤ cap (meetC C t k) := by
  unfold meetC
  split
  · exact Nat.le_refl _
  · rename_i h1
    split
    · exact Nat.le_refl _
    · rw [cap_m3, cap_m2]
      exact cap_m1 h (trv_tok (h.wo k hk) h1)
theorem WF_meet {nt : Nat} {C : St} {t : Int32} {k : Nat} (h : WF nt C) (hk : k < 32) : WF nt (meetC C t k) := by
  unfold meetC
  split
  · exact h
  · rename_i h1
    split
    · exact h
    · exact WF_m3 (WF_m2 (WF_m1 h (trv_tok (h.wo k hk) h1)))
theorem meetR_trv {nt : Nat} {C : St} {t : Int32} {k : Nat} (h : WF nt C) (hk : k < 32) : trv nt (meetR C t k) := by
  unfold meetR
  split
  · exact trv_null
  · split
    · exact trv_null
    · unfold mrS
      split
      · exact h.wo k hk
      · exact trv_null
def viL (C : St) (t : Int32) : Nat → Int32 → Int32 → Int32
  | 0, v, x => if x = t then v else -1
  | n + 1, v, x => if x < 0 then (if x = t then v else -1) else if x = t then v else viL C t n (if ybB C x.toNatClampNeg v.toNatClampNeg = 0 then v else x) (wfS C x.toNatClampNeg)
def vicS (C : St) (t : Int32) : Int32 := viL C t 40 t (wfS C t.toNatClampNeg)
theorem wf_trv {nt : Nat} {C : St} {i : Nat} (h : ∀ i, i < nt → trv nt (C 19 i)) (hi : i < nt) : trv nt (wfS C i) := by
  unfold wfS
  split
  · exact h i hi
  · exact trv_null
theorem viL_trv {nt : Nat} {C : St} {t : Int32} (h : ∀ i, i < nt → trv nt (C 19 i)) : ∀ {n : Nat} {v x : Int32}, tok nt v → trv nt x → trv nt (viL C t n v x)
  | 0, v, x, hv, _ => by
    unfold viL
    split
    · exact Or.inr hv
    · exact trv_null
  | n + 1, v, x, hv, hx => by
    unfold viL
    split
    · split
      · exact Or.inr hv
      · exact trv_null
    · rename_i h1
      split
      · exact Or.inr hv
      · have hx2 := trv_tok hx h1
        refine viL_trv h ?_ (wf_trv h hx2.2)
        split
        · exact hv
        · exact hx2
theorem vic_trv {nt : Nat} {C : St} {t : Int32} (h : ∀ i, i < nt → trv nt (C 19 i)) (ht : tok nt t) : trv nt (vicS C t) := viL_trv h ht (wf_trv h ht.2)
def waC (C : St) (t u : Int32) : St := if vicS (up C 19 t.toNatClampNeg u) t < 0 then up C 19 t.toNatClampNeg u else up (up (up C 19 t.toNatClampNeg u) 19 t.toNatClampNeg (-1)) 15 (vicS (up C 19 t.toNatClampNeg u) t).toNatClampNeg 3
def waR (C : St) (t u : Int32) : Int32 := if vicS (up C 19 t.toNatClampNeg u) t < 0 then -11 else if vicS (up C 19 t.toNatClampNeg u) t = t then -13 else -99
def askS (C : St) (t : Int32) (n : Nat) : St := if bI (bt (C 22 t.toNatClampNeg) n) = 0 then noteClockS (tellS (meetS (up C 19 t.toNatClampNeg (-1)) n (C 16 t.toNatClampNeg)) n (C 0 0)) t.toNatClampNeg n (tellS (meetS (up C 19 t.toNatClampNeg (-1)) n (C 16 t.toNatClampNeg)) n (C 0 0) 2 n) else meetS (up C 19 t.toNatClampNeg (-1)) n (C 16 t.toNatClampNeg)
def refS (C : St) (t k : Nat) : Int32 := if C 15 t = 0 then (if C 3 (C 12 t).toNatClampNeg = 0 then (if C 3 (C 4 k).toNatClampNeg = 0 then 0 else -14) else -14) else -13
def raL (t : Int32) : Nat → Nat → St → St
  | 0, _, C => C
  | n + 1, i, C => raL t n (i + 1) (if C 6 i = t then up C 6 i (-1) else C)
theorem raL_row {t : Int32} {w : Nat} (hw : w ≠ 6) : ∀ {n i : Nat} {C : St}, raL t n i C w = C w
  | 0, _, _ => rfl
  | n + 1, i, C => by
    unfold raL
    rw [raL_row hw]
    split
    · exact up_row hw
    · rfl
def resC (C : St) (t : Int32) (s : Int32) : St := forgetS (raL t 32 0 C) t.toNatClampNeg s
section B8
variable {g : GT} {nt : Nat} {C M : St} {o : Int64} {t u : Int32}
theorem mi_57 (hu : tok nt u) {k : Nat} (hk : k < 32) {mc ms kb nb : Nat} (hk9 : kb ≤ mc) (hn9 : nb ≤ ms) (h : Nat × Nat) : V g K_X4_meetIntent (kR K_X4_meetIntent mc ms) (qM g mc ms nt (fun v9 C9 M9 o9 => v9 = some (va_rf (trO g (mrS (m3S C k u) u))) ∧ C9 = m3S C k u ∧ M9 = M ∧ o9 = o) (fun _ _ _ _ => False)) kb nb nt h C M o 57 [(0, .ref (ad g 0)), (1, va_rf (trO g t)), (2, .int (nI k)), (3, va_rf (trO g u))] [] := by
  refine V_aload_nt (dG D_X4_meetIntent 31 rfl) rfl ?_
  refine gf_X4_147 rfl (dG D_X4_meetIntent 32 rfl) (by assumption) ?_
  refine V_iconst (v := 3) (dG D_X4_meetIntent 33 rfl) (by decide) ?_
  refine V_icmp_ne (tgt := 75) (dG D_X4_meetIntent 34 rfl) (by decide) (fun c_62 => ?_) (fun c_62 => ?_)
  · rw [show m3S C k u = C from by simp [m3S, c_62]]
    refine V_aload_nt (dG D_X4_meetIntent 41 rfl) rfl ?_
    refine gf_X4_147 rfl (dG D_X4_meetIntent 42 rfl) (by assumption) ?_
    refine V_if_ne (tgt := 86) (dG D_X4_meetIntent 43 rfl) (by decide) (fun c_79 => ?_) (fun c_79 => ?_)
    · rw [show mrS _ u = -1 from if_neg c_79]
      refine V_nullt (dG D_X4_meetIntent 46 rfl) ?_
      exact V_aret (dG D_X4_meetIntent 47 rfl) rfl hk9 hn9 ⟨rfl, rfl, rfl, rfl⟩
    · rw [show mrS _ u = u from if_pos c_79]
      refine V_aload_nt (dG D_X4_meetIntent 44 rfl) rfl ?_
      refine V_goto (tgt := 87) (dG D_X4_meetIntent 45 rfl) (by decide) ?_
      exact V_aret (dG D_X4_meetIntent 47 rfl) rfl hk9 hn9 ⟨rfl, rfl, rfl, rfl⟩
  · rw [show m3S C k u = up C 6 k (-1) from by simp [m3S, c_62]]
    refine V_aload_n (dG D_X4_meetIntent 35 rfl) rfl ?_
    refine gf_X4_17 rfl (dG D_X4_meetIntent 36 rfl) ?_
    refine V_iload_n (dG D_X4_meetIntent 37 rfl) rfl ?_
    refine aald_cells (dG D_X4_meetIntent 38 rfl) (by first | assumption | exact inr_nI (by first | assumption | omega) (by first | decide | assumption | omega) | exact inr_of (by assumption)) ?_
    refine V_nullt (dG D_X4_meetIntent 39 rfl) ?_
    refine pf_X4_82 rfl (dG D_X4_meetIntent 40 rfl) (by first | assumption | omega) ?_
    refine V_aload_nt (dG D_X4_meetIntent 41 rfl) rfl ?_
    refine gf_X4_147 rfl (dG D_X4_meetIntent 42 rfl) (by assumption) ?_
    refine V_if_ne (tgt := 86) (dG D_X4_meetIntent 43 rfl) (by decide) (fun c_79 => ?_) (fun c_79 => ?_)
    · rw [show mrS _ u = -1 from if_neg c_79]
      refine V_nullt (dG D_X4_meetIntent 46 rfl) ?_
      exact V_aret (dG D_X4_meetIntent 47 rfl) rfl hk9 hn9 ⟨rfl, rfl, rfl, rfl⟩
    · rw [show mrS _ u = u from if_pos c_79]
      refine V_aload_nt (dG D_X4_meetIntent 44 rfl) rfl ?_
      refine V_goto (tgt := 87) (dG D_X4_meetIntent 45 rfl) (by decide) ?_
      exact V_aret (dG D_X4_meetIntent 47 rfl) rfl hk9 hn9 ⟨rfl, rfl, rfl, rfl⟩
theorem mi_34 (hu : tok nt u) {k : Nat} (hk : k < 32) {mc ms kb nb : Nat} (hk9 : kb ≤ mc) (hn9 : nb ≤ ms) (h : Nat × Nat) : V g K_X4_meetIntent (kR K_X4_meetIntent mc ms) (qM g mc ms nt (fun v9 C9 M9 o9 => v9 = some (va_rf (trO g (mrS (m3S (m2S C u) k u) u))) ∧ C9 = m3S (m2S C u) k u ∧ M9 = M ∧ o9 = o) (fun _ _ _ _ => False)) kb nb nt h C M o 34 [(0, .ref (ad g 0)), (1, va_rf (trO g t)), (2, .int (nI k)), (3, va_rf (trO g u))] [] := by
  refine V_aload_nt (dG D_X4_meetIntent 20 rfl) rfl ?_
  refine gf_X4_147 rfl (dG D_X4_meetIntent 21 rfl) (by assumption) ?_
  refine V_if_ne (tgt := 57) (dG D_X4_meetIntent 22 rfl) (by decide) (fun c_38 => ?_) (fun c_38 => ?_)
  · rw [show m2S C u = C from by simp [m2S, c_38]]
    exact mi_57 hu hk (by simpa using hk9) (by simpa using hn9) h
  · skip
    refine V_aload_nt (dG D_X4_meetIntent 23 rfl) rfl ?_
    refine V_aload_n (dG D_X4_meetIntent 24 rfl) rfl ?_
    refine gf_X4_47 rfl (dG D_X4_meetIntent 25 rfl) ?_
    refine R_vt1 (by assumption) (ok_isVanished hu) lk_X4_210 (dG D_X4_meetIntent 26 rfl) ⟨Nat.le_of_ble_eq_true rfl, Nat.le_of_ble_eq_true rfl⟩ ⟨by show kb + 0 ≤ mc; omega, by show nb + 0 ≤ ms; omega⟩ (by first | exact Nat.le_of_ble_eq_true rfl | simp [cat_rf, cat_int, cat_ref]) (fun h => ?_)
    refine V_if_eq (tgt := 57) (dG D_X4_meetIntent 27 rfl) (by decide) (fun c_49 => ?_) (fun c_49 => ?_)
    · rw [show m2S C u = C from by simp [m2S, c_38, c_49]]
      exact mi_57 hu hk (by simpa using hk9) (by simpa using hn9) h
    · rw [show m2S C u = up C 15 u.toNatClampNeg 3 from by simp [m2S, c_38, c_49]]
      refine V_aload_nt (dG D_X4_meetIntent 28 rfl) rfl ?_
      refine V_iconst (v := 3) (dG D_X4_meetIntent 29 rfl) (by decide) ?_
      refine pf_X4_147 rfl (dG D_X4_meetIntent 30 rfl) (by assumption) ?_
      exact mi_57 hu hk (by simpa using hk9) (by simpa using hn9) h
theorem ok_meetIntent (ht : tok nt t) {k : Nat} (hk : k < 32) (hW : WF nt C) : RET g K_X4_meetIntent (cap (meetC C t k) - cap C) (4 * (cap (meetC C t k) - cap C)) [.ref (ad g 0), va_rf (trO g t), .int (nI k)] nt C M o (some (va_rf (trO g (meetR C t k)))) (meetC C t k) M o := by
  refine MT_of (by decide +kernel) rfl rfl (Nat.le_of_ble_eq_true rfl) (by simp [cat_rf, cat_int, cat_ref]) (fun h => ?_)
  refine V_aload_n (dG D_X4_meetIntent 0 rfl) rfl ?_
  refine gf_X4_17 rfl (dG D_X4_meetIntent 1 rfl) ?_
  refine V_iload_n (dG D_X4_meetIntent 2 rfl) rfl ?_
  refine aald_cells (dG D_X4_meetIntent 3 rfl) (by first | assumption | exact inr_nI (by first | assumption | omega) (by first | decide | assumption | omega) | exact inr_of (by assumption)) ?_
  refine gf_X4_82 rfl (dG D_X4_meetIntent 4 rfl) (by first | assumption | omega) ?_
  refine V_astore_nt (dG D_X4_meetIntent 5 rfl) (Nat.le_of_ble_eq_true rfl) ?_
  refine V_aload_nt (dG D_X4_meetIntent 6 rfl) rfl ?_
  refine V_ifnullt (tgt := 19) (dG D_X4_meetIntent 7 rfl) (by decide) (fun c_11 => ?_) (fun c_11 => ?_)
  · rw [show meetC C t k = C from by simp only [meetC, if_pos c_11], show meetR C t k = -1 from by simp only [meetR, if_pos c_11]]
    refine V_nullt (dG D_X4_meetIntent 11 rfl) ?_
    exact V_aret (dG D_X4_meetIntent 12 rfl) rfl (Nat.zero_le _) (Nat.zero_le _) ⟨rfl, rfl, rfl, rfl⟩
  · have hu := trv_tok (hW.wo k hk) c_11
    refine V_aload_nt (dG D_X4_meetIntent 8 rfl) rfl ?_
    refine V_aload_nt (dG D_X4_meetIntent 9 rfl) rfl ?_
    refine V_acmpt_ne (tgt := 21) (dG D_X4_meetIntent 10 rfl) (by decide) (Or.inr hu) (Or.inr ht) (fun c_16 => ?_) (fun c_16 => ?_)
    · have e1 : meetC C t k = m3S (m2S (m1S C (C 6 k)) (C 6 k)) k (C 6 k) := by simp only [meetC, if_neg c_11, if_neg c_16]
      have e2 : meetR C t k = mrS (m3S (m2S (m1S C (C 6 k)) (C 6 k)) k (C 6 k)) (C 6 k) := by simp only [meetR, if_neg c_11, if_neg c_16]
      have ec : cap (meetC C t k) = cap (m1S C (C 6 k)) := by rw [e1, cap_m3, cap_m2]
      rw [e2, ec, e1]
      refine V_aload_nt (dG D_X4_meetIntent 13 rfl) rfl ?_
      refine gf_X4_147 rfl (dG D_X4_meetIntent 14 rfl) (by assumption) ?_
      refine V_iconst (v := 1) (dG D_X4_meetIntent 15 rfl) (by decide) ?_
      refine V_icmp_ne (tgt := 34) (dG D_X4_meetIntent 16 rfl) (by decide) (fun c_26 => ?_) (fun c_26 => ?_)
      · rw [show m1S C (C 6 k) = C from by simp only [m1S, if_neg c_26]]
        exact mi_34 hu hk (Nat.zero_le _) (Nat.zero_le _) h
      · rw [show m1S C (C 6 k) = decS C (C 6 k) from by simp only [m1S, if_pos c_26]]
        refine V_aload_n (dG D_X4_meetIntent 17 rfl) rfl ?_
        refine V_aload_nt (dG D_X4_meetIntent 18 rfl) rfl ?_
        refine R_nb1 (ok_decideStaged hu hW (by rw [c_26]; decide)) lk_X4_185 (dG D_X4_meetIntent 19 rfl) rcv_4 ⟨Nat.le_of_ble_eq_true rfl, Nat.le_of_ble_eq_true rfl⟩ ⟨by show 0 + _ ≤ cap (decS C (C 6 k)) - cap C; omega, by show 0 + _ ≤ 4 * (cap (decS C (C 6 k)) - cap C); omega⟩ (by first | exact Nat.le_of_ble_eq_true rfl | simp [cat_rf, cat_int, cat_ref]) (fun h => ?_)
        exact mi_34 hu hk (by omega) (by omega) h
    · rw [show meetC C t k = C from by simp only [meetC, if_neg c_11, if_pos c_16], show meetR C t k = -1 from by simp only [meetR, if_neg c_11, if_pos c_16]]
      refine V_nullt (dG D_X4_meetIntent 11 rfl) ?_
      exact V_aret (dG D_X4_meetIntent 12 rfl) rfl (Nat.zero_le _) (Nat.zero_le _) ⟨rfl, rfl, rfl, rfl⟩
theorem lp_victim (ht : tok nt t) (aw : ∀ i, i < nt → trv nt (C 19 i)) : ∀ (n : Nat) {i : Nat} {v x : Int32} (_ : i + n = 40) (_ : tok nt v) (_ : trv nt x) (h : Nat × Nat), V g K_X4_victimOfRing (kR K_X4_victimOfRing 0 0) (qM g 0 0 nt (fun v9 C9 M9 o9 => v9 = some (va_rf (trO g (viL C t n v x))) ∧ C9 = C ∧ M9 = M ∧ o9 = o) (fun _ _ _ _ => False)) 0 0 nt h C M o 10 [(0, .ref (ad g 0)), (1, va_rf (trO g t)), (2, va_rf (trO g v)), (3, va_rf (trO g x)), (4, .int (nI i))] [] := by
  intro n
  induction n with
  | zero =>
    intro i v x hi hv hx h
    refine V_iload (dG D_X4_victimOfRing 7 rfl) rfl ?_
    refine V_bipush (v := 40) (dG D_X4_victimOfRing 8 rfl) (by decide) ?_
    refine V_icmp_ge (tgt := 47) (dG D_X4_victimOfRing 9 rfl) (by decide) (fun c_14 => ?_) (fun c_14 => absurd (by rw [show i = 40 by omega]; decide) c_14)
    refine V_aload_nt (dG D_X4_victimOfRing 26 rfl) rfl ?_
    refine V_aload_nt (dG D_X4_victimOfRing 27 rfl) rfl ?_
    refine V_acmpt_ne (tgt := 56) (dG D_X4_victimOfRing 28 rfl) (by decide) hx (Or.inr ht) (fun c_49 => ?_) (fun c_49 => ?_)
    · skip
      refine V_nullt (dG D_X4_victimOfRing 31 rfl) ?_
      exact V_aret (dG D_X4_victimOfRing 32 rfl) rfl (Nat.le_of_ble_eq_true rfl) (Nat.le_of_ble_eq_true rfl) ⟨by first | (simp [viL, c_14, c_49]; done) | exact absurd c_23 c_49, rfl, rfl, rfl⟩
    · skip
      refine V_aload_nt (dG D_X4_victimOfRing 29 rfl) rfl ?_
      refine V_goto (tgt := 57) (dG D_X4_victimOfRing 30 rfl) (by decide) ?_
      exact V_aret (dG D_X4_victimOfRing 32 rfl) rfl (Nat.le_of_ble_eq_true rfl) (Nat.le_of_ble_eq_true rfl) ⟨by first | (simp [viL, c_14, c_49]; done) | exact absurd c_23 c_49, rfl, rfl, rfl⟩
  | succ n ih =>
    intro i v x hi hv hx h
    refine V_iload (dG D_X4_victimOfRing 7 rfl) rfl ?_
    refine V_bipush (v := 40) (dG D_X4_victimOfRing 8 rfl) (by decide) ?_
    refine V_icmp_ge (tgt := 47) (dG D_X4_victimOfRing 9 rfl) (by decide) (fun c_14 => absurd c_14 (nI_ge (b := 40) (by omega) (by decide))) (fun c_14 => ?_)
    refine V_aload_nt (dG D_X4_victimOfRing 10 rfl) rfl ?_
    refine V_ifnullt (tgt := 47) (dG D_X4_victimOfRing 11 rfl) (by decide) (fun c_18 => ?_) (fun c_18 => ?_)
    · skip
      refine V_aload_nt (dG D_X4_victimOfRing 26 rfl) rfl ?_
      refine V_aload_nt (dG D_X4_victimOfRing 27 rfl) rfl ?_
      refine V_acmpt_ne (tgt := 56) (dG D_X4_victimOfRing 28 rfl) (by decide) hx (Or.inr ht) (fun c_49 => ?_) (fun c_49 => ?_)
      · skip
        refine V_nullt (dG D_X4_victimOfRing 31 rfl) ?_
        exact V_aret (dG D_X4_victimOfRing 32 rfl) rfl (Nat.le_of_ble_eq_true rfl) (Nat.le_of_ble_eq_true rfl) ⟨by first | (simp [viL, c_18, c_49]; done) | exact absurd c_23 c_49, rfl, rfl, rfl⟩
      · skip
        refine V_aload_nt (dG D_X4_victimOfRing 29 rfl) rfl ?_
        refine V_goto (tgt := 57) (dG D_X4_victimOfRing 30 rfl) (by decide) ?_
        exact V_aret (dG D_X4_victimOfRing 32 rfl) rfl (Nat.le_of_ble_eq_true rfl) (Nat.le_of_ble_eq_true rfl) ⟨by first | (simp [viL, c_18, c_49]; done) | exact absurd c_23 c_49, rfl, rfl, rfl⟩
    · have hx2 := trv_tok hx c_18
      refine V_aload_nt (dG D_X4_victimOfRing 12 rfl) rfl ?_
      refine V_aload_nt (dG D_X4_victimOfRing 13 rfl) rfl ?_
      refine V_acmpt_eq (tgt := 47) (dG D_X4_victimOfRing 14 rfl) (by decide) hx (Or.inr ht) (fun c_23 => ?_) (fun c_23 => ?_)
      · skip
        refine V_aload_nt (dG D_X4_victimOfRing 26 rfl) rfl ?_
        refine V_aload_nt (dG D_X4_victimOfRing 27 rfl) rfl ?_
        refine V_acmpt_ne (tgt := 56) (dG D_X4_victimOfRing 28 rfl) (by decide) hx (Or.inr ht) (fun c_49 => ?_) (fun c_49 => ?_)
        · skip
          refine V_nullt (dG D_X4_victimOfRing 31 rfl) ?_
          exact V_aret (dG D_X4_victimOfRing 32 rfl) rfl (Nat.le_of_ble_eq_true rfl) (Nat.le_of_ble_eq_true rfl) ⟨by first | (simp [viL, c_18, c_23, c_49]; done) | exact absurd c_23 c_49, rfl, rfl, rfl⟩
        · skip
          refine V_aload_nt (dG D_X4_victimOfRing 29 rfl) rfl ?_
          refine V_goto (tgt := 57) (dG D_X4_victimOfRing 30 rfl) (by decide) ?_
          exact V_aret (dG D_X4_victimOfRing 32 rfl) rfl (Nat.le_of_ble_eq_true rfl) (Nat.le_of_ble_eq_true rfl) ⟨by first | (simp [viL, c_18, c_23, c_49]; done) | exact absurd c_23 c_49, rfl, rfl, rfl⟩
      · skip
        refine V_aload_nt (dG D_X4_victimOfRing 15 rfl) rfl ?_
        refine V_aload_nt (dG D_X4_victimOfRing 16 rfl) rfl ?_
        refine R_vt1 hx2 (ok_yieldsBefore hx2 hv) lk_X4_271 (dG D_X4_victimOfRing 17 rfl) ⟨Nat.le_of_ble_eq_true rfl, Nat.le_of_ble_eq_true rfl⟩ ⟨Nat.le_of_ble_eq_true rfl, Nat.le_of_ble_eq_true rfl⟩ (by first | exact Nat.le_of_ble_eq_true rfl | simp [cat_rf, cat_int, cat_ref]) (fun h => ?_)
        refine V_if_eq (tgt := 36) (dG D_X4_victimOfRing 18 rfl) (by decide) (fun c_31 => ?_) (fun c_31 => ?_)
        · skip
          refine V_aload_nt (dG D_X4_victimOfRing 21 rfl) rfl ?_
          refine R_vt0 hx2 (ok_waitsFor hx2 (aw _ hx2.2)) lk_X4_195 (dG D_X4_victimOfRing 22 rfl) ⟨Nat.le_of_ble_eq_true rfl, Nat.le_of_ble_eq_true rfl⟩ ⟨Nat.le_of_ble_eq_true rfl, Nat.le_of_ble_eq_true rfl⟩ (by first | exact Nat.le_of_ble_eq_true rfl | simp [cat_rf, cat_int, cat_ref]) (fun h => ?_)
          refine V_astore_nt (dG D_X4_victimOfRing 23 rfl) (Nat.le_of_ble_eq_true rfl) ?_
          refine V_iinc (dG D_X4_victimOfRing 24 rfl) rfl (inc1 _) (Nat.le_of_ble_eq_true rfl) ?_
          refine V_goto (tgt := 10) (dG D_X4_victimOfRing 25 rfl) (by decide) ?_
          rw [show viL C t (n + 1) v x = viL C t n v (wfS C x.toNatClampNeg) from by simp only [viL, if_neg c_18, if_neg c_23, if_pos c_31]]
          exact ih (by omega) hv (wf_trv aw hx2.2) h
        · skip
          refine V_aload_nt (dG D_X4_victimOfRing 19 rfl) rfl ?_
          refine V_astore_nt (dG D_X4_victimOfRing 20 rfl) (Nat.le_of_ble_eq_true rfl) ?_
          refine V_aload_nt (dG D_X4_victimOfRing 21 rfl) rfl ?_
          refine R_vt0 hx2 (ok_waitsFor hx2 (aw _ hx2.2)) lk_X4_195 (dG D_X4_victimOfRing 22 rfl) ⟨Nat.le_of_ble_eq_true rfl, Nat.le_of_ble_eq_true rfl⟩ ⟨Nat.le_of_ble_eq_true rfl, Nat.le_of_ble_eq_true rfl⟩ (by first | exact Nat.le_of_ble_eq_true rfl | simp [cat_rf, cat_int, cat_ref]) (fun h => ?_)
          refine V_astore_nt (dG D_X4_victimOfRing 23 rfl) (Nat.le_of_ble_eq_true rfl) ?_
          refine V_iinc (dG D_X4_victimOfRing 24 rfl) rfl (inc1 _) (Nat.le_of_ble_eq_true rfl) ?_
          refine V_goto (tgt := 10) (dG D_X4_victimOfRing 25 rfl) (by decide) ?_
          rw [show viL C t (n + 1) v x = viL C t n x (wfS C x.toNatClampNeg) from by simp only [viL, if_neg c_18, if_neg c_23, if_neg c_31]]
          exact ih (by omega) hx2 (wf_trv aw hx2.2) h
theorem ok_victimOfRing (ht : tok nt t) (aw : ∀ i, i < nt → trv nt (C 19 i)) : RET g K_X4_victimOfRing 0 0 [.ref (ad g 0), va_rf (trO g t)] nt C M o (some (va_rf (trO g (vicS C t)))) C M o := by
  refine MT_of (by decide +kernel) rfl rfl (Nat.le_of_ble_eq_true rfl) (by simp [cat_rf, cat_int, cat_ref]) (fun h => ?_)
  refine V_aload_nt (dG D_X4_victimOfRing 0 rfl) rfl ?_
  refine V_astore_nt (dG D_X4_victimOfRing 1 rfl) (Nat.le_of_ble_eq_true rfl) ?_
  refine V_aload_nt (dG D_X4_victimOfRing 2 rfl) rfl ?_
  refine R_vt0 (by assumption) (ok_waitsFor ht (aw _ ht.2)) lk_X4_195 (dG D_X4_victimOfRing 3 rfl) ⟨Nat.le_of_ble_eq_true rfl, Nat.le_of_ble_eq_true rfl⟩ ⟨(Nat.le_of_ble_eq_true rfl), (Nat.le_of_ble_eq_true rfl)⟩ (by first | exact Nat.le_of_ble_eq_true rfl | simp [cat_rf, cat_int, cat_ref]) (fun h => ?_)
  refine V_astore_nt (dG D_X4_victimOfRing 4 rfl) (Nat.le_of_ble_eq_true rfl) ?_
  refine V_iconst (v := 0) (dG D_X4_victimOfRing 5 rfl) (by decide) ?_
  refine V_istore (dG D_X4_victimOfRing 6 rfl) (Nat.le_of_ble_eq_true rfl) ?_
  exact lp_victim ht aw 40 (i := 0) (by omega) ht (wf_trv aw ht.2) h
theorem ok_waitFor (ht : tok nt t) (hu : tok nt u) (aw : ∀ i, i < nt → trv nt (C 19 i)) : RET g K_X4_waitFor 0 0 [.ref (ad g 0), va_rf (trO g t), va_rf (trO g u)] nt C M o (some (.int (waR C t u))) (waC C t u) M o := by
  refine MT_of (by decide +kernel) rfl rfl (Nat.le_of_ble_eq_true rfl) (by simp [cat_rf, cat_int, cat_ref]) (fun h => ?_)
  have aw1 : ∀ i, i < nt → trv nt (up C 19 t.toNatClampNeg u 19 i) := fun i hi => by
    by_cases e : i = t.toNatClampNeg
    · subst e; rw [up_eq]; exact Or.inr hu
    · rw [up_ne (Or.inr e)]; exact aw i hi
  refine V_aload_nt (dG D_X4_waitFor 0 rfl) rfl ?_
  refine V_aload_nt (dG D_X4_waitFor 1 rfl) rfl ?_
  refine pf_X4_157 rfl (dG D_X4_waitFor 2 rfl) (by assumption) ?_
  refine V_aload_n (dG D_X4_waitFor 3 rfl) rfl ?_
  refine V_aload_nt (dG D_X4_waitFor 4 rfl) rfl ?_
  refine R_vb1 (ok_victimOfRing ht (C := up C 19 t.toNatClampNeg u) aw1) lk_X4_267 (dG D_X4_waitFor 5 rfl) rcv_4 ⟨Nat.le_of_ble_eq_true rfl, Nat.le_of_ble_eq_true rfl⟩ ⟨(Nat.le_of_ble_eq_true rfl), (Nat.le_of_ble_eq_true rfl)⟩ (by first | exact Nat.le_of_ble_eq_true rfl | simp [cat_rf, cat_int, cat_ref]) (fun h => ?_)
  refine V_astore_nt (dG D_X4_waitFor 6 rfl) (Nat.le_of_ble_eq_true rfl) ?_
  refine V_aload_nt (dG D_X4_waitFor 7 rfl) rfl ?_
  refine V_ifnonnullt (tgt := 18) (dG D_X4_waitFor 8 rfl) (by decide) (fun c_12 => ?_) (fun c_12 => ?_)
  · have hv := trv_tok (vic_trv aw1 ht) c_12
    rw [show waC C t u = up (up (up C 19 t.toNatClampNeg u) 19 t.toNatClampNeg (-1)) 15 (vicS (up C 19 t.toNatClampNeg u) t).toNatClampNeg 3 from by simp only [waC, if_neg c_12]]
    refine V_aload_nt (dG D_X4_waitFor 11 rfl) rfl ?_
    refine V_nullt (dG D_X4_waitFor 12 rfl) ?_
    refine pf_X4_157 rfl (dG D_X4_waitFor 13 rfl) (by assumption) ?_
    refine V_aload_nt (dG D_X4_waitFor 14 rfl) rfl ?_
    refine V_iconst (v := 3) (dG D_X4_waitFor 15 rfl) (by decide) ?_
    refine pf_X4_147 rfl (dG D_X4_waitFor 16 rfl) hv ?_
    refine V_aload_nt (dG D_X4_waitFor 17 rfl) rfl ?_
    refine V_aload_nt (dG D_X4_waitFor 18 rfl) rfl ?_
    refine V_acmpt_ne (tgt := 38) (dG D_X4_waitFor 19 rfl) (by decide) (Or.inr hv) (Or.inr ht) (fun c_30 => ?_) (fun c_30 => ?_)
    · skip
      refine V_bipush (v := -99) (dG D_X4_waitFor 22 rfl) (by decide) ?_
      exact V_iret (dG D_X4_waitFor 23 rfl) rfl (Nat.le_of_ble_eq_true rfl) (Nat.le_of_ble_eq_true rfl) ⟨by first | (simp [waR, c_12, c_30]; done) | (simp only [waR, if_neg c_12, if_pos c_30]; done), rfl, rfl, rfl⟩
    · skip
      refine V_bipush (v := -13) (dG D_X4_waitFor 20 rfl) (by decide) ?_
      refine V_goto (tgt := 40) (dG D_X4_waitFor 21 rfl) (by decide) ?_
      exact V_iret (dG D_X4_waitFor 23 rfl) rfl (Nat.le_of_ble_eq_true rfl) (Nat.le_of_ble_eq_true rfl) ⟨by first | (simp [waR, c_12, c_30]; done) | (simp only [waR, if_neg c_12, if_pos c_30]; done), rfl, rfl, rfl⟩
  · rw [show waC C t u = up C 19 t.toNatClampNeg u from by simp only [waC, if_pos c_12]]
    refine V_bipush (v := -11) (dG D_X4_waitFor 9 rfl) (by decide) ?_
    exact V_iret (dG D_X4_waitFor 10 rfl) rfl (Nat.le_of_ble_eq_true rfl) (Nat.le_of_ble_eq_true rfl) ⟨by first | (simp [waR, c_12]; done) | (simp only [waR, if_neg c_12, if_pos c_30]; done), rfl, rfl, rfl⟩
theorem ok_askNode (ht : tok nt t) {n : Nat} (hn : n < 4) : RET g K_X4_askNode 0 0 [.ref (ad g 0), va_rf (trO g t), .int (nI n)] nt C M o none (askS C t n) M o := by
  refine MT_of (by decide +kernel) rfl rfl (Nat.le_of_ble_eq_true rfl) (by simp [cat_rf, cat_int, cat_ref]) (fun h => ?_)
  refine V_aload_nt (dG D_X4_askNode 0 rfl) rfl ?_
  refine V_nullt (dG D_X4_askNode 1 rfl) ?_
  refine pf_X4_157 rfl (dG D_X4_askNode 2 rfl) (by assumption) ?_
  refine V_aload_n (dG D_X4_askNode 3 rfl) rfl ?_
  refine gf_X4_11 rfl (dG D_X4_askNode 4 rfl) ?_
  refine V_iload_n (dG D_X4_askNode 5 rfl) rfl ?_
  refine aald_nodes (dG D_X4_askNode 6 rfl) (inr_nI hn (by decide)) ?_
  refine V_aload_nt (dG D_X4_askNode 7 rfl) rfl ?_
  refine gf_X4_172 rfl (dG D_X4_askNode 8 rfl) (by assumption) ?_
  refine R_nb1 (ok_meetStamp hn) lk_X4_257 (dG D_X4_askNode 9 rfl) (rcv_2 (by first | assumption | omega)) ⟨Nat.le_of_ble_eq_true rfl, Nat.le_of_ble_eq_true rfl⟩ ⟨(Nat.le_of_ble_eq_true rfl), (Nat.le_of_ble_eq_true rfl)⟩ (by first | exact Nat.le_of_ble_eq_true rfl | simp [cat_rf, cat_int, cat_ref]) (fun h => ?_)
  refine V_aload_nt (dG D_X4_askNode 10 rfl) rfl ?_
  refine V_iload_n (dG D_X4_askNode 11 rfl) rfl ?_
  refine R_vt1 (by assumption) (ok_hasAsked ht hn) lk_X4_260 (dG D_X4_askNode 12 rfl) ⟨Nat.le_of_ble_eq_true rfl, Nat.le_of_ble_eq_true rfl⟩ ⟨(Nat.le_of_ble_eq_true rfl), (Nat.le_of_ble_eq_true rfl)⟩ (by first | exact Nat.le_of_ble_eq_true rfl | simp [cat_rf, cat_int, cat_ref]) (fun h => ?_)
  refine V_if_ne (tgt := 44) (dG D_X4_askNode 13 rfl) (by decide) (fun c_23 => ?_) (fun c_23 => ?_)
  · skip
    exact V_vret (dG D_X4_askNode 24 rfl) rfl (Nat.le_of_ble_eq_true rfl) (Nat.le_of_ble_eq_true rfl) ⟨rfl, (show askS C t n = _ from if_neg c_23).symm, rfl, rfl⟩
  · skip
    refine V_aload_nt (dG D_X4_askNode 14 rfl) rfl ?_
    refine V_iload_n (dG D_X4_askNode 15 rfl) rfl ?_
    refine V_aload_n (dG D_X4_askNode 16 rfl) rfl ?_
    refine gf_X4_11 rfl (dG D_X4_askNode 17 rfl) ?_
    refine V_iload_n (dG D_X4_askNode 18 rfl) rfl ?_
    refine aald_nodes (dG D_X4_askNode 19 rfl) (inr_nI hn (by decide)) ?_
    refine V_aload_n (dG D_X4_askNode 20 rfl) rfl ?_
    refine gf_X4_47 rfl (dG D_X4_askNode 21 rfl) ?_
    refine R_vb1 (ok_tellStamp hn) lk_X4_68 (dG D_X4_askNode 22 rfl) (rcv_2 (by first | assumption | omega)) ⟨Nat.le_of_ble_eq_true rfl, Nat.le_of_ble_eq_true rfl⟩ ⟨(Nat.le_of_ble_eq_true rfl), (Nat.le_of_ble_eq_true rfl)⟩ (by first | exact Nat.le_of_ble_eq_true rfl | simp [cat_rf, cat_int, cat_ref]) (fun h => ?_)
    refine R_nt2 (by assumption) (ok_noteClock ht hn) lk_X4_263 (dG D_X4_askNode 23 rfl) ⟨Nat.le_of_ble_eq_true rfl, Nat.le_of_ble_eq_true rfl⟩ ⟨(Nat.le_of_ble_eq_true rfl), (Nat.le_of_ble_eq_true rfl)⟩ (by first | exact Nat.le_of_ble_eq_true rfl | simp [cat_rf, cat_int, cat_ref]) (fun h => ?_)
    exact V_vret (dG D_X4_askNode 24 rfl) rfl (Nat.le_of_ble_eq_true rfl) (Nat.le_of_ble_eq_true rfl) ⟨rfl, (show askS C t n = _ from if_pos c_23).symm, rfl, rfl⟩
theorem ok_refusalAt (ht : tok nt t) {k : Nat} (hk : k < 32) (hh : vp_in (C 12 t.toNatClampNeg) 4) (hc : vp_in (C 4 k) 4) : RET g K_X4_refusalAt 0 0 [.ref (ad g 0), va_rf (trO g t), .int (nI k)] nt C M o (some (.int (refS C t.toNatClampNeg k))) C M o := by
  refine MT_of (by decide +kernel) rfl rfl (Nat.le_of_ble_eq_true rfl) (by simp [cat_rf, cat_int, cat_ref]) (fun h => ?_)
  refine V_aload_nt (dG D_X4_refusalAt 0 rfl) rfl ?_
  refine gf_X4_147 rfl (dG D_X4_refusalAt 1 rfl) (by assumption) ?_
  refine V_if_eq (tgt := 10) (dG D_X4_refusalAt 2 rfl) (by decide) (fun c_4 => ?_) (fun c_4 => ?_)
  · skip
    refine V_aload_n (dG D_X4_refusalAt 5 rfl) rfl ?_
    refine gf_X4_11 rfl (dG D_X4_refusalAt 6 rfl) ?_
    refine V_aload_nt (dG D_X4_refusalAt 7 rfl) rfl ?_
    refine gf_X4_150 rfl (dG D_X4_refusalAt 8 rfl) (by assumption) ?_
    refine aald_nodes (dG D_X4_refusalAt 9 rfl) (inr_of hh) ?_
    refine gf_X4_76 rfl (dG D_X4_refusalAt 10 rfl) (vin_lt hh) ?_
    refine V_if_ne (tgt := 45) (dG D_X4_refusalAt 11 rfl) (by decide) (fun c_22 => ?_) (fun c_22 => ?_)
    · skip
      refine V_bipush (v := -14) (dG D_X4_refusalAt 22 rfl) (by decide) ?_
      refine V_goto (tgt := 51) (dG D_X4_refusalAt 23 rfl) (by decide) ?_
      exact V_iret (dG D_X4_refusalAt 25 rfl) rfl (Nat.le_of_ble_eq_true rfl) (Nat.le_of_ble_eq_true rfl) ⟨(by simp [refS, c_4, c_22]), rfl, rfl, rfl⟩
    · skip
      refine V_aload_n (dG D_X4_refusalAt 12 rfl) rfl ?_
      refine gf_X4_11 rfl (dG D_X4_refusalAt 13 rfl) ?_
      refine V_aload_n (dG D_X4_refusalAt 14 rfl) rfl ?_
      refine gf_X4_17 rfl (dG D_X4_refusalAt 15 rfl) ?_
      refine V_iload_n (dG D_X4_refusalAt 16 rfl) rfl ?_
      refine aald_cells (dG D_X4_refusalAt 17 rfl) (inr_nI hk (by decide)) ?_
      refine gf_X4_79 rfl (dG D_X4_refusalAt 18 rfl) (by first | assumption | omega) ?_
      refine aald_nodes (dG D_X4_refusalAt 19 rfl) (inr_of hc) ?_
      refine gf_X4_76 rfl (dG D_X4_refusalAt 20 rfl) (vin_lt hc) ?_
      refine V_if_eq (tgt := 50) (dG D_X4_refusalAt 21 rfl) (by decide) (fun c_42 => ?_) (fun c_42 => ?_)
      · skip
        refine V_iconst (v := 0) (dG D_X4_refusalAt 24 rfl) (by decide) ?_
        exact V_iret (dG D_X4_refusalAt 25 rfl) rfl (Nat.le_of_ble_eq_true rfl) (Nat.le_of_ble_eq_true rfl) ⟨(by simp [refS, c_4, c_22, c_42]), rfl, rfl, rfl⟩
      · skip
        refine V_bipush (v := -14) (dG D_X4_refusalAt 22 rfl) (by decide) ?_
        refine V_goto (tgt := 51) (dG D_X4_refusalAt 23 rfl) (by decide) ?_
        exact V_iret (dG D_X4_refusalAt 25 rfl) rfl (Nat.le_of_ble_eq_true rfl) (Nat.le_of_ble_eq_true rfl) ⟨(by simp [refS, c_4, c_22, c_42]), rfl, rfl, rfl⟩
  · skip
    refine V_bipush (v := -13) (dG D_X4_refusalAt 3 rfl) (by decide) ?_
    exact V_iret (dG D_X4_refusalAt 4 rfl) rfl (Nat.le_of_ble_eq_true rfl) (Nat.le_of_ble_eq_true rfl) ⟨(by simp [refS, c_4]), rfl, rfl, rfl⟩
theorem lp_restart (ht : tok nt t) {st : Int32} : ∀ (n : Nat) (i : Nat) (C : St) (_ : i + n = 32) (_ : ∀ k, k < 32 → trv nt (C 6 k)) (h : Nat × Nat), V g K_X4_restartAt (kR K_X4_restartAt 0 0) (qM g 0 0 nt (fun v9 C9 M9 o9 => v9 = some (.int (-12)) ∧ C9 = forgetS (raL t n i C) t.toNatClampNeg st ∧ M9 = M ∧ o9 = o) (fun _ _ _ _ => False)) 0 0 nt h C M o 12 [(0, .ref (ad g 0)), (1, va_rf (trO g t)), (2, .int st), (3, .ref (ad g 2)), (4, .int 32), (5, .int (nI i))] [] := by
  intro n
  induction n with
  | zero =>
    intro i C hi wo h
    refine V_iload (dG D_X4_restartAt 8 rfl) rfl ?_
    refine V_iload (dG D_X4_restartAt 9 rfl) rfl ?_
    refine V_icmp_ge (tgt := 46) (dG D_X4_restartAt 10 rfl) (by decide) (fun c_16 => ?_) (fun c_16 => absurd (l32 (by omega)) c_16)
    refine V_aload_nt (dG D_X4_restartAt 24 rfl) rfl ?_
    refine V_iload_n (dG D_X4_restartAt 25 rfl) rfl ?_
    refine R_nt1 (by assumption) (ok_forgetAll ht) lk_X4_310 (dG D_X4_restartAt 26 rfl) ⟨Nat.le_of_ble_eq_true rfl, Nat.le_of_ble_eq_true rfl⟩ ⟨(Nat.le_of_ble_eq_true rfl), (Nat.le_of_ble_eq_true rfl)⟩ (by first | exact Nat.le_of_ble_eq_true rfl | simp [cat_rf, cat_int, cat_ref]) (fun h => ?_)
    refine V_bipush (v := -12) (dG D_X4_restartAt 27 rfl) (by decide) ?_
    exact V_iret (dG D_X4_restartAt 28 rfl) rfl (Nat.le_of_ble_eq_true rfl) (Nat.le_of_ble_eq_true rfl) ⟨rfl, rfl, rfl, rfl⟩
  | succ n ih =>
    intro i C hi wo h
    refine V_iload (dG D_X4_restartAt 8 rfl) rfl ?_
    refine V_iload (dG D_X4_restartAt 9 rfl) rfl ?_
    refine V_icmp_ge (tgt := 46) (dG D_X4_restartAt 10 rfl) (by decide) (fun c_16 => absurd c_16 (g32 (by omega))) (fun c_16 => ?_)
    refine V_aload_n (dG D_X4_restartAt 11 rfl) rfl ?_
    refine V_iload (dG D_X4_restartAt 12 rfl) rfl ?_
    refine aald_cells (dG D_X4_restartAt 13 rfl) (inr_nI (by omega) (by decide)) ?_
    refine V_astore (dG D_X4_restartAt 14 rfl) (Nat.le_of_ble_eq_true rfl) ?_
    refine V_aload (dG D_X4_restartAt 15 rfl) rfl ?_
    refine gf_X4_82 rfl (dG D_X4_restartAt 16 rfl) (by first | assumption | omega) ?_
    refine V_aload_nt (dG D_X4_restartAt 17 rfl) rfl ?_
    refine V_acmpt_ne (tgt := 40) (dG D_X4_restartAt 18 rfl) (by decide) (wo i (by omega)) (Or.inr ht) (fun c_31 => ?_) (fun c_31 => ?_)
    · skip
      refine V_iinc (dG D_X4_restartAt 22 rfl) rfl (inc1 _) (Nat.le_of_ble_eq_true rfl) ?_
      refine V_goto (tgt := 12) (dG D_X4_restartAt 23 rfl) (by decide) ?_
      rw [show raL t (n + 1) i C = raL t n (i + 1) (if C 6 i = t then up C 6 i (-1) else C) from rfl]
      refine V_sub [0, 1, 2, 3, 4, 5] rfl ?_
      rw [if_neg c_31]
      exact ih (i + 1) C (by omega) wo h
    · skip
      refine V_aload (dG D_X4_restartAt 19 rfl) rfl ?_
      refine V_nullt (dG D_X4_restartAt 20 rfl) ?_
      refine pf_X4_82 rfl (dG D_X4_restartAt 21 rfl) (by first | assumption | omega) ?_
      refine V_iinc (dG D_X4_restartAt 22 rfl) rfl (inc1 _) (Nat.le_of_ble_eq_true rfl) ?_
      refine V_goto (tgt := 12) (dG D_X4_restartAt 23 rfl) (by decide) ?_
      rw [show raL t (n + 1) i C = raL t n (i + 1) (if C 6 i = t then up C 6 i (-1) else C) from rfl]
      refine V_sub [0, 1, 2, 3, 4, 5] rfl ?_
      rw [if_pos c_31]
      refine ih (i + 1) (up C 6 i (-1)) (by omega) (fun k hk => ?_) h
      by_cases e : k = i
      · subst e; rw [up_eq]; exact trv_null
      · rw [up_ne (Or.inr e)]; exact wo k hk
theorem ok_restartAt (ht : tok nt t) {st : Int32} (wo : ∀ k, k < 32 → trv nt (C 6 k)) : RET g K_X4_restartAt 0 0 [.ref (ad g 0), va_rf (trO g t), .int st] nt C M o (some (.int (-12))) (resC C t st) M o := by
  refine MT_of (by decide +kernel) rfl rfl (Nat.le_of_ble_eq_true rfl) (by simp [cat_rf, cat_int, cat_ref]) (fun h => ?_)
  refine V_aload_n (dG D_X4_restartAt 0 rfl) rfl ?_
  refine gf_X4_17 rfl (dG D_X4_restartAt 1 rfl) ?_
  refine V_astore_n (dG D_X4_restartAt 2 rfl) (Nat.le_of_ble_eq_true rfl) ?_
  refine V_aload_n (dG D_X4_restartAt 3 rfl) rfl ?_
  rw [← hp_ad (g := g) (h := h) (n := 2) (by decide) (by decide)]
  refine V_alenR (n := 2) (nn := 32) (t0 := 4) (Cn := RX0) (f := fun k => some (ad g (41 + k))) (v := 32) (dG D_X4_restartAt 4 rfl) (by omega) (ent_fix (by decide)) rfl rfl ?_
  rw [hp_ad (g := g) (h := h) (n := 2) (by decide) (by decide)]
  refine V_istore (dG D_X4_restartAt 5 rfl) (Nat.le_of_ble_eq_true rfl) ?_
  refine V_iconst (v := 0) (dG D_X4_restartAt 6 rfl) (by decide) ?_
  refine V_istore (dG D_X4_restartAt 7 rfl) (Nat.le_of_ble_eq_true rfl) ?_
  exact lp_restart ht 32 0 C (by omega) wo h
end B8
