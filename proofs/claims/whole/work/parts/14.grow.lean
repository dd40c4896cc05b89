/-! Arrays.copyOf, and the two calls of it that let the history grow -/
set_option maxHeartbeats 4000000 in
theorem ok_copyOf {g : GT} {q0 n m : Nat} {f : Nat → Int32} (hnm : n < m) (hm : m < 1000000) (sz : Nat) (hq0 : q0 < sz) : Met (gl g) (ky K_J7_copyOf_59c91) (kws K_J7_copyOf_59c91) (kR K_J7_copyOf_59c91 1 m) (va_Pc [.ref q0, .int (nI m)] (fun U => U.heap.size = sz ∧ va_P (gD g) vwCl [(q0, iA g 0 n f)] U.heap ∧ va_K (gD g) vwCl (gtys g) U)) (va_Qr (fun (_ : Unit) => True) (fun _ a t => sz ≤ a ∧ va_P (gD g) vwCl [(q0, iA g 0 n f), (a, iA g 0 m (va_cpy f (fun _ => 0) 0 0 n))] t.heap) (fun q => sz ≤ q ∨ q = q0)) 1 m (fun q => sz ≤ q ∨ q = q0) := by
  refine Met.ofW (cc := kc K_J7_copyOf_59c91) (maxL := 3) (ret := some (.array .int)) (by decide +kernel) rfl ?_
  intro p e s m1 args below meth c s₁ B hml hv
  obtain ⟨rfl, hsz, hP, hK⟩ := hv
  have hx := B.exec
  have hb := B.bytes
  have hr := B.returns
  have hts := atoms_spec (ws := kws K_J7_copyOf_59c91) B.pre
  have hg : ∀ w ∈ gtbl, w.before _ s = true := fun w hw => hts w (List.mem_cons_of_mem _ hw)
  have hown : s.vm.findClass RJ7 = some m1.cls := findClass_of_methodNamed B.named
  have hlocks := B.notSynchronized
  have hD : va_D (fun q => sz ≤ q ∨ q = q0) [(q0, iA g 0 n f)] := by
    refine ⟨fun i j x y hi hj _ => ?_, fun k q hk => ?_⟩
    · have h1 := (List.getElem?_eq_some_iff.mp hi).1
      have h2 := (List.getElem?_eq_some_iff.mp hj).1
      simp at h1 h2
      omega
    · match k, hk with
      | 0, hk => cases hk; exact Or.inr rfl
  have hS : va_S (fun q => sz ≤ q ∨ q = q0) s.heap s.heap [] := va_S.rf
  have hl := lv_entry ([.ref q0, .int (nI m)]) (n := 3) (Nat.le_of_ble_eq_true rfl)
  rw [lg_entry_eq]
  generalize (lg_sl ([.ref q0, .int (nI m)]) ++ List.replicate (3 - (lg_sl ([.ref q0, .int (nI m)])).length) Slot.unset).toArray = ls at hl ⊢
  have hl : lv_has ls 3 [(0, .ref q0), (1, .int (nI m))] := hl
  have hle : nI n ≤ nI m := nI_le (by omega) (by omega)
  refine lv_iload_n hx hb (dG D_J7_copyOf_59c91 0 rfl) rfl (lv_at hl 1 rfl) ?_
  refine lv_aload_n hx hb (dG D_J7_copyOf_59c91 1 rfl) rfl (lv_at hl 0 rfl) ?_
  refine va_alen hx hb hK hP 0 0 (v := nI n) rfl rfl rfl (dG D_J7_copyOf_59c91 2 rfl) ?_
  refine lv_icmp_ne (tgt := 14) hx hb (dG D_J7_copyOf_59c91 3 rfl) (by decide) (fun c_3 => ?_) (fun c_3 => absurd ((nI_eq (by omega) (by omega)).mp c_3) (by omega))
  refine lv_iload_n hx hb (dG D_J7_copyOf_59c91 8 rfl) rfl (lv_at hl 1 rfl) ?_
  refine va_newa (atype := .int) hx hb (hg _ w_57) (ty := .int) rfl hK hP hD hS (fun q hq => Or.inl (by omega)) (n := nI m) (N' := m) (a0 := (m, .inl (fun _ => 0))) (fun cA => rfl) (nI_pos (by omega)) (nI_clamp (by omega)) (by show m * 4 ≤ _; omega) (Nat.le_refl 1) (by show 0 + m ≤ m; omega) (dG D_J7_copyOf_59c91 9 rfl) (fun a cA H hK1 hP hD hS => ?_)
  have hcA : cA = gc g 0 := by
    have e1 := (hK1.2 6 (cA, .int) rfl).2
    have e2 := (hK.2 0 (gc g 0, .int) rfl).2
    have e3 : s.vm.findClass ("[" ++ FieldType.int.toString) = some cA := e1
    have e4 : s.vm.findClass ("[" ++ FieldType.int.toString) = some (gc g 0) := e2
    rw [e3] at e4
    exact Option.some.inj e4
  subst hcA
  have ha : sz ≤ a := by
    rcases hD.2 1 _ rfl with h | h
    · exact h
    · exact absurd (hD.1 0 1 _ _ rfl rfl h.symm) (by decide)
  refine lv_astore_n (lv' := [(2, .ref a), (0, .ref q0), (1, .int (nI m))]) hx hb (dG D_J7_copyOf_59c91 10 rfl) rfl hl (by decide) rfl (fun ls hl => ?_)
  refine lv_aload_n hx hb (dG D_J7_copyOf_59c91 11 rfl) rfl (lv_at hl 1 rfl) ?_
  refine lv_iconst (v := 0) hx hb (dG D_J7_copyOf_59c91 12 rfl) (by decide) ?_
  refine lv_aload_n hx hb (dG D_J7_copyOf_59c91 13 rfl) rfl (lv_at hl 0 rfl) ?_
  refine lv_iconst (v := 0) hx hb (dG D_J7_copyOf_59c91 14 rfl) (by decide) ?_
  refine lv_aload_n hx hb (dG D_J7_copyOf_59c91 15 rfl) rfl (lv_at hl 1 rfl) ?_
  refine va_alen hx hb hK hP 0 0 (v := nI n) rfl rfl rfl (dG D_J7_copyOf_59c91 16 rfl) ?_
  refine lv_iload_n hx hb (dG D_J7_copyOf_59c91 17 rfl) rfl (lv_at hl 2 rfl) ?_
  refine va_mmin hx hb (hml.trans hl.1.symm) hown (hg _ w_513) (hg _ w_139) (hg _ w_12) (hg _ w_140) (Nat.le_of_ble_eq_true rfl) (Nat.le_of_ble_eq_true rfl) (Nat.le_refl 1) (by show 0 + m ≤ m; omega) (dG D_J7_copyOf_59c91 18 rfl) ?_
  rw [if_neg (show ¬ nI m < nI n from Int32.not_lt.mpr hle)]
  refine va_copyi hx hb (hml.trans hl.1.symm) hown (hg _ w_514) (hg _ w_516) (hg _ w_515) (hg _ w_15) hK hP hD hS 0 1 0 0 rfl rfl rfl rfl rfl (by decide) (by decide) (nI_pos (by omega)) (by rw [nI_clamp (by omega)]; exact Nat.le_of_eq (Nat.zero_add n)) (by rw [nI_clamp (by omega)]; show 0 + n ≤ m; omega) (fun i _ => rfl) (Nat.le_of_ble_eq_true rfl) (Nat.le_of_ble_eq_true rfl) (dG D_J7_copyOf_59c91 19 rfl) (fun H locs hP hD hS => ?_)
  rw [nI_clamp (show n < 2 ^ 31 by omega)] at hP
  refine lv_aload_n hx hb (dG D_J7_copyOf_59c91 20 rfl) rfl (lv_at hl 0 rfl) ?_
  refine W.widen (k := 1) (n := m) (Nat.le_refl 1) (by omega) ?_
  exact W.aret hx hb (v := .ref a) hr (Or.inr ⟨_, rfl⟩) (Or.inr ⟨a, rfl⟩) (fun t ht hW => ⟨⟨(), a, rfl, trivial, ha, by rw [ht]; exact hP⟩, hS.F ht⟩) hS.2.2 (dG D_J7_copyOf_59c91 21 rfl)
def upr (S : St) (v : Nat) (f : Nat → Int32) : St := fun w j => if w = v then f j else S w j

def growC5 (C : St) (m : Nat) : St := upr (up C 27 0 (nI m)) 28 (va_cpy (C 28) (fun _ => 0) 0 0 (cap C))
theorem growC5_row {C : St} {m w : Nat} (h1 : w ≠ 27) (h2 : w ≠ 28) : growC5 C m w = C w := by
  funext j
  simp [growC5, upr, up, h1, h2]
theorem ent_grow5 {g : GT} {h : Nat × Nat} {C M : St} {o : Int64} {m a j : Nat} (h4 : j ≠ 4) (h5 : j ≠ 5) : ent g (a, h.2) (growC5 C m) M o j = ent g h C M o j := by
  have r : ∀ w, w ≠ 27 → w ≠ 28 → growC5 C m w = C w := fun w q1 q2 => growC5_row q1 q2
  have r0 : ∀ i, growC5 C m (50 + 3 * i) = C (50 + 3 * i) := fun i => r _ (by omega) (by omega)
  have r1 : ∀ i, growC5 C m (51 + 3 * i) = C (51 + 3 * i) := fun i => r _ (by omega) (by omega)
  have r2 : ∀ i, growC5 C m (52 + 3 * i) = C (52 + 3 * i) := fun i => r _ (by omega) (by omega)
  unfold ent
  simp only [nodeE, cellE, txE, txO, capv, r0, r1, r2, r 0 (by decide) (by decide), r 1 (by decide) (by decide), r 2 (by decide) (by decide), r 3 (by decide) (by decide), r 4 (by decide) (by decide), r 5 (by decide) (by decide), r 6 (by decide) (by decide), r 7 (by decide) (by decide), r 8 (by decide) (by decide), r 9 (by decide) (by decide), r 10 (by decide) (by decide), r 11 (by decide) (by decide), r 12 (by decide) (by decide), r 13 (by decide) (by decide), r 14 (by decide) (by decide), r 15 (by decide) (by decide), r 16 (by decide) (by decide), r 17 (by decide) (by decide), r 18 (by decide) (by decide), r 19 (by decide) (by decide), r 20 (by decide) (by decide), r 21 (by decide) (by decide), r 22 (by decide) (by decide), r 26 (by decide) (by decide), r 29 (by decide) (by decide), r 30 (by decide) (by decide), r 31 (by decide) (by decide), r 32 (by decide) (by decide), r 33 (by decide) (by decide), r 34 (by decide) (by decide)]
  split
  · unfold fixE
    split <;> first | rfl | exact absurd rfl h4 | exact absurd rfl h5
  · rfl
section GROW5
variable {g : GT} {K : MK} {R : Room} {Qf : QT} {kb nb nt : Nat} {h : Nat × Nat} {C M : St} {o : Int64} {pc : Nat} {lv : List (Nat × Value)} {st : List Value}
set_option maxHeartbeats 4000000 in
theorem V_copy5 {m : Nat} (ho : ko K = RX1) (hd : decode (kc K) pc = .ok (.invokestatic 31, 3)) (hd2 : decode (kc K) (pc + 3) = .ok (.putfield 9, 3)) (hnm : cap C < m) (hm : m < 1000000) (hro : kf K_J7_copyOf_59c91 + 1 ≤ R.frames ∧ 8 + (kL K_J7_copyOf_59c91 + 11) + klo K_J7_copyOf_59c91 ≤ R.locals) (hcs : kb + 1 ≤ R.cells ∧ nb + m ≤ R.slots) (hcat : ((Value.ref (ad g 4) :: st).map fun v => v.category).sum ≤ 8)
    (k : ∀ h1, V g K R Qf (kb + 1) (nb + m) nt h1 (growC5 C m) M o (pc + 6) lv st) : V g K R Qf kb nb nt h C M o pc lv (.int (nI m) :: .ref h.1 :: .ref (ad g 4) :: st) := by
  intro p e s m1 args below meth c H locs k1 n1 ls X h1 h2 hR hS hl hc
  obtain ⟨x1, x2, x3, x4, x5, x6, x7, x8, x9⟩ := id X
  obtain ⟨l1, l3, l4, l5, l6⟩ := lk_X1_31
  have hz0 : ∀ j, j < 73 + 4 * nt → hp g h j < H.size := fun j hj => (hR.1 j _ (wld_at hj)).lt
  have hN : ∀ j, j < 73 + 4 * nt → gA g (hp g h j) := fun j hj => hR.2.2 j _ (wld_at hj)
  have e5 : ent g h C M o 5 = iA g 0 (cap C) (C 28) := ent_fix (by decide)
  have a5 := hR.1 5 _ (wld_at (show 5 < 73 + 4 * nt by omega))
  rw [e5] at a5
  have h5 : va_P (gD g) vwCl [(h.1, iA g 0 (cap C) (C 28))] H := by
    intro j q hj
    match j, hj with
    | 0, hj => cases hj; exact a5
  have x5' : s.vm.findClass RX1 = some m1.cls := by rw [← ho]; exact x5
  have hcb := callB_of (R := R) (own := RX1) (index := 31) (rm := kR K_J7_copyOf_59c91 1 m) (mc := 1) (ms := m) 2 x6 (good_kws l5) rfl rfl rfl (x6 _ l4) (x6 _ l1) l6 hro
  have hq0 : h.1 < H.size := hz0 5 (by omega)
  have hrun := va_runS (g := F0 m1 pc ls (.int (nI m) :: .ref h.1 :: .ref (ad g 4) :: st)) (l := gl g) (H := H) (locs := locs) (cells := k1) (slots := n1) (e := e) (below := below) (meth := meth) (rest := .ref (ad g 4) :: st) (As := [.ref h.1, .int (nI m)]) ⟨x1, x2, x4, x5', x6⟩ (ok_copyOf (g := g) (f := C 28) hnm hm H.size hq0) ⟨hcb, x6 _ l3⟩ ⟨fun a U j mk q => ⟨q.1, q.2.1, q.2.2.1, va_K.moved (u := U) (U := U.calling j mk a) (Vm.Alike.refl U.vm) q.2.2.2⟩, fun U hU hW => ⟨rfl, by rw [hU], by rw [hU]; exact h5, va_K.moved hW.alike x9.1⟩⟩ rfl rfl hl.1 rfl (lv_room hcat) hd ⟨by omega, by omega⟩
  have hsz : gN g ≤ H.size := Nat.le_trans (hN 0 (by omega)) (Nat.le_of_lt (hz0 0 (by omega)))
  refine va_callr hrun hS (fun q hq z => ?_) (fun q z => ?_) (fun u a t H1 locs1 ht hvm hpo hB hz hk hS1 => ?_)
  · rcases z with z | z
    · exact absurd z (by omega)
    · rw [z]; exact hN 5 (by omega)
  · rcases z with z | z
    · exact Nat.le_trans hsz z
    · rw [z]; exact hN 5 (by omega)
  obtain ⟨ha, hPa⟩ := hB
  rw [ht] at hPa
  have hPw : va_P (gD g) vwCl (wld g nt h C M o) H1 := by
    intro j q hj
    have hjl : j < 73 + 4 * nt := by have := (List.getElem?_eq_some_iff.mp hj).1; simpa [wld] using this
    by_cases e : j = 5
    · subst e
      have e6 := hj.symm.trans (wld_at hjl)
      rw [e5] at e6
      cases e6
      exact hPa 0 _ rfl
    · refine (hR.1 j q hj).kept (hk q.1 (hR.1 j q hj).lt ?_)
      rintro (z | z)
      · exact absurd (hR.1 j q hj).lt (by omega)
      · exact e (hR.2.1 j 5 q _ hj (wld_at (by omega)) z)
  have hP1 : va_P (gD g) vwCl [(a, iA g 0 m (va_cpy (C 28) (fun _ => 0) 0 0 (cap C)))] H1 := by
    intro j q hj
    match j, hj with
    | 0, hj => cases hj; exact hPa 1 _ rfl
  have hD1 : va_D (gA g) [(a, iA g 0 m (va_cpy (C 28) (fun _ => 0) 0 0 (cap C)))] := by
    refine ⟨fun i j x y hi hj _ => ?_, fun j q hj => ?_⟩
    · have q1 := (List.getElem?_eq_some_iff.mp hi).1
      have q2 := (List.getElem?_eq_some_iff.mp hj).1
      simp at q1 q2
      omega
    · match j, hj with
      | 0, hj => cases hj; exact Nat.le_trans hsz ha
  have hlen : (wld g nt h C M o).length = 73 + 4 * nt := by simp [wld]
  have hD2 := va_D.app hR.2 hD1 (fun i j x y hi hj q => by
    have q1 := (hR.1 i x hi).lt
    match j, hj with
    | 0, hj => cases hj; have q2 : x.1 = a := q; omega)
  have hP2 := va_P.app hPw hP1
  have e4 : ent g h C M o 4 = .inr (1, [.ref h.1, .ref h.2, .int (C 26 0), .ref (ad g 7), .int (C 31 0), .ref (ad g 8)]) := ent_fix (by decide)
  refine va_put (A := gA g) (ci := 1) (v := .ref a) (ty := .array .int) (C := RX1) (T := TX1) (N := 6) x1 x2 x6 uin_1 tyX1 tyX1_ok nmX1 x5' x9.1 hP2 hD2 hS1 4 (fs := [.ref h.1, .ref h.2, .int (C 26 0), .ref (ad g 7), .int (C 31 0), .ref (ad g 8)]) (by rw [List.getElem?_append_left (by omega), wld_at (by omega), e4, hp_ad (by decide) (by decide)]) rfl 0 (by decide) (x6 _ w_38) (fun _ q => q) rfl (by decide +kernel) rfl rfl (Nat.le_of_ble_eq_true rfl) hd2 (fun H2 locs2 hP3 hD3 hS3 => ?_)
  have key : ∀ j, j < 73 + 4 * nt → ∃ i, ((wld g nt h C M o ++ [(a, iA g 0 m (va_cpy (C 28) (fun _ => 0) 0 0 (cap C)))]).set 4 (ad g 4, .inr (1, [.ref h.1, .ref h.2, .int (C 26 0), .ref (ad g 7), .int (C 31 0), .ref (ad g 8)].set 0 (.ref a))))[i]? = some (hp g (a, h.2) j, ent g (a, h.2) (growC5 C m) M o j) ∧ (i = if j = 5 then 73 + 4 * nt else j) := by
    intro j hj
    by_cases e : j = 5
    · subst e
      refine ⟨73 + 4 * nt, ?_, by rw [if_pos rfl]⟩
      rw [List.getElem?_set_ne (by omega), List.getElem?_append_right (by omega), hlen, Nat.sub_self]
      have e7 : ent g (a, h.2) (growC5 C m) M o 5 = iA g 0 m (va_cpy (C 28) (fun _ => 0) 0 0 (cap C)) := by
        have c1 : cap (growC5 C m) = m := by
          show (nI m).toNatClampNeg = m
          exact nI_clamp (by omega)
        have c2 : growC5 C m 28 = va_cpy (C 28) (fun _ => 0) 0 0 (cap C) := rfl
        rw [ent_fix (by decide)]
        show iA g 0 (cap (growC5 C m)) (growC5 C m 28) = _
        rw [c1, c2]
      rw [e7]
      rfl
    · refine ⟨j, ?_, by rw [if_neg e]⟩
      by_cases e8 : j = 4
      · subst e8
        rw [List.getElem?_set_self (by simp [hlen]; omega), hp_ad (by decide) (by decide), ent_fix (by decide)]
        rfl
      · rw [List.getElem?_set_ne (fun q => e8 q.symm), List.getElem?_append_left (by omega), wld_at hj, ent_grow5 (h := h) e8 e]
        have e9 : hp g (a, h.2) j = hp g h j := by simp [hp, e]
        rw [e9]
  have hRep : Rep g nt (a, h.2) (growC5 C m) M o H2 := by
    refine ⟨fun j q hj => ?_, fun i j x y hi hj q => ?_, fun j q hj => ?_⟩
    · have hjl : j < 73 + 4 * nt := by have := (List.getElem?_eq_some_iff.mp hj).1; simpa [wld] using this
      obtain ⟨i, h7, -⟩ := key j hjl
      rw [wld_at hjl] at hj
      cases hj
      exact hP3 i _ h7
    · have hil : i < 73 + 4 * nt := by have := (List.getElem?_eq_some_iff.mp hi).1; simpa [wld] using this
      have hjl : j < 73 + 4 * nt := by have := (List.getElem?_eq_some_iff.mp hj).1; simpa [wld] using this
      obtain ⟨i1, a1, b1⟩ := key i hil
      obtain ⟨j1, a2, b2⟩ := key j hjl
      rw [wld_at hil] at hi
      rw [wld_at hjl] at hj
      cases hi
      cases hj
      have e10 := hD3.1 i1 j1 _ _ a1 a2 q
      rw [b1, b2] at e10
      split at e10 <;> split at e10 <;> omega
    · have hjl : j < 73 + 4 * nt := by have := (List.getElem?_eq_some_iff.mp hj).1; simpa [wld] using this
      obtain ⟨i, h7, -⟩ := key j hjl
      rw [wld_at hjl] at hj
      cases hj
      exact hD3.2 i _ h7
  exact k (a, h.2) p e s m1 args below meth c H2 locs2 (k1 + 1) (n1 + m) ls X (by omega) (by omega) hRep hS3 hl hc
end GROW5

def growC6 (C : St) (m : Nat) : St := upr (up C 34 0 (nI m)) 29 (va_cpy (C 29) (fun _ => 0) 0 0 (capv C))
theorem growC6_row {C : St} {m w : Nat} (h1 : w ≠ 34) (h2 : w ≠ 29) : growC6 C m w = C w := by
  funext j
  simp [growC6, upr, up, h1, h2]
theorem ent_grow6 {g : GT} {h : Nat × Nat} {C M : St} {o : Int64} {m a j : Nat} (h4 : j ≠ 4) (h5 : j ≠ 6) : ent g (h.1, a) (growC6 C m) M o j = ent g h C M o j := by
  have r : ∀ w, w ≠ 34 → w ≠ 29 → growC6 C m w = C w := fun w q1 q2 => growC6_row q1 q2
  have r0 : ∀ i, growC6 C m (50 + 3 * i) = C (50 + 3 * i) := fun i => r _ (by omega) (by omega)
  have r1 : ∀ i, growC6 C m (51 + 3 * i) = C (51 + 3 * i) := fun i => r _ (by omega) (by omega)
  have r2 : ∀ i, growC6 C m (52 + 3 * i) = C (52 + 3 * i) := fun i => r _ (by omega) (by omega)
  unfold ent
  simp only [nodeE, cellE, txE, txO, cap, r0, r1, r2, r 0 (by decide) (by decide), r 1 (by decide) (by decide), r 2 (by decide) (by decide), r 3 (by decide) (by decide), r 4 (by decide) (by decide), r 5 (by decide) (by decide), r 6 (by decide) (by decide), r 7 (by decide) (by decide), r 8 (by decide) (by decide), r 9 (by decide) (by decide), r 10 (by decide) (by decide), r 11 (by decide) (by decide), r 12 (by decide) (by decide), r 13 (by decide) (by decide), r 14 (by decide) (by decide), r 15 (by decide) (by decide), r 16 (by decide) (by decide), r 17 (by decide) (by decide), r 18 (by decide) (by decide), r 19 (by decide) (by decide), r 20 (by decide) (by decide), r 21 (by decide) (by decide), r 22 (by decide) (by decide), r 26 (by decide) (by decide), r 27 (by decide) (by decide), r 28 (by decide) (by decide), r 30 (by decide) (by decide), r 31 (by decide) (by decide), r 32 (by decide) (by decide), r 33 (by decide) (by decide)]
  split
  · unfold fixE
    split <;> first | rfl | exact absurd rfl h4 | exact absurd rfl h5
  · rfl
section GROW6
variable {g : GT} {K : MK} {R : Room} {Qf : QT} {kb nb nt : Nat} {h : Nat × Nat} {C M : St} {o : Int64} {pc : Nat} {lv : List (Nat × Value)} {st : List Value}
set_option maxHeartbeats 4000000 in
theorem V_copy6 {m : Nat} (ho : ko K = RX1) (hd : decode (kc K) pc = .ok (.invokestatic 31, 3)) (hd2 : decode (kc K) (pc + 3) = .ok (.putfield 15, 3)) (hnm : capv C < m) (hm : m < 1000000) (hro : kf K_J7_copyOf_59c91 + 1 ≤ R.frames ∧ 8 + (kL K_J7_copyOf_59c91 + 11) + klo K_J7_copyOf_59c91 ≤ R.locals) (hcs : kb + 1 ≤ R.cells ∧ nb + m ≤ R.slots) (hcat : ((Value.ref (ad g 4) :: st).map fun v => v.category).sum ≤ 8)
    (k : ∀ h1, V g K R Qf (kb + 1) (nb + m) nt h1 (growC6 C m) M o (pc + 6) lv st) : V g K R Qf kb nb nt h C M o pc lv (.int (nI m) :: .ref h.2 :: .ref (ad g 4) :: st) := by
  intro p e s m1 args below meth c H locs k1 n1 ls X h1 h2 hR hS hl hc
  obtain ⟨x1, x2, x3, x4, x5, x6, x7, x8, x9⟩ := id X
  obtain ⟨l1, l3, l4, l5, l6⟩ := lk_X1_31
  have hz0 : ∀ j, j < 73 + 4 * nt → hp g h j < H.size := fun j hj => (hR.1 j _ (wld_at hj)).lt
  have hN : ∀ j, j < 73 + 4 * nt → gA g (hp g h j) := fun j hj => hR.2.2 j _ (wld_at hj)
  have e5 : ent g h C M o 6 = iA g 0 (capv C) (C 29) := ent_fix (by decide)
  have a5 := hR.1 6 _ (wld_at (show 6 < 73 + 4 * nt by omega))
  rw [e5] at a5
  have h5 : va_P (gD g) vwCl [(h.2, iA g 0 (capv C) (C 29))] H := by
    intro j q hj
    match j, hj with
    | 0, hj => cases hj; exact a5
  have x5' : s.vm.findClass RX1 = some m1.cls := by rw [← ho]; exact x5
  have hcb := callB_of (R := R) (own := RX1) (index := 31) (rm := kR K_J7_copyOf_59c91 1 m) (mc := 1) (ms := m) 2 x6 (good_kws l5) rfl rfl rfl (x6 _ l4) (x6 _ l1) l6 hro
  have hq0 : h.2 < H.size := hz0 6 (by omega)
  have hrun := va_runS (g := F0 m1 pc ls (.int (nI m) :: .ref h.2 :: .ref (ad g 4) :: st)) (l := gl g) (H := H) (locs := locs) (cells := k1) (slots := n1) (e := e) (below := below) (meth := meth) (rest := .ref (ad g 4) :: st) (As := [.ref h.2, .int (nI m)]) ⟨x1, x2, x4, x5', x6⟩ (ok_copyOf (g := g) (f := C 29) hnm hm H.size hq0) ⟨hcb, x6 _ l3⟩ ⟨fun a U j mk q => ⟨q.1, q.2.1, q.2.2.1, va_K.moved (u := U) (U := U.calling j mk a) (Vm.Alike.refl U.vm) q.2.2.2⟩, fun U hU hW => ⟨rfl, by rw [hU], by rw [hU]; exact h5, va_K.moved hW.alike x9.1⟩⟩ rfl rfl hl.1 rfl (lv_room hcat) hd ⟨by omega, by omega⟩
  have hsz : gN g ≤ H.size := Nat.le_trans (hN 0 (by omega)) (Nat.le_of_lt (hz0 0 (by omega)))
  refine va_callr hrun hS (fun q hq z => ?_) (fun q z => ?_) (fun u a t H1 locs1 ht hvm hpo hB hz hk hS1 => ?_)
  · rcases z with z | z
    · exact absurd z (by omega)
    · rw [z]; exact hN 6 (by omega)
  · rcases z with z | z
    · exact Nat.le_trans hsz z
    · rw [z]; exact hN 6 (by omega)
  obtain ⟨ha, hPa⟩ := hB
  rw [ht] at hPa
  have hPw : va_P (gD g) vwCl (wld g nt h C M o) H1 := by
    intro j q hj
    have hjl : j < 73 + 4 * nt := by have := (List.getElem?_eq_some_iff.mp hj).1; simpa [wld] using this
    by_cases e : j = 6
    · subst e
      have e6 := hj.symm.trans (wld_at hjl)
      rw [e5] at e6
      cases e6
      exact hPa 0 _ rfl
    · refine (hR.1 j q hj).kept (hk q.1 (hR.1 j q hj).lt ?_)
      rintro (z | z)
      · exact absurd (hR.1 j q hj).lt (by omega)
      · exact e (hR.2.1 j 6 q _ hj (wld_at (by omega)) z)
  have hP1 : va_P (gD g) vwCl [(a, iA g 0 m (va_cpy (C 29) (fun _ => 0) 0 0 (capv C)))] H1 := by
    intro j q hj
    match j, hj with
    | 0, hj => cases hj; exact hPa 1 _ rfl
  have hD1 : va_D (gA g) [(a, iA g 0 m (va_cpy (C 29) (fun _ => 0) 0 0 (capv C)))] := by
    refine ⟨fun i j x y hi hj _ => ?_, fun j q hj => ?_⟩
    · have q1 := (List.getElem?_eq_some_iff.mp hi).1
      have q2 := (List.getElem?_eq_some_iff.mp hj).1
      simp at q1 q2
      omega
    · match j, hj with
      | 0, hj => cases hj; exact Nat.le_trans hsz ha
  have hlen : (wld g nt h C M o).length = 73 + 4 * nt := by simp [wld]
  have hD2 := va_D.app hR.2 hD1 (fun i j x y hi hj q => by
    have q1 := (hR.1 i x hi).lt
    match j, hj with
    | 0, hj => cases hj; have q2 : x.1 = a := q; omega)
  have hP2 := va_P.app hPw hP1
  have e4 : ent g h C M o 4 = .inr (1, [.ref h.1, .ref h.2, .int (C 26 0), .ref (ad g 7), .int (C 31 0), .ref (ad g 8)]) := ent_fix (by decide)
  refine va_put (A := gA g) (ci := 1) (v := .ref a) (ty := .array .int) (C := RX1) (T := TX1) (N := 6) x1 x2 x6 uin_1 tyX1 tyX1_ok nmX1 x5' x9.1 hP2 hD2 hS1 4 (fs := [.ref h.1, .ref h.2, .int (C 26 0), .ref (ad g 7), .int (C 31 0), .ref (ad g 8)]) (by rw [List.getElem?_append_left (by omega), wld_at (by omega), e4, hp_ad (by decide) (by decide)]) rfl 1 (by decide) (x6 _ w_39) (fun _ q => q) rfl (by decide +kernel) rfl rfl (Nat.le_of_ble_eq_true rfl) hd2 (fun H2 locs2 hP3 hD3 hS3 => ?_)
  have key : ∀ j, j < 73 + 4 * nt → ∃ i, ((wld g nt h C M o ++ [(a, iA g 0 m (va_cpy (C 29) (fun _ => 0) 0 0 (capv C)))]).set 4 (ad g 4, .inr (1, [.ref h.1, .ref h.2, .int (C 26 0), .ref (ad g 7), .int (C 31 0), .ref (ad g 8)].set 1 (.ref a))))[i]? = some (hp g (h.1, a) j, ent g (h.1, a) (growC6 C m) M o j) ∧ (i = if j = 6 then 73 + 4 * nt else j) := by
    intro j hj
    by_cases e : j = 6
    · subst e
      refine ⟨73 + 4 * nt, ?_, by rw [if_pos rfl]⟩
      rw [List.getElem?_set_ne (by omega), List.getElem?_append_right (by omega), hlen, Nat.sub_self]
      have e7 : ent g (h.1, a) (growC6 C m) M o 6 = iA g 0 m (va_cpy (C 29) (fun _ => 0) 0 0 (capv C)) := by
        have c1 : capv (growC6 C m) = m := by
          show (nI m).toNatClampNeg = m
          exact nI_clamp (by omega)
        have c2 : growC6 C m 29 = va_cpy (C 29) (fun _ => 0) 0 0 (capv C) := rfl
        rw [ent_fix (by decide)]
        show iA g 0 (capv (growC6 C m)) (growC6 C m 29) = _
        rw [c1, c2]
      rw [e7]
      rfl
    · refine ⟨j, ?_, by rw [if_neg e]⟩
      by_cases e8 : j = 4
      · subst e8
        rw [List.getElem?_set_self (by simp [hlen]; omega), hp_ad (by decide) (by decide), ent_fix (by decide)]
        rfl
      · rw [List.getElem?_set_ne (fun q => e8 q.symm), List.getElem?_append_left (by omega), wld_at hj, ent_grow6 (h := h) e8 e]
        have e9 : hp g (h.1, a) j = hp g h j := by simp [hp, e]
        rw [e9]
  have hRep : Rep g nt (h.1, a) (growC6 C m) M o H2 := by
    refine ⟨fun j q hj => ?_, fun i j x y hi hj q => ?_, fun j q hj => ?_⟩
    · have hjl : j < 73 + 4 * nt := by have := (List.getElem?_eq_some_iff.mp hj).1; simpa [wld] using this
      obtain ⟨i, h7, -⟩ := key j hjl
      rw [wld_at hjl] at hj
      cases hj
      exact hP3 i _ h7
    · have hil : i < 73 + 4 * nt := by have := (List.getElem?_eq_some_iff.mp hi).1; simpa [wld] using this
      have hjl : j < 73 + 4 * nt := by have := (List.getElem?_eq_some_iff.mp hj).1; simpa [wld] using this
      obtain ⟨i1, a1, b1⟩ := key i hil
      obtain ⟨j1, a2, b2⟩ := key j hjl
      rw [wld_at hil] at hi
      rw [wld_at hjl] at hj
      cases hi
      cases hj
      have e10 := hD3.1 i1 j1 _ _ a1 a2 q
      rw [b1, b2] at e10
      split at e10 <;> split at e10 <;> omega
    · have hjl : j < 73 + 4 * nt := by have := (List.getElem?_eq_some_iff.mp hj).1; simpa [wld] using this
      obtain ⟨i, h7, -⟩ := key j hjl
      rw [wld_at hjl] at hj
      cases hj
      exact hD3.2 i _ h7
  exact k (h.1, a) p e s m1 args below meth c H2 locs2 (k1 + 1) (n1 + m) ls X (by omega) (by omega) hRep hS3 hl hc
end GROW6
