/-! class: what looking keeps; get and put -/
theorem tok_inj {nt : Nat} {t u : Int32} (ht : tok nt t) (hu : tok nt u) (e : t.toNatClampNeg = u.toNatClampNeg) : t = u := (nI_self ht.1).symm.trans ((congrArg nI e).trans (nI_self hu.1))
theorem cap_up {C : St} {v i : Nat} {x : Int32} (h : v ≠ 27) : cap (up C v i x) = cap C := by unfold cap; rw [up_row (fun q => h q.symm)]
theorem dec_15 {C : St} {u : Int32} {j : Nat} (h : j ≠ u.toNatClampNeg) : decS C u 15 j = C 15 j := by
  unfold decS
  split
  · exact up_ne (Or.inr h)
  · rw [dsL_row (by decide) (by decide) (by decide) (by decide) (by decide) (by decide)]
    unfold dsC
    rw [addCoS_row (by decide) (by decide)]
    exact up_ne (Or.inr h)
theorem meet_15 {nt : Nat} {C : St} {t : Int32} {k : Nat} (h : WF nt C) (ht : tok nt t) (hk : k < 32) : meetC C t k 15 t.toNatClampNeg = C 15 t.toNatClampNeg := by
  unfold meetC
  split
  · rfl
  · rename_i h1
    split
    · rfl
    · rename_i h2
      have hu := trv_tok (h.wo k hk) h1
      have hne : t.toNatClampNeg ≠ (C 6 k).toNatClampNeg := fun e => h2 (tok_inj ht hu e).symm
      have e3 : ∀ D : St, m3S D k (C 6 k) 15 = D 15 := fun D => by
        unfold m3S
        split
        · exact up_row (by decide)
        · rfl
      have e2 : ∀ D : St, m2S D (C 6 k) 15 t.toNatClampNeg = D 15 t.toNatClampNeg := fun D => by
        unfold m2S
        split
        · split
          · rfl
          · exact up_ne (Or.inr hne)
        · rfl
      rw [e3, e2]
      unfold m1S
      split
      · exact dec_15 hne
      · rfl
theorem rfA_15 {nt : Nat} {t s : Int32} (ht : tok nt t) : ∀ {n i : Nat} {C : St}, i + n ≤ 32 → WF nt C → (rfA t s n i C).2 15 t.toNatClampNeg = C 15 t.toNatClampNeg
  | 0, _, _, _, _ => rfl
  | n + 1, i, C, hi, h => by
    have hm := WF_meet (t := t) h (show i < 32 by omega)
    have em := meet_15 h ht (show i < 32 by omega)
    have ih := (rfA_15 ht (s := s) (n := n) (i := i + 1) (by omega) hm).trans em
    have h2 := rf2_2 (D := meetC C t i) (E := C) (t := t) (s := s) (i := i) (p := rfA t s n (i + 1) (meetC C t i)) (fun X => X 15 t.toNatClampNeg = C 15 t.toNatClampNeg) ih em
    unfold rfA
    split
    · exact rfA_15 ht (by omega) h
    · split
      · split
        · exact h2
        · split
          · exact em
          · exact h2
      · rfl
theorem ref_15 {nt : Nat} {C : St} {t s : Int32} (h : WF nt C) (ht : tok nt t) : refC C t s 15 t.toNatClampNeg = C 15 t.toNatClampNeg := by
  have h1 := rfA_15 ht (s := s) (n := 32) (i := 0) (by omega) h
  unfold refC rfF
  split
  · exact h1
  · unfold raiseS
    rw [up_row (by decide), up_row (by decide), rfB_row (by decide) (by decide)]
    exact h1
theorem res_15 {C : St} {t s : Int32} : resC C t s 15 = C 15 := by
  unfold resC forgetS
  rw [up_row (by decide), up_row (by decide), up_row (by decide), up_row (by decide), raL_row (by decide)]
theorem nr_row {E : St} {i k w : Nat} {num s v : Int32} (h8 : w ≠ 8) (h9 : w ≠ 9) (h20 : w ≠ 20) (h50 : w < 50) : noteReadS (noteR E k num s) i k v w = E w := by
  unfold noteReadS
  rw [up_row (by omega), up_row h20, noteR_row h8 h9]
theorem WF_nr {nt : Nat} {E : St} {i k : Nat} {num s v : Int32} (h : WF nt E) : WF nt (noteReadS (noteR E k num s) i k v) := h.congr (nr_row (by decide) (by decide) (by decide) (by decide)) (nr_row (by decide) (by decide) (by decide) (by decide)) (nr_row (by decide) (by decide) (by decide) (by decide)) (nr_row (by decide) (by decide) (by decide) (by decide)) (nr_row (by decide) (by decide) (by decide) (by decide)) (nr_row (by decide) (by decide) (by decide) (by decide)) (nr_row (by decide) (by decide) (by decide) (by decide)) (nr_row (by decide) (by decide) (by decide) (by decide)) (nr_row (by decide) (by decide) (by decide) (by decide)) (nr_row (by decide) (by decide) (by decide) (by decide)) (nr_row (by decide) (by decide) (by decide) (by decide)) (nr_row (by decide) (by decide) (by decide) (by decide))
theorem WF_raL {nt : Nat} {t : Int32} : ∀ {n i : Nat} {C : St}, WF nt C → WF nt (raL t n i C)
  | 0, _, _, h => h
  | n + 1, i, C, h => by
    unfold raL
    split
    · exact WF_raL (WF_up6 h trv_null)
    · exact WF_raL h
theorem WF_res {nt : Nat} {C : St} {t s : Int32} (h : WF nt C) : WF nt (resC C t s) := by
  unfold resC forgetS
  exact WF_up (WF_up (WF_up (WF_up (WF_raL h) (by decide)) (by decide)) (by decide)) (by decide)
theorem WF_lk2 {nt : Nat} {E : St} {t hz : Int32} {k : Nat} (h : WF nt E) : WF nt (lk2 E t k hz).2 := by
  unfold lk2
  split
  · exact WF_nr h
  · split
    · exact WF_res (WF_ref h)
    · exact WF_ref h
theorem lk2_15 {nt : Nat} {E : St} {t hz : Int32} {k : Nat} (h : WF nt E) (ht : tok nt t) : (lk2 E t k hz).2 15 t.toNatClampNeg = E 15 t.toNatClampNeg := by
  by_cases c1 : stX E (nI k) hz ≤ E 16 t.toNatClampNeg
  · rw [show (lk2 E t k hz).2 = noteReadS (noteR E k (E 11 t.toNatClampNeg) (E 16 t.toNatClampNeg)) t.toNatClampNeg k (vaX (noteR E k (E 11 t.toNatClampNeg) (E 16 t.toNatClampNeg)) (nI k) (E 16 t.toNatClampNeg)) from by unfold lk2; rw [if_pos c1]]
    rw [nr_row (by decide) (by decide) (by decide) (by decide)]
  · by_cases c2 : refR E t (stX E (nI k) hz) = 0
    · rw [show (lk2 E t k hz).2 = resC (refC E t (stX E (nI k) hz)) t (stX E (nI k) hz) from by unfold lk2; rw [if_neg c1, if_pos c2], res_15]
      exact ref_15 h ht
    · rw [show (lk2 E t k hz).2 = refC E t (stX E (nI k) hz) from by unfold lk2; rw [if_neg c1, if_neg c2]]
      exact ref_15 h ht
theorem wfS0 {C : St} {i : Nat} (h : ¬ wfS C i < 0) : C 15 (wfS C i).toNatClampNeg = 0 := by
  unfold wfS at h ⊢
  split
  · rename_i e; exact e.2.2
  · rename_i e; rw [if_neg e] at h; exact absurd (by decide) h
theorem viL0 {C : St} {t : Int32} : ∀ {n : Nat} {v x : Int32}, C 15 v.toNatClampNeg = 0 → (¬ x < 0 → C 15 x.toNatClampNeg = 0) → ¬ viL C t n v x < 0 → C 15 (viL C t n v x).toNatClampNeg = 0
  | 0, v, x, hv, _, h => by
    unfold viL at h ⊢
    by_cases e : x = t
    · rw [if_pos e]; exact hv
    · rw [if_neg e] at h; exact absurd (by decide) h
  | n + 1, v, x, hv, hx, h => by
    unfold viL at h ⊢
    by_cases e0 : x < 0
    · rw [if_pos e0] at h ⊢
      by_cases e : x = t
      · rw [if_pos e]; exact hv
      · rw [if_neg e] at h; exact absurd (by decide) h
    · rw [if_neg e0] at h ⊢
      by_cases e : x = t
      · rw [if_pos e]; exact hv
      · rw [if_neg e] at h ⊢
        refine viL0 ?_ wfS0 h
        split
        · exact hv
        · exact hx e0
theorem vic0 {C : St} {t : Int32} (h : C 15 t.toNatClampNeg = 0) (hv : ¬ vicS C t < 0) : C 15 (vicS C t).toNatClampNeg = 0 := viL0 h wfS0 hv
theorem WF_wa {nt : Nat} {C : St} {t u : Int32} (h : WF nt C) (hu : tok nt u) (h0 : C 15 t.toNatClampNeg = 0) : WF nt (waC C t u) := by
  unfold waC
  split
  · exact WF_up19 h (Or.inr hu)
  · rename_i c
    have hv := vic0 (C := up C 19 t.toNatClampNeg u) (by rw [up_row (by decide)]; exact h0) c
    refine WF_up15 (WF_up19 (WF_up19 h (Or.inr hu)) trv_null) ?_ (by decide)
    rw [up_row (by decide), hv]
    decide
theorem wa_15 {nt : Nat} {C : St} {t u : Int32} (h : WF nt C) (ht : tok nt t) (hu : tok nt u) : waC C t u 15 t.toNatClampNeg = C 15 t.toNatClampNeg ∨ waR C t u ≠ -99 := by
  unfold waC waR
  split
  · exact Or.inl (congrFun (up_row (by decide)) _)
  · rename_i c
    split
    · exact Or.inr (by decide)
    · rename_i c2
      left
      have hv := trv_tok (vic_trv (C := up C 19 t.toNatClampNeg u) (t := t) (fun i hi => (WF_up19 h (Or.inr hu)).aw i hi) ht) c
      rw [up_ne (Or.inr (fun e => c2 (tok_inj hv ht e.symm))), up_row (by decide), up_row (by decide)]
theorem WF_lk {nt : Nat} {C : St} {t : Int32} {k : Nat} (h : WF nt C) (ht : tok nt t) (hk : k < 32) (h0 : C 15 t.toNatClampNeg = 0) : WF nt (lkR C t k).2 := by
  have hm := WF_meet (t := t) h hk
  unfold lkR
  split
  · split
    · exact WF_lk2 hm
    · rename_i c
      split
      · exact WF_lk2 hm
      · split
        · exact WF_lk2 (WF_up17 hm)
        · exact WF_wa hm (trv_tok (meetR_trv h hk) c) (by rw [meet_15 h ht hk]; exact h0)
  · exact h
theorem lk_15 {nt : Nat} {C : St} {t : Int32} {k : Nat} (h : WF nt C) (ht : tok nt t) (hk : k < 32) (h0 : C 15 t.toNatClampNeg = 0) (hr : (lkR C t k).1 = -99) : (lkR C t k).2 15 t.toNatClampNeg = 0 := by
  have hm := WF_meet (t := t) h hk
  have em := (meet_15 h ht hk).trans h0
  unfold lkR at hr ⊢
  split
  · rename_i c1
    rw [if_pos c1] at hr
    split
    · exact (lk2_15 hm ht).trans em
    · rename_i c
      rw [if_neg c] at hr
      split
      · exact (lk2_15 hm ht).trans em
      · rename_i c2
        rw [if_neg c2] at hr
        split
        · exact (lk2_15 (WF_up17 hm) ht).trans ((congrFun (up_row (by decide)) _).trans em)
        · rename_i c3
          rw [if_neg c3] at hr
          exact ((wa_15 hm ht (trv_tok (meetR_trv h hk) c)).resolve_right (fun q => q hr)).trans em
  · exact h0
theorem WF_lw3 {nt : Nat} {D : St} {t v : Int32} {k : Nat} (h : WF nt D) (ht : tok nt t) : WF nt (lw3 D t k v) := by
  unfold lw3 noteWriteS
  exact WF_up (WF_up6 (WF_up (WF_up (WF_up h (by decide)) (by decide)) (by omega)) (Or.inr ht)) (by decide)
theorem WF_lw {nt : Nat} {C : St} {t v : Int32} {k : Nat} (h : WF nt C) (ht : tok nt t) (hk : k < 32) (h0 : C 15 t.toNatClampNeg = 0) : WF nt (lwR C t k v).2 := by
  have hm := WF_meet (t := t) h hk
  unfold lwR
  split
  · exact WF_lw3 hm ht
  · rename_i c
    split
    · exact WF_lw3 (WF_up15 hm (meet_st (nt := nt) c) (by decide)) ht
    · exact WF_wa hm (trv_tok (meetR_trv h hk) c) (by rw [meet_15 h ht hk]; exact h0)
theorem lw_15 {nt : Nat} {C : St} {t v : Int32} {k : Nat} (h : WF nt C) (ht : tok nt t) (hk : k < 32) (h0 : C 15 t.toNatClampNeg = 0) (hr : (lwR C t k v).1 = -99) : (lwR C t k v).2 15 t.toNatClampNeg = 0 := by
  have hm := WF_meet (t := t) h hk
  have em := (meet_15 h ht hk).trans h0
  unfold lwR at hr ⊢
  split
  · rename_i c; rw [if_pos c] at hr; exact absurd (show (0 : Int32) = -99 from hr) (by decide)
  · rename_i c
    rw [if_neg c] at hr
    split
    · rename_i c2; rw [if_pos c2] at hr; exact absurd (show (0 : Int32) = -99 from hr) (by decide)
    · rename_i c2
      rw [if_neg c2] at hr
      exact ((wa_15 hm ht (trv_tok (meetR_trv h hk) c)).resolve_right (fun q => q hr)).trans em
theorem WF_ask {nt : Nat} {C : St} {t : Int32} {n : Nat} (h : WF nt C) : WF nt (askS C t n) := by
  unfold askS
  split
  · unfold noteClockS tellS meetS
    exact WF_up (WF_up (WF_up (WF_up (WF_up19 h trv_null) (by decide)) (by decide)) (by decide)) (by omega)
  · unfold meetS
    exact WF_up (WF_up19 h trv_null) (by decide)
theorem ask_row {C : St} {t : Int32} {n w : Nat} (h2 : w ≠ 2) (h19 : w ≠ 19) (h22 : w ≠ 22) (h50 : w < 50) : askS C t n w = C w := by
  unfold askS
  split
  · unfold noteClockS tellS meetS
    rw [up_row (by omega), up_row h22, up_row h2, up_row h2, up_row h19]
  · unfold meetS
    rw [up_row h2, up_row h19]
theorem cap_ask {C : St} {t : Int32} {n : Nat} : cap (askS C t n) = cap C := by
  unfold cap
  rw [ask_row (by decide) (by decide) (by decide) (by decide)]
def gtL (t : Int32) (k : Nat) : Nat → Int32 → St → Int32 × St
  | 0, r, C => (r, C)
  | n + 1, r, C => if r = -99 then gtL t k n (lkR C t k).1 (lkR C t k).2 else (r, C)
def ptL (t v : Int32) (k : Nat) : Nat → Int32 → St → Int32 × St
  | 0, r, C => (r, C)
  | n + 1, r, C => if r = -99 then ptL t v k n (lwR C t k v).1 (lwR C t k v).2 else (r, C)
theorem gtL_WF {nt : Nat} {t : Int32} {k : Nat} (ht : tok nt t) (hk : k < 32) : ∀ {n : Nat} {r : Int32} {C : St}, WF nt C → (r = -99 → C 15 t.toNatClampNeg = 0) → WF nt (gtL t k n r C).2 ∧ cap C ≤ cap (gtL t k n r C).2
  | 0, _, _, h, _ => ⟨h, Nat.le_refl _⟩
  | n + 1, r, C, h, h0 => by
    unfold gtL
    split
    · rename_i e
      obtain ⟨a1, a2⟩ := gtL_WF ht hk (n := n) (WF_lk h ht hk (h0 e)) (fun q => lk_15 h ht hk (h0 e) q)
      exact ⟨a1, Nat.le_trans (cap_lk h hk) a2⟩
    · exact ⟨h, Nat.le_refl _⟩
theorem ptL_WF {nt : Nat} {t v : Int32} {k : Nat} (ht : tok nt t) (hk : k < 32) : ∀ {n : Nat} {r : Int32} {C : St}, WF nt C → (r = -99 → C 15 t.toNatClampNeg = 0) → WF nt (ptL t v k n r C).2 ∧ cap C ≤ cap (ptL t v k n r C).2
  | 0, _, _, h, _ => ⟨h, Nat.le_refl _⟩
  | n + 1, r, C, h, h0 => by
    unfold ptL
    split
    · rename_i e
      obtain ⟨a1, a2⟩ := ptL_WF ht hk (n := n) (WF_lw h ht hk (h0 e)) (fun q => lw_15 h ht hk (h0 e) q)
      exact ⟨a1, Nat.le_trans (cap_lw h hk) a2⟩
    · exact ⟨h, Nat.le_refl _⟩
def gtS (C : St) (t : Int32) (k : Nat) : Int32 × St := if refS C t.toNatClampNeg k = 0 then gtL t k 1000000 (-99) (askS C t (C 4 k).toNatClampNeg) else (refS C t.toNatClampNeg k, C)
def ptS (C : St) (t : Int32) (k : Nat) (v : Int32) : Int32 × St := if refS C t.toNatClampNeg k = 0 then ptL t v k 1000000 (-99) (askS C t (C 4 k).toNatClampNeg) else (refS C t.toNatClampNeg k, C)
theorem ref0_15 {C : St} {i k : Nat} (h : refS C i k = 0) : C 15 i = 0 := by
  unfold refS at h
  split at h
  · assumption
  · exact absurd h (by decide)
theorem ask_15 {C : St} {t : Int32} {k n : Nat} (h : refS C t.toNatClampNeg k = 0) : (-99 : Int32) = -99 → askS C t n 15 t.toNatClampNeg = 0 := fun _ => (congrFun (ask_row (by decide) (by decide) (by decide) (by decide)) _).trans (ref0_15 h)
section B12
set_option maxHeartbeats 40000
variable {g : GT} {nt : Nat} {C M : St} {o : Int64} {t u : Int32}
theorem okA (ht : tok nt t) {k : Nat} (hc : vp_in (C 4 k) 4) : RET g K_X4_askNode 0 0 [.ref (ad g 0), va_rf (trO g t), .int (C 4 k)] nt C M o none (askS C t (C 4 k).toNatClampNeg) M o := by
  have h := ok_askNode (g := g) (M := M) (o := o) (C := C) ht (vin_lt hc)
  rw [nI_self (fun q => hc (Or.inl q))] at h
  exact h
theorem WF.ltb {i : Nat} (hW : WF nt C) (hi : i < nt) : nI i < C 10 0 := by
  rw [hW.b]
  have := hW.n40
  exact nI_lt hi (by omega)
theorem WF.pos {i : Nat} (hW : WF nt C) (hi : i < nt) : ¬ nI i < 0 := nI_pos (by have := hW.n40; omega)
theorem lp_gtL (ht : tok nt t) {k : Nat} (hk : k < 32) {x q : Int32} {mc ms c0 : Nat} : ∀ (n : Nat) (i : Nat) (r : Int32) (C : St) (_ : i + n = 1000000) (_ : WF nt C) (_ : r = -99 → C 15 t.toNatClampNeg = 0) (_ : c0 ≤ cap C) (_ : cap (gtL t k n r C).2 - c0 ≤ mc) (_ : 4 * (cap (gtL t k n r C).2 - c0) ≤ ms) (h : Nat × Nat), V g K_X4_get (kR K_X4_get mc ms) (qM g mc ms nt (fun v9 C9 M9 o9 => v9 = some (.int (gtL t k n r C).1) ∧ C9 = (gtL t k n r C).2 ∧ M9 = M ∧ o9 = o) (fun _ _ _ _ => False)) (cap C - c0) (4 * (cap C - c0)) nt h C M o 54 [(0, .ref (ad g 0)), (1, .int x), (2, .int (nI k)), (3, va_rf (trO g t)), (4, .int q), (5, .int r), (6, .int (nI i))] [] := by
  intro n
  induction n with
  | zero =>
    intro i r C hi hW h15 h0 hk9 hn9 h
    refine V_iload (dG D_X4_get 32 rfl) rfl ?_
    refine V_ldc (v := 1000000) (dG D_X4_get 33 rfl) w_477 ?_
    refine V_icmp_ge (tgt := 82) (dG D_X4_get 34 rfl) (by decide) (fun c_58 => ?_) (fun c_58 => absurd (nI_le (a := 1000000) (by omega) (by omega)) c_58)
    refine V_iload (dG D_X4_get 45 rfl) rfl ?_
    exact V_iret (dG D_X4_get 46 rfl) rfl hk9 hn9 ⟨rfl, rfl, rfl, rfl⟩
  | succ n ih =>
    intro i r C hi hW h15 h0 hk9 hn9 h
    refine V_iload (dG D_X4_get 32 rfl) rfl ?_
    refine V_ldc (v := 1000000) (dG D_X4_get 33 rfl) w_477 ?_
    refine V_icmp_ge (tgt := 82) (dG D_X4_get 34 rfl) (by decide) (fun c_58 => absurd c_58 (nI_ge (b := 1000000) (by omega) (by decide))) (fun c_58 => ?_)
    refine V_iload (dG D_X4_get 35 rfl) rfl ?_
    refine V_bipush (v := -99) (dG D_X4_get 36 rfl) (by decide) ?_
    refine V_icmp_ne (tgt := 82) (dG D_X4_get 37 rfl) (by decide) (fun c_9 => ?_) (fun c_9 => ?_)
    · rw [show gtL t k (n + 1) r C = (r, C) from if_neg c_9] at hk9 hn9 ⊢
      refine V_iload (dG D_X4_get 45 rfl) rfl ?_
      exact V_iret (dG D_X4_get 46 rfl) rfl hk9 hn9 ⟨rfl, rfl, rfl, rfl⟩
    · rw [show gtL t k (n + 1) r C = gtL t k n (lkR C t k).1 (lkR C t k).2 from if_pos c_9] at hk9 hn9 ⊢
      have hge := (gtL_WF (n := n) ht hk (WF_lk hW ht hk (h15 c_9)) (fun q => lk_15 hW ht hk (h15 c_9) q)).2
      have hcl := cap_lk (t := t) hW hk
      refine V_aload_n (dG D_X4_get 38 rfl) rfl ?_
      refine V_aload_nt (dG D_X4_get 39 rfl) rfl ?_
      refine V_iload_n (dG D_X4_get 40 rfl) rfl ?_
      refine R_vb2 (ok_lookToRead ht hk hW) lk_X4_138 (dG D_X4_get 41 rfl) rcv_4 ⟨Nat.le_of_ble_eq_true rfl, Nat.le_of_ble_eq_true rfl⟩ ⟨by show cap C - c0 + (cap (lkR C t k).2 - cap C) ≤ mc; omega, by show 4 * (cap C - c0) + 4 * (cap (lkR C t k).2 - cap C) ≤ ms; omega⟩ (by first | exact Nat.le_of_ble_eq_true rfl | simp [cat_rf, cat_int, cat_ref]) (fun h => ?_)
      refine V_istore (dG D_X4_get 42 rfl) (Nat.le_of_ble_eq_true rfl) ?_
      refine V_iinc (dG D_X4_get 43 rfl) rfl (inc1 _) (Nat.le_of_ble_eq_true rfl) ?_
      refine V_goto (tgt := 54) (dG D_X4_get 44 rfl) (by decide) ?_
      refine V_mono (kb' := cap (lkR C t k).2 - c0) (nb' := 4 * (cap (lkR C t k).2 - c0)) (show cap C - c0 + (cap (lkR C t k).2 - cap C) ≤ _ by omega) (show 4 * (cap C - c0) + 4 * (cap (lkR C t k).2 - cap C) ≤ _ by omega) ?_
      exact ih (i + 1) (lkR C t k).1 (lkR C t k).2 (by omega) (WF_lk hW ht hk (h15 c_9)) (fun q => lk_15 hW ht hk (h15 c_9) q) (by omega) hk9 hn9 h
theorem lp_ptL (ht : tok nt t) {k : Nat} (hk : k < 32) {x q v : Int32} {mc ms c0 : Nat} : ∀ (n : Nat) (i : Nat) (r : Int32) (C : St) (_ : i + n = 1000000) (_ : WF nt C) (_ : r = -99 → C 15 t.toNatClampNeg = 0) (_ : c0 ≤ cap C) (_ : cap (ptL t v k n r C).2 - c0 ≤ mc) (_ : 4 * (cap (ptL t v k n r C).2 - c0) ≤ ms) (h : Nat × Nat), V g K_X4_put (kR K_X4_put mc ms) (qM g mc ms nt (fun v9 C9 M9 o9 => v9 = some (.int (ptL t v k n r C).1) ∧ C9 = (ptL t v k n r C).2 ∧ M9 = M ∧ o9 = o) (fun _ _ _ _ => False)) (cap C - c0) (4 * (cap C - c0)) nt h C M o 78 [(0, .ref (ad g 0)), (1, .int x), (2, .int (nI k)), (3, .int v), (4, va_rf (trO g t)), (5, .int q), (6, .int r), (7, .int (nI i))] [] := by
  intro n
  induction n with
  | zero =>
    intro i r C hi hW h15 h0 hk9 hn9 h
    refine V_iload (dG D_X4_put 42 rfl) rfl ?_
    refine V_ldc (v := 1000000) (dG D_X4_put 43 rfl) w_477 ?_
    refine V_icmp_ge (tgt := 108) (dG D_X4_put 44 rfl) (by decide) (fun c_82 => ?_) (fun c_82 => absurd (nI_le (a := 1000000) (by omega) (by omega)) c_82)
    refine V_iload (dG D_X4_put 56 rfl) rfl ?_
    exact V_iret (dG D_X4_put 57 rfl) rfl hk9 hn9 ⟨rfl, rfl, rfl, rfl⟩
  | succ n ih =>
    intro i r C hi hW h15 h0 hk9 hn9 h
    refine V_iload (dG D_X4_put 42 rfl) rfl ?_
    refine V_ldc (v := 1000000) (dG D_X4_put 43 rfl) w_477 ?_
    refine V_icmp_ge (tgt := 108) (dG D_X4_put 44 rfl) (by decide) (fun c_82 => absurd c_82 (nI_ge (b := 1000000) (by omega) (by decide))) (fun c_82 => ?_)
    refine V_iload (dG D_X4_put 45 rfl) rfl ?_
    refine V_bipush (v := -99) (dG D_X4_put 46 rfl) (by decide) ?_
    refine V_icmp_ne (tgt := 108) (dG D_X4_put 47 rfl) (by decide) (fun c_9 => ?_) (fun c_9 => ?_)
    · rw [show ptL t v k (n + 1) r C = (r, C) from if_neg c_9] at hk9 hn9 ⊢
      refine V_iload (dG D_X4_put 56 rfl) rfl ?_
      exact V_iret (dG D_X4_put 57 rfl) rfl hk9 hn9 ⟨rfl, rfl, rfl, rfl⟩
    · rw [show ptL t v k (n + 1) r C = ptL t v k n (lwR C t k v).1 (lwR C t k v).2 from if_pos c_9] at hk9 hn9 ⊢
      have hge := (ptL_WF (v := v) (n := n) ht hk (WF_lw (v := v) hW ht hk (h15 c_9)) (fun q => lw_15 hW ht hk (h15 c_9) q)).2
      have hcl := cap_lw (t := t) (v := v) hW hk
      refine V_aload_n (dG D_X4_put 48 rfl) rfl ?_
      refine V_aloadt (dG D_X4_put 49 rfl) rfl ?_
      refine V_iload_n (dG D_X4_put 50 rfl) rfl ?_
      refine V_iload_n (dG D_X4_put 51 rfl) rfl ?_
      refine R_vb3 (ok_lookToWrite ht hk hW) lk_X4_143 (dG D_X4_put 52 rfl) rcv_4 ⟨Nat.le_of_ble_eq_true rfl, Nat.le_of_ble_eq_true rfl⟩ ⟨by show cap C - c0 + (cap (lwR C t k v).2 - cap C) ≤ mc; omega, by show 4 * (cap C - c0) + 4 * (cap (lwR C t k v).2 - cap C) ≤ ms; omega⟩ (by first | exact Nat.le_of_ble_eq_true rfl | simp [cat_rf, cat_int, cat_ref]) (fun h => ?_)
      refine V_istore (dG D_X4_put 53 rfl) (Nat.le_of_ble_eq_true rfl) ?_
      refine V_iinc (dG D_X4_put 54 rfl) rfl (inc1 _) (Nat.le_of_ble_eq_true rfl) ?_
      refine V_goto (tgt := 78) (dG D_X4_put 55 rfl) (by decide) ?_
      refine V_mono (kb' := cap (lwR C t k v).2 - c0) (nb' := 4 * (cap (lwR C t k v).2 - c0)) (show cap C - c0 + (cap (lwR C t k v).2 - cap C) ≤ _ by omega) (show 4 * (cap C - c0) + 4 * (cap (lwR C t k v).2 - cap C) ≤ _ by omega) ?_
      exact ih (i + 1) (lwR C t k v).1 (lwR C t k v).2 (by omega) (WF_lw hW ht hk (h15 c_9)) (fun q => lw_15 hW ht hk (h15 c_9) q) (by omega) hk9 hn9 h
theorem ok_get {i k : Nat} (hi : i < nt) (hk : k < 32) (hW : WF nt C) : RET g K_X4_get (cap (gtS C (nI i) k).2 - cap C) (4 * (cap (gtS C (nI i) k).2 - cap C)) [.ref (ad g 0), .int (nI i), .int (nI k)] nt C M o (some (.int (gtS C (nI i) k).1)) (gtS C (nI i) k).2 M o := by
  refine MT_of (by decide +kernel) rfl rfl (Nat.le_of_ble_eq_true rfl) (by simp [cat_rf, cat_int, cat_ref]) (fun h => ?_)
  have hi40 := hW.n40
  have ht : tok nt (nI i) := tok_nI hi hi40
  refine V_aload_n (dG D_X4_get 0 rfl) rfl ?_
  refine V_iload_n (dG D_X4_get 1 rfl) rfl ?_
  refine R_nb1 (ok_needTransaction (hW.pos hi) (hW.ltb hi)) lk_X4_123 (dG D_X4_get 2 rfl) rcv_4 ⟨Nat.le_of_ble_eq_true rfl, Nat.le_of_ble_eq_true rfl⟩ ⟨Nat.zero_le _, Nat.zero_le _⟩ (by first | exact Nat.le_of_ble_eq_true rfl | simp [cat_rf, cat_int, cat_ref]) (fun h => ?_)
  refine V_aload_n (dG D_X4_get 3 rfl) rfl ?_
  refine V_iload_n (dG D_X4_get 4 rfl) rfl ?_
  refine R_nb1 (ok_needKey (nI_pos (by omega)) (nI_lt (b := 32) hk (by decide))) lk_X4_126 (dG D_X4_get 5 rfl) rcv_4 ⟨Nat.le_of_ble_eq_true rfl, Nat.le_of_ble_eq_true rfl⟩ ⟨Nat.zero_le _, Nat.zero_le _⟩ (by first | exact Nat.le_of_ble_eq_true rfl | simp [cat_rf, cat_int, cat_ref]) (fun h => ?_)
  refine V_aload_n (dG D_X4_get 6 rfl) rfl ?_
  refine gf_X4_23 rfl (dG D_X4_get 7 rfl) ?_
  refine V_iload_n (dG D_X4_get 8 rfl) rfl ?_
  refine aald_trs (dG D_X4_get 9 rfl) (show inr (nI i) 40 i from inr_nI (by omega) (by decide)) ?_
  rw [hW.x33 i hi]
  refine V_astore_nt (dG D_X4_get 10 rfl) (Nat.le_of_ble_eq_true rfl) ?_
  refine V_aload_n (dG D_X4_get 11 rfl) rfl ?_
  refine V_aload_nt (dG D_X4_get 12 rfl) rfl ?_
  refine V_iload_n (dG D_X4_get 13 rfl) rfl ?_
  refine R_vb2 (ok_refusalAt ht hk (hW.wh _ ht.2) (hW.wn k hk)) lk_X4_129 (dG D_X4_get 14 rfl) rcv_4 ⟨Nat.le_of_ble_eq_true rfl, Nat.le_of_ble_eq_true rfl⟩ ⟨Nat.zero_le _, Nat.zero_le _⟩ (by first | exact Nat.le_of_ble_eq_true rfl | simp [cat_rf, cat_int, cat_ref]) (fun h => ?_)
  refine V_istore (dG D_X4_get 15 rfl) (Nat.le_of_ble_eq_true rfl) ?_
  refine V_iload (dG D_X4_get 16 rfl) rfl ?_
  refine V_if_eq (tgt := 33) (dG D_X4_get 17 rfl) (by decide) (fun c_9 => ?_) (fun c_9 => ?_)
  · rw [show gtS C (nI i) k = gtL (nI i) k 1000000 (-99) (askS C (nI i) (C 4 k).toNatClampNeg) from if_pos c_9]
    refine V_aload_n (dG D_X4_get 20 rfl) rfl ?_
    refine V_aload_nt (dG D_X4_get 21 rfl) rfl ?_
    refine V_aload_n (dG D_X4_get 22 rfl) rfl ?_
    refine gf_X4_17 rfl (dG D_X4_get 23 rfl) ?_
    refine V_iload_n (dG D_X4_get 24 rfl) rfl ?_
    refine aald_cells (dG D_X4_get 25 rfl) (by first | assumption | exact inr_nI (by first | assumption | omega) (by first | decide | assumption | omega) | exact inr_of (by assumption)) ?_
    refine gf_X4_79 rfl (dG D_X4_get 26 rfl) (by first | assumption | omega) ?_
    refine R_nb2 (okA ht (hW.wn k hk)) lk_X4_133 (dG D_X4_get 27 rfl) rcv_4 ⟨Nat.le_of_ble_eq_true rfl, Nat.le_of_ble_eq_true rfl⟩ ⟨Nat.zero_le _, Nat.zero_le _⟩ (by first | exact Nat.le_of_ble_eq_true rfl | simp [cat_rf, cat_int, cat_ref]) (fun h => ?_)
    refine V_bipush (v := -99) (dG D_X4_get 28 rfl) (by decide) ?_
    refine V_istore (dG D_X4_get 29 rfl) (Nat.le_of_ble_eq_true rfl) ?_
    refine V_iconst (v := 0) (dG D_X4_get 30 rfl) (by decide) ?_
    refine V_istore (dG D_X4_get 31 rfl) (Nat.le_of_ble_eq_true rfl) ?_
    refine V_mono (kb' := cap (askS C (nI i) (C 4 k).toNatClampNeg) - cap C) (nb' := 4 * (cap (askS C (nI i) (C 4 k).toNatClampNeg) - cap C)) (Nat.zero_le _) (Nat.zero_le _) ?_
    exact lp_gtL ht hk 1000000 0 (-99) (askS C (nI i) (C 4 k).toNatClampNeg) (by omega) (WF_ask hW) (ask_15 c_9) (Nat.le_of_eq cap_ask.symm) (Nat.le_refl _) (Nat.le_refl _) h
  · rw [show gtS C (nI i) k = (refS C (nI i).toNatClampNeg k, C) from if_neg c_9]
    refine V_iload (dG D_X4_get 18 rfl) rfl ?_
    exact V_iret (dG D_X4_get 19 rfl) rfl (Nat.zero_le _) (Nat.zero_le _) ⟨rfl, rfl, rfl, rfl⟩
theorem th_get1 {x y : Int32} (h0 : x < 0 ∨ ¬ x < C 10 0) : THR g K_X4_get 1 6 [.ref (ad g 0), .int x, .int y] nt C M o "java/lang/IndexOutOfBoundsException" := by
  refine MT_of (by decide +kernel) rfl rfl (Nat.le_of_ble_eq_true rfl) (by simp [cat_rf, cat_int, cat_ref]) (fun h => ?_)
  refine V_aload_n (dG D_X4_get 0 rfl) rfl ?_
  refine V_iload_n (dG D_X4_get 1 rfl) rfl ?_
  exact T_b1 (th_needTransaction h0) lk_X4_123 (dG D_X4_get 2 rfl) rcv_4 ⟨Nat.le_of_ble_eq_true rfl, Nat.le_of_ble_eq_true rfl⟩ ⟨(Nat.le_of_ble_eq_true rfl), (Nat.le_of_ble_eq_true rfl)⟩ (by first | exact Nat.le_of_ble_eq_true rfl | simp [cat_rf, cat_int, cat_ref]) (fun h => VX_out rfl (Nat.le_of_ble_eq_true rfl) (Nat.le_of_ble_eq_true rfl) ⟨rfl, rfl, rfl, rfl⟩)
theorem th_get2 {x y : Int32} (h1 : ¬ x < 0) (h2 : x < C 10 0) (h0 : y < 0 ∨ ¬ y < 32) : THR g K_X4_get 1 6 [.ref (ad g 0), .int x, .int y] nt C M o "java/lang/IndexOutOfBoundsException" := by
  refine MT_of (by decide +kernel) rfl rfl (Nat.le_of_ble_eq_true rfl) (by simp [cat_rf, cat_int, cat_ref]) (fun h => ?_)
  refine V_aload_n (dG D_X4_get 0 rfl) rfl ?_
  refine V_iload_n (dG D_X4_get 1 rfl) rfl ?_
  refine R_nb1 (ok_needTransaction h1 h2) lk_X4_123 (dG D_X4_get 2 rfl) rcv_4 ⟨Nat.le_of_ble_eq_true rfl, Nat.le_of_ble_eq_true rfl⟩ ⟨(Nat.le_of_ble_eq_true rfl), (Nat.le_of_ble_eq_true rfl)⟩ (by first | exact Nat.le_of_ble_eq_true rfl | simp [cat_rf, cat_int, cat_ref]) (fun h => ?_)
  refine V_aload_n (dG D_X4_get 3 rfl) rfl ?_
  refine V_iload_n (dG D_X4_get 4 rfl) rfl ?_
  exact T_b1 (th_needKey h0) lk_X4_126 (dG D_X4_get 5 rfl) rcv_4 ⟨Nat.le_of_ble_eq_true rfl, Nat.le_of_ble_eq_true rfl⟩ ⟨(Nat.le_of_ble_eq_true rfl), (Nat.le_of_ble_eq_true rfl)⟩ (by first | exact Nat.le_of_ble_eq_true rfl | simp [cat_rf, cat_int, cat_ref]) (fun h => VX_out rfl (Nat.le_of_ble_eq_true rfl) (Nat.le_of_ble_eq_true rfl) ⟨rfl, rfl, rfl, rfl⟩)
theorem ok_put {i k : Nat} (hi : i < nt) (hk : k < 32) (hW : WF nt C) {v : Int32} (h1 : ¬ v < 0) (h2 : v ≤ 1000) : RET g K_X4_put (cap (ptS C (nI i) k v).2 - cap C) (4 * (cap (ptS C (nI i) k v).2 - cap C)) [.ref (ad g 0), .int (nI i), .int (nI k), .int v] nt C M o (some (.int (ptS C (nI i) k v).1)) (ptS C (nI i) k v).2 M o := by
  refine MT_of (by decide +kernel) rfl rfl (Nat.le_of_ble_eq_true rfl) (by simp [cat_rf, cat_int, cat_ref]) (fun h => ?_)
  have hi40 := hW.n40
  have ht : tok nt (nI i) := tok_nI hi hi40
  refine V_aload_n (dG D_X4_put 0 rfl) rfl ?_
  refine V_iload_n (dG D_X4_put 1 rfl) rfl ?_
  refine R_nb1 (ok_needTransaction (hW.pos hi) (hW.ltb hi)) lk_X4_123 (dG D_X4_put 2 rfl) rcv_4 ⟨Nat.le_of_ble_eq_true rfl, Nat.le_of_ble_eq_true rfl⟩ ⟨Nat.zero_le _, Nat.zero_le _⟩ (by first | exact Nat.le_of_ble_eq_true rfl | simp [cat_rf, cat_int, cat_ref]) (fun h => ?_)
  refine V_aload_n (dG D_X4_put 3 rfl) rfl ?_
  refine V_iload_n (dG D_X4_put 4 rfl) rfl ?_
  refine R_nb1 (ok_needKey (nI_pos (by omega)) (nI_lt (b := 32) hk (by decide))) lk_X4_126 (dG D_X4_put 5 rfl) rcv_4 ⟨Nat.le_of_ble_eq_true rfl, Nat.le_of_ble_eq_true rfl⟩ ⟨Nat.zero_le _, Nat.zero_le _⟩ (by first | exact Nat.le_of_ble_eq_true rfl | simp [cat_rf, cat_int, cat_ref]) (fun h => ?_)
  refine V_iload_n (dG D_X4_put 6 rfl) rfl ?_
  refine V_if_lt (tgt := 21) (dG D_X4_put 7 rfl) (by decide) (fun c_11 => absurd c_11 h1) (fun c_11 => ?_)
  refine V_iload_n (dG D_X4_put 8 rfl) rfl ?_
  refine V_sipush (v := 1000) (dG D_X4_put 9 rfl) (by decide) ?_
  refine V_icmp_le (tgt := 31) (dG D_X4_put 10 rfl) (by decide) (fun c_18 => ?_) (fun c_18 => absurd h2 c_18)
  refine V_aload_n (dG D_X4_put 16 rfl) rfl ?_
  refine gf_X4_23 rfl (dG D_X4_put 17 rfl) ?_
  refine V_iload_n (dG D_X4_put 18 rfl) rfl ?_
  refine aald_trs (dG D_X4_put 19 rfl) (show inr (nI i) 40 i from inr_nI (by omega) (by decide)) ?_
  rw [hW.x33 i hi]
  refine V_astoret (dG D_X4_put 20 rfl) (Nat.le_of_ble_eq_true rfl) ?_
  refine V_aload_n (dG D_X4_put 21 rfl) rfl ?_
  refine V_aloadt (dG D_X4_put 22 rfl) rfl ?_
  refine V_iload_n (dG D_X4_put 23 rfl) rfl ?_
  refine R_vb2 (ok_refusalAt ht hk (hW.wh _ ht.2) (hW.wn k hk)) lk_X4_129 (dG D_X4_put 24 rfl) rcv_4 ⟨Nat.le_of_ble_eq_true rfl, Nat.le_of_ble_eq_true rfl⟩ ⟨Nat.zero_le _, Nat.zero_le _⟩ (by first | exact Nat.le_of_ble_eq_true rfl | simp [cat_rf, cat_int, cat_ref]) (fun h => ?_)
  refine V_istore (dG D_X4_put 25 rfl) (Nat.le_of_ble_eq_true rfl) ?_
  refine V_iload (dG D_X4_put 26 rfl) rfl ?_
  refine V_if_eq (tgt := 56) (dG D_X4_put 27 rfl) (by decide) (fun c_9 => ?_) (fun c_9 => ?_)
  · rw [show ptS C (nI i) k v = ptL (nI i) v k 1000000 (-99) (askS C (nI i) (C 4 k).toNatClampNeg) from if_pos c_9]
    refine V_aload_n (dG D_X4_put 30 rfl) rfl ?_
    refine V_aloadt (dG D_X4_put 31 rfl) rfl ?_
    refine V_aload_n (dG D_X4_put 32 rfl) rfl ?_
    refine gf_X4_17 rfl (dG D_X4_put 33 rfl) ?_
    refine V_iload_n (dG D_X4_put 34 rfl) rfl ?_
    refine aald_cells (dG D_X4_put 35 rfl) (by first | assumption | exact inr_nI (by first | assumption | omega) (by first | decide | assumption | omega) | exact inr_of (by assumption)) ?_
    refine gf_X4_79 rfl (dG D_X4_put 36 rfl) (by first | assumption | omega) ?_
    refine R_nb2 (okA ht (hW.wn k hk)) lk_X4_133 (dG D_X4_put 37 rfl) rcv_4 ⟨Nat.le_of_ble_eq_true rfl, Nat.le_of_ble_eq_true rfl⟩ ⟨Nat.zero_le _, Nat.zero_le _⟩ (by first | exact Nat.le_of_ble_eq_true rfl | simp [cat_rf, cat_int, cat_ref]) (fun h => ?_)
    refine V_bipush (v := -99) (dG D_X4_put 38 rfl) (by decide) ?_
    refine V_istore (dG D_X4_put 39 rfl) (Nat.le_of_ble_eq_true rfl) ?_
    refine V_iconst (v := 0) (dG D_X4_put 40 rfl) (by decide) ?_
    refine V_istore (dG D_X4_put 41 rfl) (Nat.le_of_ble_eq_true rfl) ?_
    refine V_mono (kb' := cap (askS C (nI i) (C 4 k).toNatClampNeg) - cap C) (nb' := 4 * (cap (askS C (nI i) (C 4 k).toNatClampNeg) - cap C)) (Nat.zero_le _) (Nat.zero_le _) ?_
    exact lp_ptL ht hk 1000000 0 (-99) (askS C (nI i) (C 4 k).toNatClampNeg) (by omega) (WF_ask hW) (ask_15 c_9) (Nat.le_of_eq cap_ask.symm) (Nat.le_refl _) (Nat.le_refl _) h
  · rw [show ptS C (nI i) k v = (refS C (nI i).toNatClampNeg k, C) from if_neg c_9]
    refine V_iload (dG D_X4_put 28 rfl) rfl ?_
    exact V_iret (dG D_X4_put 29 rfl) rfl (Nat.zero_le _) (Nat.zero_le _) ⟨rfl, rfl, rfl, rfl⟩
theorem th_put1 {x y : Int32} {v : Int32} (h0 : x < 0 ∨ ¬ x < C 10 0) : THR g K_X4_put 1 6 [.ref (ad g 0), .int x, .int y, .int v] nt C M o "java/lang/IndexOutOfBoundsException" := by
  refine MT_of (by decide +kernel) rfl rfl (Nat.le_of_ble_eq_true rfl) (by simp [cat_rf, cat_int, cat_ref]) (fun h => ?_)
  refine V_aload_n (dG D_X4_put 0 rfl) rfl ?_
  refine V_iload_n (dG D_X4_put 1 rfl) rfl ?_
  exact T_b1 (th_needTransaction h0) lk_X4_123 (dG D_X4_put 2 rfl) rcv_4 ⟨Nat.le_of_ble_eq_true rfl, Nat.le_of_ble_eq_true rfl⟩ ⟨(Nat.le_of_ble_eq_true rfl), (Nat.le_of_ble_eq_true rfl)⟩ (by first | exact Nat.le_of_ble_eq_true rfl | simp [cat_rf, cat_int, cat_ref]) (fun h => VX_out rfl (Nat.le_of_ble_eq_true rfl) (Nat.le_of_ble_eq_true rfl) ⟨rfl, rfl, rfl, rfl⟩)
theorem th_put2 {x y : Int32} {v : Int32} (h1 : ¬ x < 0) (h2 : x < C 10 0) (h0 : y < 0 ∨ ¬ y < 32) : THR g K_X4_put 1 6 [.ref (ad g 0), .int x, .int y, .int v] nt C M o "java/lang/IndexOutOfBoundsException" := by
  refine MT_of (by decide +kernel) rfl rfl (Nat.le_of_ble_eq_true rfl) (by simp [cat_rf, cat_int, cat_ref]) (fun h => ?_)
  refine V_aload_n (dG D_X4_put 0 rfl) rfl ?_
  refine V_iload_n (dG D_X4_put 1 rfl) rfl ?_
  refine R_nb1 (ok_needTransaction h1 h2) lk_X4_123 (dG D_X4_put 2 rfl) rcv_4 ⟨Nat.le_of_ble_eq_true rfl, Nat.le_of_ble_eq_true rfl⟩ ⟨(Nat.le_of_ble_eq_true rfl), (Nat.le_of_ble_eq_true rfl)⟩ (by first | exact Nat.le_of_ble_eq_true rfl | simp [cat_rf, cat_int, cat_ref]) (fun h => ?_)
  refine V_aload_n (dG D_X4_put 3 rfl) rfl ?_
  refine V_iload_n (dG D_X4_put 4 rfl) rfl ?_
  exact T_b1 (th_needKey h0) lk_X4_126 (dG D_X4_put 5 rfl) rcv_4 ⟨Nat.le_of_ble_eq_true rfl, Nat.le_of_ble_eq_true rfl⟩ ⟨(Nat.le_of_ble_eq_true rfl), (Nat.le_of_ble_eq_true rfl)⟩ (by first | exact Nat.le_of_ble_eq_true rfl | simp [cat_rf, cat_int, cat_ref]) (fun h => VX_out rfl (Nat.le_of_ble_eq_true rfl) (Nat.le_of_ble_eq_true rfl) ⟨rfl, rfl, rfl, rfl⟩)
theorem th_put3 {x y v : Int32} (h1 : ¬ x < 0) (h2 : x < C 10 0) (h3 : ¬ y < 0) (h4 : y < 32) (h0 : v < 0 ∨ ¬ v ≤ 1000) : THR g K_X4_put 1 6 [.ref (ad g 0), .int x, .int y, .int v] nt C M o "java/lang/IllegalArgumentException" := by
  refine MT_of (by decide +kernel) rfl rfl (Nat.le_of_ble_eq_true rfl) (by simp [cat_rf, cat_int, cat_ref]) (fun h => ?_)
  refine V_aload_n (dG D_X4_put 0 rfl) rfl ?_
  refine V_iload_n (dG D_X4_put 1 rfl) rfl ?_
  refine R_nb1 (ok_needTransaction h1 h2) lk_X4_123 (dG D_X4_put 2 rfl) rcv_4 ⟨Nat.le_of_ble_eq_true rfl, Nat.le_of_ble_eq_true rfl⟩ ⟨(Nat.le_of_ble_eq_true rfl), (Nat.le_of_ble_eq_true rfl)⟩ (by first | exact Nat.le_of_ble_eq_true rfl | simp [cat_rf, cat_int, cat_ref]) (fun h => ?_)
  refine V_aload_n (dG D_X4_put 3 rfl) rfl ?_
  refine V_iload_n (dG D_X4_put 4 rfl) rfl ?_
  refine R_nb1 (ok_needKey h3 h4) lk_X4_126 (dG D_X4_put 5 rfl) rcv_4 ⟨Nat.le_of_ble_eq_true rfl, Nat.le_of_ble_eq_true rfl⟩ ⟨(Nat.le_of_ble_eq_true rfl), (Nat.le_of_ble_eq_true rfl)⟩ (by first | exact Nat.le_of_ble_eq_true rfl | simp [cat_rf, cat_int, cat_ref]) (fun h => ?_)
  refine V_iload_n (dG D_X4_put 6 rfl) rfl ?_
  refine V_if_lt (tgt := 21) (dG D_X4_put 7 rfl) (by decide) (fun c_11 => ?_) (fun c_11 => ?_)
  · skip
    exact V_th44 (text := "a value is 0 to 999, or GONE") rfl rfl (by decide +kernel) (dG D_X4_put 11 rfl) (dG D_X4_put 12 rfl) (dG D_X4_put 13 rfl) (dG D_X4_put 14 rfl) (dG D_X4_put 15 rfl) (Nat.le_of_ble_eq_true rfl) (Nat.le_of_ble_eq_true rfl) (Nat.le_of_ble_eq_true rfl) (Nat.le_of_ble_eq_true rfl) ⟨rfl, rfl, rfl, rfl⟩
  · skip
    refine V_iload_n (dG D_X4_put 8 rfl) rfl ?_
    refine V_sipush (v := 1000) (dG D_X4_put 9 rfl) (by decide) ?_
    refine V_icmp_le (tgt := 31) (dG D_X4_put 10 rfl) (by decide) (fun c_18 => absurd c_18 (h0.resolve_left c_11)) (fun c_18 => ?_)
    exact V_th44 (text := "a value is 0 to 999, or GONE") rfl rfl (by decide +kernel) (dG D_X4_put 11 rfl) (dG D_X4_put 12 rfl) (dG D_X4_put 13 rfl) (dG D_X4_put 14 rfl) (dG D_X4_put 15 rfl) (Nat.le_of_ble_eq_true rfl) (Nat.le_of_ble_eq_true rfl) (Nat.le_of_ble_eq_true rfl) (Nat.le_of_ble_eq_true rfl) ⟨rfl, rfl, rfl, rfl⟩
end B12
