/-! from V to VL and back with one transaction more -/
theorem V_toL {g : GT} {K : MK} {R : Room} {Qf : QT} {kb nb nt : Nat} {h : Nat × Nat} {C M : St} {o : Int64} {pc : Nat} {lv : List (Nat × Value)} {st : List Value} (k : VL g (gA g) (EX (gA g) (false, false)) K R Qf kb nb (wld g nt h C M o) pc lv st) : V g K R Qf kb nb nt h C M o pc lv st := by
  intro p e s m args below meth c H locs k1 n1 ls X h1 h2 hR hS hl hc
  obtain ⟨x1, x2, x3, x4, x5, x6, x7, x8, x9⟩ := id X
  exact k p e s m args below meth c H locs k1 n1 ls X ⟨fun a ha => Nat.le_trans x9.2.2.2.2.1.2.2 ha, (fun z => by cases z), (fun z => by cases z)⟩ h1 h2 hR hS hl hc
theorem at_q {D : va_G} {cA : ClassId} {a n : Nat} {f f' : Nat → Option Nat} {H : Heap} (h : va_at D vwCl (a, .inl (cA, n, .inr (.inr (.inr (.inr f))))) H) (hf : ∀ k, k < n → f k = f' k) : va_at D vwCl (a, .inl (cA, n, .inr (.inr (.inr (.inr f'))))) H := by
  have h1 : H[a]? = some (vp_cell cA (n, .inr (.inr (.inr (.inr f))))) := h
  show H[a]? = some (vp_cell cA (n, .inr (.inr (.inr (.inr f')))))
  rw [h1, vp_cell_q, vp_cell_q]
  unfold arrV
  have e : (fun j : Fin n => va_rf (f j.val)) = fun j : Fin n => va_rf (f' j.val) := by
    funext j
    rw [hf j.val j.isLt]
  rw [e]
theorem fix_gw {g : GT} {a' : Nat → Nat} {h : Nat × Nat} {c0 c10 c26 c31 : Int32} {cp cq : Nat} {c28 c29 c30 c32 c33 d30 d33 : Nat → Int32} {M : St} {o : Int64} {n : Nat} (hag : ∀ j, j < 37 → a' j = ad g j) (hn : n < 37) (h1 : n ≠ 1) (h2 : n ≠ 2) (h3 : n ≠ 3) (h7 : n ≠ 7) : fixE (gw g a') h c0 c10 c26 c31 cp cq c28 c29 d30 c32 d33 M o n = fixE g h c0 c10 c26 c31 cp cq c28 c29 c30 c32 c33 M o n := by
  unfold fixE
  split <;> first | rfl | (simp only [gw_ad]; rw [hag 1 (by decide), hag 2 (by decide), hag 3 (by decide), hag 4 (by decide)]; done) | (simp only [gw_ad]; rw [hag 7 (by decide), hag 8 (by decide)]; done) | (simp only [gw_ad]; simp only [hag, Nat.reduceLT]; done) | exact absurd rfl h1 | exact absurd rfl h2 | exact absurd rfl h3 | exact absurd rfl h7
abbrev nw3 (g : GT) (C : St) (nt c : Nat) (r : Int32) (a1 a2 a3 : Nat) : va_E := .inr (3, [.int (nI nt), .int (nI c), .int r, .int (tellS C c (C 0 0) 2 c + 100), .int 0, .int (tellS C c (C 0 0) 2 c), .int (tellS C c (C 0 0) 2 c), .int (C 0 0), .null, .int 0, .int 0, .int 0, .ref a1, .ref a2, .ref a3])
abbrev wB (g : GT) (nt : Nat) (h : Nat × Nat) (C M : St) (o : Int64) (c : Nat) (r : Int32) (a0 a1 a2 a3 : Nat) : va_W := (wld g nt h (tellS C c (C 0 0)) M o ++ [(a0, nw3 g C nt c r a1 a2 a3), (a1, iA g 0 32 (fun _ => 0)), (a2, iA g 0 32 (fun _ => 0)), (a3, iA g 0 4 (fun _ => 0))]).set 3 (ad g 3, .inl (gc g 5, 40, .inr (.inr (.inr (.inr (va_up (fun k => trO g (C 33 k)) nt (some a0)))))))
theorem wl_at {g : GT} {nt : Nat} {h : Nat × Nat} {C M : St} {o : Int64} {n : Nat} {tl : va_W} (hn : n < 73 + 4 * nt) : (wld g nt h C M o ++ tl)[n]? = some (hp g h n, ent g h C M o n) := by
  rw [List.getElem?_append_left (by simpa [wld] using hn), wld_at hn]
theorem wl_len {g : GT} {nt : Nat} {h : Nat × Nat} {C M : St} {o : Int64} : (wld g nt h C M o).length = 73 + 4 * nt := by simp [wld]
section BEG
variable {g : GT} {nt : Nat} {h : Nat × Nat} {C M : St} {o : Int64} {c : Nat} {r : Int32} {a0 a1 a2 a3 : Nat}
theorem bg_key (hn : nt < 40) (hc : c < 4) (h6 : ∀ k, k < 32 → trv nt (C 6 k)) (h19 : ∀ i, i < nt → trv nt (C 19 i)) {H : Heap} (n : Nat) (hx : n < 73 + 4 * (nt + 1)) : ∃ e, (wB g nt h C M o c r a0 a1 a2 a3)[n]? = some (hp (gw g (adB g C nt a0 a1 a2 a3)) h n, e) ∧ (va_at (gD g) vwCl (hp (gw g (adB g C nt a0 a1 a2 a3)) h n, e) H → va_at (gD g) vwCl (hp (gw g (adB g C nt a0 a1 a2 a3)) h n, ent (gw g (adB g C nt a0 a1 a2 a3)) h (bg0 C nt c r) M o n) H) := by
  have T0 : ∀ w, w ≠ 2 → tellS C c (C 0 0) w = C w := fun w hw => tell_row hw
  by_cases hlo : n < 73 + 4 * nt
  · have hpn : hp (gw g (adB g C nt a0 a1 a2 a3)) h n = hp g h n := hp_gw (adB_lo hlo)
    by_cases e3 : n = 3
    · subst e3
      refine ⟨.inl (gc g 5, 40, .inr (.inr (.inr (.inr (va_up (fun k => trO g (C 33 k)) nt (some a0)))))), ?_, fun q => ?_⟩
      · rw [hpn, hp_ad (by decide) (by decide)]
        exact List.getElem?_set_self (by rw [List.length_append, wl_len]; omega)
      · rw [ent_fix (by decide)]
        show va_at (gD g) vwCl (_, rA g 5 40 (fun k => trO (gw g (adB g C nt a0 a1 a2 a3)) (bg0 C nt c r 33 k))) H
        refine at_q q (fun k hk => ?_)
        rw [bg0_33]
        unfold va_up upd
        by_cases ek : k = nt
        · rw [if_pos ek, if_pos ek, trB_nt (by omega)]
        · rw [if_neg ek, if_neg ek, trB_nrm hk (by omega) (Or.inr ⟨rfl, rfl⟩)]
    · refine ⟨ent g h (tellS C c (C 0 0)) M o n, ?_, fun q => ?_⟩
      · rw [List.getElem?_set_ne (fun z => e3 z.symm), wl_at hlo, hpn]
      · by_cases n37 : n < 37
        · rw [ent_fix n37] at q ⊢
          by_cases e1 : n = 1
          · subst e1
            exact at_q q (fun k hk => by rw [gw_ad, adB_lo (by omega)])
          by_cases e2 : n = 2
          · subst e2
            exact at_q q (fun k hk => by rw [gw_ad, adB_lo (by omega)])
          by_cases e7 : n = 7
          · subst e7
            refine at_q q (fun k hk => ?_)
            rw [bg0_30, trB_nrm hk (by omega) (Or.inl ⟨rfl, rfl⟩), T0 30 (by decide)]
          rw [bg0_row (w := 0) (by omega) (by decide) (by decide) (by decide) (by decide), bg0_row (w := 10) (by omega) (by decide) (by decide) (by decide) (by decide), bg0_row (w := 26) (by omega) (by decide) (by decide) (by decide) (by decide), bg0_row (w := 31) (by omega) (by decide) (by decide) (by decide) (by decide), bg0_row (w := 28) (by omega) (by decide) (by decide) (by decide) (by decide), bg0_row (w := 29) (by omega) (by decide) (by decide) (by decide) (by decide), bg0_row (w := 32) (by omega) (by decide) (by decide) (by decide) (by decide)]
          unfold cap capv at q ⊢
          rw [bg0_row (w := 27) (by omega) (by decide) (by decide) (by decide) (by decide), bg0_row (w := 34) (by omega) (by decide) (by decide) (by decide) (by decide)]
          rw [T0 0 (by decide), T0 10 (by decide), T0 26 (by decide), T0 31 (by decide), T0 27 (by decide), T0 34 (by decide), T0 28 (by decide), T0 29 (by decide), T0 32 (by decide)] at q
          rw [fix_gw (c30 := tellS C c (C 0 0) 30) (c33 := tellS C c (C 0 0) 33) (fun j hj => adB_lo (by omega)) n37 e1 e2 e3 e7]
          exact q
        · by_cases n41 : n < 41
          · obtain ⟨k, rfl⟩ : ∃ k, n = 37 + k := ⟨n - 37, by omega⟩
            rw [ent_node (by omega)] at q ⊢
            unfold nodeE at q ⊢
            rw [bg0_row (w := 1) (by omega) (by decide) (by decide) (by decide) (by decide), bg0_lo (w := 2) (by decide) (by decide) (by decide), bgA_2, bg0_row (w := 3) (by omega) (by decide) (by decide) (by decide) (by decide)]
            rw [T0 1 (by decide), T0 3 (by decide)] at q
            exact q
          · by_cases n73 : n < 73
            · obtain ⟨k, rfl⟩ : ∃ k, n = 41 + k := ⟨n - 41, by omega⟩
              rw [ent_cell (by omega)] at q ⊢
              unfold cellE at q ⊢
              rw [bg0_row (w := 4) (by omega) (by decide) (by decide) (by decide) (by decide), bg0_row (w := 5) (by omega) (by decide) (by decide) (by decide) (by decide), bg0_row (w := 6) (by omega) (by decide) (by decide) (by decide) (by decide), bg0_row (w := 7) (by omega) (by decide) (by decide) (by decide) (by decide), bg0_row (w := 8) (by omega) (by decide) (by decide) (by decide) (by decide), bg0_row (w := 9) (by omega) (by decide) (by decide) (by decide) (by decide), trB_v (h6 k (by omega))]
              rw [T0 4 (by decide), T0 5 (by decide), T0 6 (by decide), T0 7 (by decide), T0 8 (by decide), T0 9 (by decide)] at q
              exact q
            · obtain ⟨i, j, hj, rfl⟩ : ∃ i j, j < 4 ∧ n = 73 + 4 * i + j := ⟨(n - 73) / 4, (n - 73) % 4, by omega, by omega⟩
              have hi : i < nt := by omega
              rw [ent_tx hj] at q ⊢
              have hne : i ≠ nt := by omega
              unfold txE txO at q ⊢
              rw [show 50 + 3 * i = 50 + 0 + 3 * i by omega, show 51 + 3 * i = 50 + 1 + 3 * i by omega, show 52 + 3 * i = 50 + 2 + 3 * i by omega] at q ⊢
              rw [bg0_hi hne (by decide), bg0_hi hne (by decide), bg0_hi hne (by decide), bg0_ne (w := 11) (by decide) (by decide) hne, bg0_ne (w := 12) (by decide) (by decide) hne, bg0_ne (w := 13) (by decide) (by decide) hne, bg0_ne (w := 14) (by decide) (by decide) hne, bg0_ne (w := 15) (by decide) (by decide) hne, bg0_ne (w := 16) (by decide) (by decide) hne, bg0_ne (w := 17) (by decide) (by decide) hne, bg0_ne (w := 18) (by decide) (by decide) hne, bg0_ne (w := 19) (by decide) (by decide) hne, bg0_ne (w := 20) (by decide) (by decide) hne, bg0_ne (w := 21) (by decide) (by decide) hne, bg0_ne (w := 22) (by decide) (by decide) hne, trB_v (h19 i hi), gw_ad, gw_ad, gw_ad, adB_lo (by omega), adB_lo (by omega), adB_lo (by omega)]
              rw [T0 (50 + 0 + 3 * i) (by omega), T0 (50 + 1 + 3 * i) (by omega), T0 (50 + 2 + 3 * i) (by omega), T0 11 (by decide), T0 12 (by decide), T0 13 (by decide), T0 14 (by decide), T0 15 (by decide), T0 16 (by decide), T0 17 (by decide), T0 18 (by decide), T0 19 (by decide), T0 20 (by decide), T0 21 (by decide), T0 22 (by decide)] at q
              exact q
  · obtain ⟨j, hj, rfl⟩ : ∃ j, j < 4 ∧ n = 73 + 4 * nt + j := ⟨n - (73 + 4 * nt), by omega, by omega⟩
    have hat : (wB g nt h C M o c r a0 a1 a2 a3)[73 + 4 * nt + j]? = [(a0, nw3 g C nt c r a1 a2 a3), (a1, iA g 0 32 (fun _ => 0)), (a2, iA g 0 32 (fun _ => 0)), (a3, iA g 0 4 (fun _ => 0))][j]? := by
      rw [List.getElem?_set_ne (by omega), List.getElem?_append_right (by rw [wl_len]; omega), wl_len, show 73 + 4 * nt + j - (73 + 4 * nt) = j by omega]
    rw [hat, ent_tx hj]
    obtain ⟨z1, z2, z3, z4, z5, z6, z7, z8, z9, z10, z11, z12⟩ := bgA_at (C := C) (nt := nt) (c := c) (r := r)
    match j, hj with
    | 0, _ =>
      refine ⟨nw3 g C nt c r a1 a2 a3, ?_, fun q => ?_⟩
      · rw [hp_ad (by omega) (by omega), gw_ad, Nat.add_zero, adB_0]
        rfl
      · show va_at _ _ (_, txO _ _ _) H
        unfold txO
        rw [bg0_lo (w := 11) (by decide) (by decide) (by decide), bg0_lo (w := 12) (by decide) (by decide) (by decide), bg0_lo (w := 13) (by decide) (by decide) (by decide), bg0_lo (w := 14) (by decide) (by decide) (by decide), bg0_lo (w := 15) (by decide) (by decide) (by decide), bg0_lo (w := 16) (by decide) (by decide) (by decide), bg0_lo (w := 17) (by decide) (by decide) (by decide), bg0_lo (w := 18) (by decide) (by decide) (by decide), bg0_lo (w := 19) (by decide) (by decide) (by decide), bg0_lo (w := 20) (by decide) (by decide) (by decide), bg0_lo (w := 21) (by decide) (by decide) (by decide), bg0_lo (w := 22) (by decide) (by decide) (by decide), z1, z2, z3, z4, z5, z6, z7, z8, z9, z10, z11, z12, gw_ad, gw_ad, gw_ad, adB_1, adB_2, adB_3]
        exact q
    | 1, _ =>
      refine ⟨iA g 0 32 (fun _ => 0), ?_, fun q => ?_⟩
      · rw [hp_ad (by omega) (by omega), gw_ad, adB_1]
        rfl
      · show va_at _ _ (_, iA g 0 32 (bg0 C nt c r (50 + 0 + 3 * nt))) H
        rw [bg0_nt (by decide)]
        exact q
    | 2, _ =>
      refine ⟨iA g 0 32 (fun _ => 0), ?_, fun q => ?_⟩
      · rw [hp_ad (by omega) (by omega), gw_ad, adB_2]
        rfl
      · show va_at _ _ (_, iA g 0 32 (bg0 C nt c r (51 + 3 * nt))) H
        rw [show 51 + 3 * nt = 50 + 1 + 3 * nt by omega, bg0_nt (by decide)]
        exact q
    | 3, _ =>
      refine ⟨iA g 0 4 (fun _ => 0), ?_, fun q => ?_⟩
      · rw [hp_ad (by omega) (by omega), gw_ad, adB_3]
        rfl
      · show va_at _ _ (_, iA g 0 4 (bg0 C nt c r (52 + 3 * nt))) H
        rw [show 52 + 3 * nt = 50 + 2 + 3 * nt by omega, bg0_nt (by decide)]
        exact q
theorem L_begun {E : State → Method → Prop} {K : MK} {R : Room} {Qf : QT} {kb nb pc : Nat} {lv : List (Nat × Value)} {st : List Value} (hn : nt < 40) (hc : c < 4) (h6 : ∀ k, k < 32 → trv nt (C 6 k)) (h19 : ∀ i, i < nt → trv nt (C 19 i)) (k : V (gw g (adB g C nt a0 a1 a2 a3)) K R Qf kb nb (nt + 1) h (bg0 C nt c r) M o pc lv st) : VL g (gA g) E K R Qf kb nb (wB g nt h C M o c r a0 a1 a2 a3) pc lv st := by
  intro p e s m args below meth cc H locs k1 n1 ls X hE h1 h2 hR hS hl hc9
  have key := bg_key (g := g) (h := h) (M := M) (o := o) (r := r) (a0 := a0) (a1 := a1) (a2 := a2) (a3 := a3) hn hc h6 h19 (H := H)
  have hRep : Rep (gw g (adB g C nt a0 a1 a2 a3)) (nt + 1) h (bg0 C nt c r) M o H := by
    refine ⟨fun n q hq => ?_, ⟨fun i j x y hi hj e => ?_, fun n q hq => ?_⟩⟩
    · have hx : n < 73 + 4 * (nt + 1) := by have := (List.getElem?_eq_some_iff.mp hq).1; rwa [wl_len] at this
      rw [wld_at hx] at hq
      cases hq
      obtain ⟨e, k1, k2⟩ := key n hx
      exact k2 (hR.1 n _ k1)
    · have hx : i < 73 + 4 * (nt + 1) := by have := (List.getElem?_eq_some_iff.mp hi).1; rwa [wl_len] at this
      have hy : j < 73 + 4 * (nt + 1) := by have := (List.getElem?_eq_some_iff.mp hj).1; rwa [wl_len] at this
      rw [wld_at hx] at hi
      rw [wld_at hy] at hj
      cases hi
      cases hj
      obtain ⟨e1, k1, -⟩ := key i hx
      obtain ⟨e2, k2, -⟩ := key j hy
      exact hR.2.1 i j _ _ k1 k2 e
    · have hx : n < 73 + 4 * (nt + 1) := by have := (List.getElem?_eq_some_iff.mp hq).1; rwa [wl_len] at this
      rw [wld_at hx] at hq
      cases hq
      obtain ⟨e, k1, -⟩ := key n hx
      have z := hR.2.2 n _ k1
      exact z
  exact k p e s m args below meth cc H locs k1 n1 ls X h1 h2 hRep hS hl hc9
end BEG
