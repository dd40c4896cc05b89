/-! the law from its entry to its loop -/
def piS (n : Nat) : Nat := if n < 9 then n else if n = 9 then 72 else if n < 37 then 45 + (n - 10) else if n < 41 then 9 + (n - 37) else 13 + (n - 41)
theorem piS_inj : ∀ i, i < 73 → ∀ j, j < 73 → piS i = piS j → i = j := by decide +kernel
def aS (P9 MD NS CS : List Nat) (o0 : Nat) : Nat → Nat := fun n => if n < 9 then P9.getD n 0 else if n = 9 then o0 else if n < 37 then MD.getD (n - 10) 0 else if n < 41 then NS.getD (n - 37) 0 else CS.getD (n - 41) 0
theorem trN {g : GT} : trO g (-1) = none := by
  unfold trO
  rw [if_pos (by decide)]
abbrev ce1 (c : Nat) : Nat × va_E := (c, .inr (0, [.int 0, .int 1, .null, .int 0, .int 0, .int (-1)]))
abbrev wX (g : GT) (a0 a1 a2 a3 a4 b1 b2 b3 b4 n0 n1 n2 n3 c : Nat) (cs : List Nat) : va_W := (a0, tO a1 a2 a3 a4) :: (tT g a1 a2 a3 a4 b1 b2 b3 b4 (fun k => [n0, n1, n2, n3][k]?) (fun k => (c :: cs)[k]?) ++ ([n0, n1, n2, n3].map ndC ++ (ce1 c :: cs.map ceC)))
abbrev wY (g : GT) (m0 d1 d2 d3 d4 d5 d6 d7 d8 d9 d10 d11 d12 d13 d14 d15 d16 d17 d18 d19 d20 d21 d22 d23 d24 d25 d26 : Nat) : va_W := [(m0, .inr (5, [.int 0, .ref d1, .ref d2, .ref d3, .int 1, .ref d4, .ref d5, .ref d6, .ref d7, .ref d8, .ref d9, .ref d10, .int 0, .ref d11, .ref d12, .ref d13, .int 0, .ref d14, .ref d15, .ref d16, .ref d17, .ref d18, .ref d19, .ref d20, .ref d21, .ref d22, .int 0, .ref d23, .ref d24, .ref d25, .ref d26, .int 0])), (d1, iA g 0 4 (fun _ => 0)), (d2, iA g 0 4 (fun _ => 0)), (d3, iA g 1 4 (fun _ => 0)), (d4, iA g 0 32 (fun _ => 0)), (d5, iA g 0 32 (fun _ => 0)), (d6, iA g 0 32 (fill (-1) 32)), (d7, iA g 1 32 (fun _ => 0)), (d8, iA g 0 32 (fun _ => 0)), (d9, iA g 0 32 (fun _ => 0)), (d10, iA g 0 32 (fill (-1) 32)), (d11, iA g 0 1300 (fun _ => 0)), (d12, iA g 0 1300 (fun _ => 0)), (d13, iA g 0 1300 (fun _ => 0)), (d14, iA g 0 40 (fun _ => 0)), (d15, iA g 0 40 (fun _ => 0)), (d16, iA g 0 40 (fun _ => 0)), (d17, iA g 0 40 (fun _ => 0)), (d18, iA g 0 40 (fun _ => 0)), (d19, iA g 0 40 (fun _ => 0)), (d20, iA g 0 40 (fun _ => 0)), (d21, iA g 0 40 (fun _ => 0)), (d22, iA g 0 40 (fun _ => 0)), (d23, iA g 0 160 (fun _ => 0)), (d24, iA g 0 1280 (fun _ => 0)), (d25, iA g 0 1280 (fun _ => 0)), (d26, iA g 0 32 (fun _ => 0))]
abbrev wZ (g : GT) (o0 : Nat) : va_W := [(o0, .inl (gc g 2, 1, .inr (.inl (fun _ => 0))))]
section START
variable {g : GT} {a0 a1 a2 a3 a4 b1 b2 b3 b4 n0 n1 n2 n3 c : Nat} {cs : List Nat} {m0 d1 d2 d3 d4 d5 d6 d7 d8 d9 d10 d11 d12 d13 d14 d15 d16 d17 d18 d19 d20 d21 d22 d23 d24 d25 d26 o0 : Nat}
theorem wX_len (hcs : cs.length = 31) : (wX g a0 a1 a2 a3 a4 b1 b2 b3 b4 n0 n1 n2 n3 c cs).length = 45 := by
  simp only [List.length_cons, List.length_append, List.length_map, List.length_nil, hcs] <;> omega
theorem st_key (hcs : cs.length = 31) {H : Heap} (n : Nat) (hn : n < 73) : ∃ e, (wX g a0 a1 a2 a3 a4 b1 b2 b3 b4 n0 n1 n2 n3 c cs ++ wY g m0 d1 d2 d3 d4 d5 d6 d7 d8 d9 d10 d11 d12 d13 d14 d15 d16 d17 d18 d19 d20 d21 d22 d23 d24 d25 d26 ++ wZ g o0)[piS n]? = some (hp (gw g (aS [a0, a1, a2, a3, a4, b1, b2, b3, b4] [m0, d1, d2, d3, d4, d5, d6, d7, d8, d9, d10, d11, d12, d13, d14, d15, d16, d17, d18, d19, d20, d21, d22, d23, d24, d25, d26] [n0, n1, n2, n3] (c :: cs) o0)) (b1, b2) n, e) ∧ (va_at (gD g) vwCl (hp (gw g (aS [a0, a1, a2, a3, a4, b1, b2, b3, b4] [m0, d1, d2, d3, d4, d5, d6, d7, d8, d9, d10, d11, d12, d13, d14, d15, d16, d17, d18, d19, d20, d21, d22, d23, d24, d25, d26] [n0, n1, n2, n3] (c :: cs) o0)) (b1, b2) n, e) H → va_at (gD g) vwCl (hp (gw g (aS [a0, a1, a2, a3, a4, b1, b2, b3, b4] [m0, d1, d2, d3, d4, d5, d6, d7, d8, d9, d10, d11, d12, d13, d14, d15, d16, d17, d18, d19, d20, d21, d22, d23, d24, d25, d26] [n0, n1, n2, n3] (c :: cs) o0)) (b1, b2) n, ent (gw g (aS [a0, a1, a2, a3, a4, b1, b2, b3, b4] [m0, d1, d2, d3, d4, d5, d6, d7, d8, d9, d10, d11, d12, d13, d14, d15, d16, d17, d18, d19, d20, d21, d22, d23, d24, d25, d26] [n0, n1, n2, n3] (c :: cs) o0)) (b1, b2) Cst Mst 0 n) H) := by
  have hX := wX_len (g := g) (a0 := a0) (a1 := a1) (a2 := a2) (a3 := a3) (a4 := a4) (b1 := b1) (b2 := b2) (b3 := b3) (b4 := b4) (n0 := n0) (n1 := n1) (n2 := n2) (n3 := n3) (c := c) hcs
  have hR : ∀ i, i < 28 → (wX g a0 a1 a2 a3 a4 b1 b2 b3 b4 n0 n1 n2 n3 c cs ++ wY g m0 d1 d2 d3 d4 d5 d6 d7 d8 d9 d10 d11 d12 d13 d14 d15 d16 d17 d18 d19 d20 d21 d22 d23 d24 d25 d26 ++ wZ g o0)[45 + i]? = (wY g m0 d1 d2 d3 d4 d5 d6 d7 d8 d9 d10 d11 d12 d13 d14 d15 d16 d17 d18 d19 d20 d21 d22 d23 d24 d25 d26 ++ wZ g o0)[i]? := by
    intro i hi
    rw [List.append_assoc, List.getElem?_append_right (by rw [hX]; omega), hX, show 45 + i - 45 = i by omega]
  by_cases h41 : n < 41
  · have hc : n = 0 ∨ n = 1 ∨ n = 2 ∨ n = 3 ∨ n = 4 ∨ n = 5 ∨ n = 6 ∨ n = 7 ∨ n = 8 ∨ n = 9 ∨ n = 10 ∨ n = 11 ∨ n = 12 ∨ n = 13 ∨ n = 14 ∨ n = 15 ∨ n = 16 ∨ n = 17 ∨ n = 18 ∨ n = 19 ∨ n = 20 ∨ n = 21 ∨ n = 22 ∨ n = 23 ∨ n = 24 ∨ n = 25 ∨ n = 26 ∨ n = 27 ∨ n = 28 ∨ n = 29 ∨ n = 30 ∨ n = 31 ∨ n = 32 ∨ n = 33 ∨ n = 34 ∨ n = 35 ∨ n = 36 ∨ n = 37 ∨ n = 38 ∨ n = 39 ∨ n = 40 := by omega
    rcases hc with rfl | rfl | rfl | rfl | rfl | rfl | rfl | rfl | rfl | rfl | rfl | rfl | rfl | rfl | rfl | rfl | rfl | rfl | rfl | rfl | rfl | rfl | rfl | rfl | rfl | rfl | rfl | rfl | rfl | rfl | rfl | rfl | rfl | rfl | rfl | rfl | rfl | rfl | rfl | rfl | rfl
    · exact ⟨_, rfl, fun q => by rw [ent_fix (by decide)]; exact q⟩
    · refine ⟨_, rfl, fun q => ?_⟩
      rw [ent_fix (by decide)]
      refine at_q q (fun k hk => ?_)
      match k, hk with
      | 0, _ => rfl
      | 1, _ => rfl
      | 2, _ => rfl
      | 3, _ => rfl
    · refine ⟨_, rfl, fun q => ?_⟩
      rw [ent_fix (by decide)]
      refine at_q q (fun k hk => ?_)
      show (c :: cs)[k]? = some ((aS [a0, a1, a2, a3, a4, b1, b2, b3, b4] [m0, d1, d2, d3, d4, d5, d6, d7, d8, d9, d10, d11, d12, d13, d14, d15, d16, d17, d18, d19, d20, d21, d22, d23, d24, d25, d26] [n0, n1, n2, n3] (c :: cs) o0) (41 + k))
      unfold aS
      rw [if_neg (by omega), if_neg (by omega), if_neg (by omega), if_neg (by omega), show 41 + k - 41 = k by omega]
      have hk2 : k < (c :: cs).length := by rw [List.length_cons, hcs]; exact hk
      rw [List.getElem?_eq_getElem hk2, List.getD_eq_getElem?_getD, List.getElem?_eq_getElem hk2]
      rfl
    · refine ⟨_, rfl, fun q => ?_⟩
      rw [ent_fix (by decide)]
      exact at_q q (fun k hk => trN.symm)
    · exact ⟨_, rfl, fun q => by rw [ent_fix (by decide)]; exact q⟩
    · refine ⟨_, rfl, fun q => ?_⟩
      rw [ent_fix (by decide)]
      unfold fixE
      rw [cap_st]
      exact q
    · refine ⟨_, rfl, fun q => ?_⟩
      rw [ent_fix (by decide)]
      unfold fixE
      rw [capv_st]
      exact q
    · refine ⟨_, rfl, fun q => ?_⟩
      rw [ent_fix (by decide)]
      exact at_q q (fun k hk => trN.symm)
    · exact ⟨_, rfl, fun q => by rw [ent_fix (by decide)]; exact q⟩
    · exact ⟨_, hR 27 (by decide), fun q => by rw [ent_fix (by decide)]; exact q⟩
    · exact ⟨_, hR 0 (by decide), fun q => by rw [ent_fix (by decide)]; exact q⟩
    · exact ⟨_, hR 1 (by decide), fun q => by rw [ent_fix (by decide)]; exact q⟩
    · exact ⟨_, hR 2 (by decide), fun q => by rw [ent_fix (by decide)]; exact q⟩
    · exact ⟨_, hR 3 (by decide), fun q => by rw [ent_fix (by decide)]; exact q⟩
    · exact ⟨_, hR 4 (by decide), fun q => by rw [ent_fix (by decide)]; exact q⟩
    · exact ⟨_, hR 5 (by decide), fun q => by rw [ent_fix (by decide)]; exact q⟩
    · exact ⟨_, hR 6 (by decide), fun q => by rw [ent_fix (by decide)]; exact q⟩
    · exact ⟨_, hR 7 (by decide), fun q => by rw [ent_fix (by decide)]; exact q⟩
    · exact ⟨_, hR 8 (by decide), fun q => by rw [ent_fix (by decide)]; exact q⟩
    · exact ⟨_, hR 9 (by decide), fun q => by rw [ent_fix (by decide)]; exact q⟩
    · exact ⟨_, hR 10 (by decide), fun q => by rw [ent_fix (by decide)]; exact q⟩
    · exact ⟨_, hR 11 (by decide), fun q => by rw [ent_fix (by decide)]; exact q⟩
    · exact ⟨_, hR 12 (by decide), fun q => by rw [ent_fix (by decide)]; exact q⟩
    · exact ⟨_, hR 13 (by decide), fun q => by rw [ent_fix (by decide)]; exact q⟩
    · exact ⟨_, hR 14 (by decide), fun q => by rw [ent_fix (by decide)]; exact q⟩
    · exact ⟨_, hR 15 (by decide), fun q => by rw [ent_fix (by decide)]; exact q⟩
    · exact ⟨_, hR 16 (by decide), fun q => by rw [ent_fix (by decide)]; exact q⟩
    · exact ⟨_, hR 17 (by decide), fun q => by rw [ent_fix (by decide)]; exact q⟩
    · exact ⟨_, hR 18 (by decide), fun q => by rw [ent_fix (by decide)]; exact q⟩
    · exact ⟨_, hR 19 (by decide), fun q => by rw [ent_fix (by decide)]; exact q⟩
    · exact ⟨_, hR 20 (by decide), fun q => by rw [ent_fix (by decide)]; exact q⟩
    · exact ⟨_, hR 21 (by decide), fun q => by rw [ent_fix (by decide)]; exact q⟩
    · exact ⟨_, hR 22 (by decide), fun q => by rw [ent_fix (by decide)]; exact q⟩
    · exact ⟨_, hR 23 (by decide), fun q => by rw [ent_fix (by decide)]; exact q⟩
    · exact ⟨_, hR 24 (by decide), fun q => by rw [ent_fix (by decide)]; exact q⟩
    · exact ⟨_, hR 25 (by decide), fun q => by rw [ent_fix (by decide)]; exact q⟩
    · exact ⟨_, hR 26 (by decide), fun q => by rw [ent_fix (by decide)]; exact q⟩
    · exact ⟨_, rfl, fun q => by rw [ent_node (k := 0) (by decide)]; exact q⟩
    · exact ⟨_, rfl, fun q => by rw [ent_node (k := 1) (by decide)]; exact q⟩
    · exact ⟨_, rfl, fun q => by rw [ent_node (k := 2) (by decide)]; exact q⟩
    · exact ⟨_, rfl, fun q => by rw [ent_node (k := 3) (by decide)]; exact q⟩
  · obtain ⟨k, rfl⟩ : ∃ k, n = 41 + k := ⟨n - 41, by omega⟩
    have hpi : piS (41 + k) = 13 + k := by
      unfold piS
      rw [if_neg (by omega), if_neg (by omega), if_neg (by omega), if_neg (by omega), show 41 + k - 41 = k by omega]
    have had : hp (gw g (aS [a0, a1, a2, a3, a4, b1, b2, b3, b4] [m0, d1, d2, d3, d4, d5, d6, d7, d8, d9, d10, d11, d12, d13, d14, d15, d16, d17, d18, d19, d20, d21, d22, d23, d24, d25, d26] [n0, n1, n2, n3] (c :: cs) o0)) (b1, b2) (41 + k) = (c :: cs).getD k 0 := by
      rw [hp_ad (by omega) (by omega), gw_ad]
      unfold aS
      rw [if_neg (by omega), if_neg (by omega), if_neg (by omega), if_neg (by omega), show 41 + k - 41 = k by omega]
    rw [hpi, had, ent_cell (by omega)]
    unfold cellE
    match k, hn with
    | 0, _ =>
      refine ⟨_, rfl, fun q => ?_⟩
      rw [show trO (gw g (aS [a0, a1, a2, a3, a4, b1, b2, b3, b4] [m0, d1, d2, d3, d4, d5, d6, d7, d8, d9, d10, d11, d12, d13, d14, d15, d16, d17, d18, d19, d20, d21, d22, d23, d24, d25, d26] [n0, n1, n2, n3] (c :: cs) o0)) (Cst 6 0) = none from trN]
      exact q
    | k + 1, hn =>
      have hk2 : k < cs.length := by omega
      refine ⟨.inr (0, [.int 0, .int 0, .null, .int 0, .int 0, .int (-1)]), ?_, fun q => ?_⟩
      · rw [List.append_assoc, List.getElem?_append_left (by rw [hX]; omega), show 13 + (k + 1) = k + 14 by omega]
        show (cs.map ceC)[k]? = some (cs.getD k 0, _)
        rw [List.getElem?_map, List.getElem?_eq_getElem hk2, List.getD_eq_getElem?_getD, List.getElem?_eq_getElem hk2]
        rfl
      · rw [show trO (gw g (aS [a0, a1, a2, a3, a4, b1, b2, b3, b4] [m0, d1, d2, d3, d4, d5, d6, d7, d8, d9, d10, d11, d12, d13, d14, d15, d16, d17, d18, d19, d20, d21, d22, d23, d24, d25, d26] [n0, n1, n2, n3] (c :: cs) o0)) (Cst 6 (k + 1)) = none from trN]
        exact q
theorem L_start {E : State → Method → Prop} {K : MK} {R : Room} {Qf : QT} {kb nb pc : Nat} {lv : List (Nat × Value)} {st : List Value} (hcs : cs.length = 31) (k : V (gw g (aS [a0, a1, a2, a3, a4, b1, b2, b3, b4] [m0, d1, d2, d3, d4, d5, d6, d7, d8, d9, d10, d11, d12, d13, d14, d15, d16, d17, d18, d19, d20, d21, d22, d23, d24, d25, d26] [n0, n1, n2, n3] (c :: cs) o0)) K R Qf kb nb 0 (b1, b2) Cst Mst 0 pc lv st) : VL g (gA g) E K R Qf kb nb (wX g a0 a1 a2 a3 a4 b1 b2 b3 b4 n0 n1 n2 n3 c cs ++ wY g m0 d1 d2 d3 d4 d5 d6 d7 d8 d9 d10 d11 d12 d13 d14 d15 d16 d17 d18 d19 d20 d21 d22 d23 d24 d25 d26 ++ wZ g o0) pc lv st := by
  intro p e s m args below meth cc H locs k9 n9 ls X hE h1 h2 hR hS hl hc9
  have key := st_key (g := g) (a0 := a0) (a1 := a1) (a2 := a2) (a3 := a3) (a4 := a4) (b1 := b1) (b2 := b2) (b3 := b3) (b4 := b4) (n0 := n0) (n1 := n1) (n2 := n2) (n3 := n3) (c := c) (m0 := m0) (d1 := d1) (d2 := d2) (d3 := d3) (d4 := d4) (d5 := d5) (d6 := d6) (d7 := d7) (d8 := d8) (d9 := d9) (d10 := d10) (d11 := d11) (d12 := d12) (d13 := d13) (d14 := d14) (d15 := d15) (d16 := d16) (d17 := d17) (d18 := d18) (d19 := d19) (d20 := d20) (d21 := d21) (d22 := d22) (d23 := d23) (d24 := d24) (d25 := d25) (d26 := d26) (o0 := o0) hcs (H := H)
  generalize (aS [a0, a1, a2, a3, a4, b1, b2, b3, b4] [m0, d1, d2, d3, d4, d5, d6, d7, d8, d9, d10, d11, d12, d13, d14, d15, d16, d17, d18, d19, d20, d21, d22, d23, d24, d25, d26] [n0, n1, n2, n3] (c :: cs) o0) = a' at key k
  have hlen : ∀ {n : Nat} {q : Nat × va_E}, (wld (gw g a') 0 (b1, b2) Cst Mst 0)[n]? = some q → n < 73 := by
    intro n q hq
    have := (List.getElem?_eq_some_iff.mp hq).1
    rw [wl_len] at this
    omega
  have hRep : Rep (gw g a') 0 (b1, b2) Cst Mst 0 H := by
    refine ⟨fun n q hq => ?_, ⟨fun i j x y hi hj e => ?_, fun n q hq => ?_⟩⟩
    · have hx := hlen hq
      rw [wld_at (by omega)] at hq
      cases hq
      obtain ⟨e, k1, k2⟩ := key n hx
      exact k2 (hR.1 _ _ k1)
    · have hx := hlen hi
      have hy := hlen hj
      rw [wld_at (by omega)] at hi
      rw [wld_at (by omega)] at hj
      cases hi
      cases hj
      obtain ⟨e1, k1, -⟩ := key i hx
      obtain ⟨e2, k2, -⟩ := key j hy
      exact piS_inj i hx j hy (hR.2.1 _ _ _ _ k1 k2 e)
    · have hx := hlen hq
      rw [wld_at (by omega)] at hq
      cases hq
      obtain ⟨e, k1, -⟩ := key n hx
      have z := hR.2.2 _ _ k1
      exact z
  exact k p e s m args below meth cc H locs k9 n9 ls X h1 h2 hRep hS hl hc9
end START
theorem law_start {g : GT} {b L : Nat} {xs : Nat → Int32} (hL : L ≤ 2048) : VL g (gA g) (EX (gA g) (true, false)) K_law room_1 (lawQ g b L xs) 0 0 [] 0 [(0, .ref b)] [] := by
  refine L_new (ci := 4) (T := TX4) (fs := f40) (dG D_L_law_0 0 rfl) uin_4 tyX4_ok ⟨w_17, w_18, w_1⟩ rfl (by decide) ⟨Nat.le_of_ble_eq_true rfl, Nat.le_of_ble_eq_true rfl⟩ (fun a0 => ?_)
  refine L_dup (dG D_L_law_0 1 rfl) rfl ?_
  refine L_ctor (Y := K_X4_init) (n := 0) (j := 0) (As := []) init_4 (fun _ z => z) (dG D_L_law_0 2 rfl) rfl rfl (fun _ => rfl) ⟨w_19, w_20, w_1, w_21, rfl, rfl, by decide +kernel⟩ ⟨Nat.le_of_ble_eq_true rfl, Nat.le_of_ble_eq_true rfl⟩ ⟨Nat.le_of_ble_eq_true rfl, Nat.le_of_ble_eq_true rfl⟩ (Nat.le_of_ble_eq_true rfl) rfl (fun e0 tl0 he0 => ?_)
  obtain ⟨a1, a2, a3, a4, b1, b2, b3, b4, nds, c, cs, hns, hcs, he1⟩ := he0
  cases he1
  obtain ⟨n0, n1, n2, n3, rfl⟩ : ∃ n0 n1 n2 n3, nds = [n0, n1, n2, n3] := by
    match nds, hns with
    | [n0, n1, n2, n3], _ => exact ⟨n0, n1, n2, n3, rfl⟩
  show VL g _ _ K_law _ _ _ _ (wX g a0 a1 a2 a3 a4 b1 b2 b3 b4 n0 n1 n2 n3 c cs) _ _ _
  have hX := wX_len (g := g) (a0 := a0) (a1 := a1) (a2 := a2) (a3 := a3) (a4 := a4) (b1 := b1) (b2 := b2) (b3 := b3) (b4 := b4) (n0 := n0) (n1 := n1) (n2 := n2) (n3 := n3) (c := c) hcs
  refine L_astore_n (dG D_L_law_0 3 rfl) (by decide) ?_
  refine L_new (ci := 5) (T := TX5) (fs := f50) (dG D_L_law_0 4 rfl) uin_5 tyX5_ok ⟨w_688, w_689, w_5⟩ rfl (by decide +kernel) ⟨Nat.le_of_ble_eq_true rfl, Nat.le_of_ble_eq_true rfl⟩ (fun m0 => ?_)
  refine L_dup (dG D_L_law_0 5 rfl) rfl ?_
  refine L_ctor (Y := K_X5_init) (n := 0) (j := 45) (As := []) init_5 (fun _ z => z) (dG D_L_law_0 6 rfl) rfl ?_ (fun z => by cases z) ⟨w_690, w_691, w_5, w_692, rfl, rfl, by decide +kernel⟩ ⟨Nat.le_of_ble_eq_true rfl, Nat.le_of_ble_eq_true rfl⟩ ⟨Nat.le_of_ble_eq_true rfl, Nat.le_of_ble_eq_true rfl⟩ (Nat.le_of_ble_eq_true rfl) rfl (fun e0 tl0 he0 => ?_)
  · rw [List.getElem?_append_right (by rw [hX]; exact Nat.le_refl _), hX]
    rfl
  obtain ⟨d1, d2, d3, d4, d5, d6, d7, d8, d9, d10, d11, d12, d13, d14, d15, d16, d17, d18, d19, d20, d21, d22, d23, d24, d25, d26, he1⟩ := he0
  cases he1
  rw [set_last hX, List.append_assoc]
  show VL g _ _ K_law _ _ _ _ (wX g a0 a1 a2 a3 a4 b1 b2 b3 b4 n0 n1 n2 n3 c cs ++ wY g m0 d1 d2 d3 d4 d5 d6 d7 d8 d9 d10 d11 d12 d13 d14 d15 d16 d17 d18 d19 d20 d21 d22 d23 d24 d25 d26) _ _ _
  refine L_astore_n (dG D_L_law_0 7 rfl) (by decide) ?_
  refine L_iconst (v := 1) (dG D_L_law_0 8 rfl) (by decide) ?_
  refine L_newa (t := 2) (N := 1) (a0 := (1, .inr (.inl (fun _ => 0)))) (dG D_L_law_0 9 rfl) w_1003 rfl rfl (fun _ => rfl) (by decide) (by decide) (by decide) ⟨Nat.le_of_ble_eq_true rfl, Nat.le_of_ble_eq_true rfl⟩ (fun o0 => ?_)
  refine L_astore_n (dG D_L_law_0 10 rfl) (by decide) ?_
  refine L_iconst (v := nI (4 * 0)) (dG D_L_law_0 11 rfl) (by decide) ?_
  refine L_istore (dG D_L_law_0 12 rfl) (by decide) ?_
  refine L_start (g := g) (a0 := a0) (a1 := a1) (a2 := a2) (a3 := a3) (a4 := a4) (b1 := b1) (b2 := b2) (b3 := b3) (b4 := b4) (n0 := n0) (n1 := n1) (n2 := n2) (n3 := n3) (c := c) (m0 := m0) (d1 := d1) (d2 := d2) (d3 := d3) (d4 := d4) (d5 := d5) (d6 := d6) (d7 := d7) (d8 := d8) (d9 := d9) (d10 := d10) (d11 := d11) (d12 := d12) (d13 := d13) (d14 := d14) (d15 := d15) (d16 := d16) (d17 := d17) (d18 := d18) (d19 := d19) (d20 := d20) (d21 := d21) (d22 := d22) (d23 := d23) (d24 := d24) (d25 := d25) (d26 := d26) (o0 := o0) hcs ?_
  refine V_sub [0, 1, 2, 3, 4] rfl ?_
  exact law_loop hL 513 0 0 20050 1 _ Cst Mst 0 (b1, b2) _ _ (by omega) (by omega) Inv_st (by omega) (by rw [cap_st]; decide) (by rw [cap_st]; decide)
