/-! versions counted, the feed, the order, what is judged: both sides -/
section CNT
variable {B nt R : Nat} {L L' : List (Nat × Nat × Int32)} {C M : St}
theorem cnt_ok (hB : B ≤ 900000) (hr : RepC L (C 28) (C 29)) (ho : ∀ e ∈ L, okE B e) {key : Nat} (hk : key < 32) : ∀ (n i a : Nat), i + n = L.length → cntS C (nI key) n i (nI a) = nI (a + (L.drop i).countP (fun e => decide (e.2.1 = key)))
  | 0, i, a, h => by
    rw [List.drop_of_length_le (by omega)]
    rfl
  | n + 1, i, a, h => by
    obtain ⟨e, h1, h2⟩ := drop_c (L' := L) (i := i) (by omega)
    have ok := ho e (List.mem_of_getElem? h1)
    have hc := (hr i e h1).1
    rw [h2, List.countP_cons]
    unfold cntS
    rw [hc]
    unfold chN
    rw [rm_ch (ch_lt ok hB) ok.2.1]
    by_cases q : e.2.1 = key
    · rw [if_pos (by rw [q]), nI_1, cnt_ok hB hr ho hk n (i + 1) (a + 1) (by omega)]
      rw [decide_eq_true q, if_pos rfl]
      congr 1; omega
    · rw [if_neg (fun z => q ((nI_eq (by have := ok.2.1; omega) (by omega)).mp z)), cnt_ok hB hr ho hk n (i + 1) a (by omega)]
      rw [decide_eq_false q, if_neg (by decide)]
      rfl
theorem ky_ok (hr : RepM L' (M 13) (M 14) (M 15)) (ho : ∀ e ∈ L', okE B e) {key : Nat} {w : Int32} (hk : key < 32) : ∀ (n i a : Nat), i + n = L'.length → s_key_47 (nI key) w n (nI a) i M = s_key_47 (nI key) w 0 (nI (a + (L'.drop i).countP (fun e => decide (e.2.1 = key)))) L'.length M
  | 0, i, a, h => by
    rw [List.drop_of_length_le (by omega)]
    have : i = L'.length := by omega
    subst this
    rfl
  | n + 1, i, a, h => by
    obtain ⟨e, h1, h2⟩ := drop_c (L' := L') (i := i) (by omega)
    have ok := ho e (List.mem_of_getElem? h1)
    have hc := (hr i e h1).1
    rw [h2, List.countP_cons]
    rw [show s_key_47 (nI key) w (n + 1) (nI a) i M = (if (M 13 i) = nI key then (s_key_47 (nI key) w n (nI a + (1 : Int32)) (i + 1) M) else (s_key_47 (nI key) w n (nI a + (0 : Int32)) (i + 1) M)) from rfl, hc]
    by_cases q : e.2.1 = key
    · rw [if_pos (by rw [q]), nI_1, ky_ok hr ho hk n (i + 1) (a + 1) (by omega)]
      rw [decide_eq_true q, if_pos rfl, show a + 1 + (L'.drop (i + 1)).countP (fun e => decide (e.2.1 = key)) = a + ((L'.drop (i + 1)).countP (fun e => decide (e.2.1 = key)) + 1) by omega]
    · rw [if_neg (fun z => q ((nI_eq (by have := ok.2.1; omega) (by omega)).mp z)), Int32.add_zero, ky_ok hr ho hk n (i + 1) a (by omega)]
      rw [decide_eq_false q, if_neg (by decide)]
      rfl
theorem Inv.cnt (h : Inv nt B R C M) (hB : B ≤ 900000) {key : Nat} (hk : key < 32) {w : Int32} : s_key_47 (nI key) w (M 12 0).toNatClampNeg 0 0 M = s_key_47 (nI key) w 0 (cntS C (nI key) (cn C) 0 0) (M 12 0).toNatClampNeg M := by
  obtain ⟨L, L', v1, v2, v3, v4, v5, v6, v7, v8, v9⟩ := h.v
  have ec : cn C = L.length := by unfold cn; rw [v2, nI_clamp (by omega)]
  have em : (M 12 0).toNatClampNeg = L'.length := by rw [v3, nI_clamp (by omega), v1.length_eq]
  rw [em, ec]
  have h1 := ky_ok (M := M) (B := B) v6 (fun e he => v7 e (v1.mem_iff.mpr he)) (w := w) hk L'.length 0 0 (by omega)
  have h2 := cnt_ok hB v5 v7 hk L.length 0 0 (by omega)
  rw [show (0 : Int32) = nI 0 from rfl, h1, h2, List.drop_zero, List.drop_zero, v1.countP_eq]
-- the feed
def m2 (a c : Nat) : Nat := if a = 0 then c else if c = 0 then a else min a c
theorem m2_l {a b c : Nat} : m2 a (m2 b c) = m2 b (m2 a c) := by
  unfold m2
  repeat' split
  all_goals omega
theorem m2_a {a b c : Nat} : m2 (m2 a b) c = m2 a (m2 b c) := by
  unfold m2
  repeat' split
  all_goals omega
theorem m2_0 {c : Nat} : m2 0 c = c := rfl
theorem m2_00 {c : Nat} : m2 c 0 = c := by
  unfold m2
  split
  · omega
  · rfl
theorem lo_m2 {a m : Nat} (ha : a < 2 ^ 31) (hm : m < 2 ^ 31) : (if loI a = (-1 : Int32) then nI m else (if loI a ≤ nI m then loI a else nI m)) = loI (m2 a (m + 1)) := by
  unfold m2
  by_cases h : a = 0
  · subst h
    rw [if_pos (show loI 0 = -1 from rfl), if_pos rfl]
    rfl
  · have e : loI a = nI (a - 1) := by unfold loI; rw [if_neg h]
    rw [e, if_neg (show ¬ nI (a - 1) = (-1 : Int32) from fun z => ne_nI (by omega) z.symm), if_neg h, if_neg (show ¬ m + 1 = 0 by omega)]
    by_cases q : a - 1 ≤ m
    · rw [if_pos (nI_le q hm), Nat.min_eq_left (by omega), e]
    · rw [if_neg (nI_ge (by omega) (by omega)), Nat.min_eq_right (by omega)]
      rfl
def mi (s l : Nat) : List (Nat × Nat × Int32) → Nat
  | [] => 0
  | e :: L => if e.1 ≤ s ∧ l < chN e + 1 then m2 (chN e + 1) (mi s l L) else mi s l L
theorem mi_c {s l : Nat} {e : Nat × Nat × Int32} {L : List (Nat × Nat × Int32)} : mi s l (e :: L) = if e.1 ≤ s ∧ l < chN e + 1 then m2 (chN e + 1) (mi s l L) else mi s l L := rfl
theorem mi_perm {s l : Nat} {L L' : List (Nat × Nat × Int32)} (h : L.Perm L') : mi s l L = mi s l L' := by
  induction h with
  | nil => rfl
  | cons e _ ih => rw [mi_c, mi_c, ih]
  | swap a b L =>
    rw [mi_c, mi_c, mi_c, mi_c]
    split <;> split <;> first | rfl | exact m2_l
  | trans _ _ h1 h2 => exact h1.trans h2
theorem mi_none {s l : Nat} {L : List (Nat × Nat × Int32)} (h : ∀ e ∈ L, ¬ (e.1 ≤ s ∧ l < chN e + 1)) : mi s l L = 0 := by
  induction L with
  | nil => rfl
  | cons e L ih =>
    rw [mi_c, if_neg (h e List.mem_cons_self)]
    exact ih (fun a ha => h a (List.mem_cons_of_mem _ ha))
theorem mi_skip {s l : Nat} {L L2 : List (Nat × Nat × Int32)} (h : ∀ e ∈ L, ¬ (e.1 ≤ s ∧ l < chN e + 1)) : mi s l (L ++ L2) = mi s l L2 := by
  induction L with
  | nil => rfl
  | cons e L ih =>
    show mi s l (e :: (L ++ L2)) = _
    rw [mi_c, if_neg (h e List.mem_cons_self)]
    exact ih (fun a ha => h a (List.mem_cons_of_mem _ ha))
theorem mi_ge {s l b : Nat} {L : List (Nat × Nat × Int32)} (h : ∀ e ∈ L, b ≤ chN e + 1) : mi s l L = 0 ∨ b ≤ mi s l L := by
  induction L with
  | nil => exact Or.inl rfl
  | cons e L ih =>
    have h1 := h e List.mem_cons_self
    have h2 := ih (fun a ha => h a (List.mem_cons_of_mem _ ha))
    rw [mi_c]
    split
    · right
      unfold m2
      repeat' split
      all_goals omega
    · exact h2
theorem lo_le {m l : Nat} (hm : m < 2 ^ 31) (hl : l < 2 ^ 31) : nI m ≤ loI l ↔ ¬ l < m + 1 := by
  unfold loI
  by_cases h : l = 0
  · subst h
    rw [if_pos rfl]
    constructor
    · intro q
      exact absurd (Int32.le_trans (nI_pos' hm) q) (by decide)
    · intro q
      omega
  · rw [if_neg h, nI_leI hm (by omega)]
    omega
theorem fd42_ok (hB : B ≤ 900000) (hr : RepM L' (M 13) (M 14) (M 15)) (ho : ∀ e ∈ L', okE B e) {x z : Int32} {s l : Nat} (hs : s < 2 ^ 31) (hl : l < 2 ^ 31) : ∀ (n i a : Nat), i + n = L'.length → a < 2 ^ 31 → s_feed_42 x n (loI l) (nI s) z (loI a) i M = loI (m2 a (mi s l (L'.drop i)))
  | 0, i, a, h, _ => by
    rw [List.drop_of_length_le (by omega)]
    show loI a = loI (m2 a 0)
    rw [m2_00]
  | n + 1, i, a, h, ha => by
    obtain ⟨e, h1, h2⟩ := drop_c (L' := L') (i := i) (by omega)
    have hm : e ∈ L' := List.mem_of_getElem? h1
    have ok := ho e hm
    obtain ⟨r1, r2, r3⟩ := hr i e h1
    have hce : (32 : Int32) * nI e.1 + nI e.2.1 = nI (chN e) := by
      show nI 32 * nI e.1 + nI e.2.1 = _
      rw [pk_mul, nI_add]
      rfl
    have hlt : chN e < 2 ^ 31 := ch_lt ok hB
    have hb1 := ok.1
    rw [h2, mi_c]
    unfold s_feed_42
    rw [r1, r2, hce]
    by_cases q1 : e.1 ≤ s
    · rw [if_neg (nI_nlt q1 hs)]
      by_cases q2 : l < chN e + 1
      · rw [if_neg (show ¬ nI (chN e) ≤ loI l from fun q => (lo_le hlt hl).mp q q2), if_pos (show e.1 ≤ s ∧ l < chN e + 1 from ⟨q1, q2⟩)]
        have hlt2 : chN e + 1 < 2 ^ 31 := by
          have := ok.1
          have := ok.2.1
          unfold chN
          omega
        have hmm : m2 a (chN e + 1) < 2 ^ 31 := by
          unfold m2
          repeat' split
          all_goals omega
        have ih := fd42_ok hB hr ho hs hl n (i + 1) (m2 a (chN e + 1)) (by omega) hmm (x := x) (z := z)
        rw [m2_a] at ih
        rw [← ih, ← lo_m2 ha hlt]
        by_cases q3 : loI a = (-1 : Int32)
        · rw [if_pos q3, if_pos q3]
        · rw [if_neg q3, if_neg q3]
          by_cases q4 : loI a ≤ nI (chN e)
          · rw [if_pos q4, if_pos q4]
          · rw [if_neg q4, if_neg q4]
      · rw [if_pos ((lo_le hlt hl).mpr q2), if_neg (show ¬ (e.1 ≤ s ∧ l < chN e + 1) from fun q => q2 q.2)]
        exact fd42_ok hB hr ho hs hl n (i + 1) a (by omega) ha
    · rw [if_pos (nI_lt (by omega) (by omega)), if_neg (show ¬ (e.1 ≤ s ∧ l < chN e + 1) from fun q => q1 q.1)]
      exact fd42_ok hB hr ho hs hl n (i + 1) a (by omega) ha
/-- place i of the sorted list, by the least behind place i - 1 -/
def lpl (L : List (Nat × Nat × Int32)) (i : Nat) : Nat := if i = 0 then 0 else match L[i - 1]? with
  | none => 0
  | some e => chN e + 1
theorem mi_nth (hs : L.Pairwise (fun a b => chN a < chN b)) (ho : ∀ e ∈ L, okE B e) {s i : Nat} (hi : i ≤ L.length) : mi s (lpl L i) L = match L[i]? with
    | none => 0
    | some e => if e.1 ≤ s then chN e + 1 else 0 := by
  have hsk : mi s (lpl L i) L = mi s (lpl L i) (L.drop i) := by
    have hg : ∀ e ∈ L.take i, ¬ (e.1 ≤ s ∧ lpl L i < chN e + 1) := by
      intro e he q
      obtain ⟨j, hj⟩ := List.mem_iff_getElem?.mp he
      have hj2 : j < i := by
        have := (List.getElem?_eq_some_iff.mp hj).1
        rw [List.length_take] at this
        omega
      rw [List.getElem?_take_of_lt hj2] at hj
      have h3 : L[i - 1]? = some L[i - 1] := List.getElem?_eq_getElem (by omega)
      have e1 : lpl L i = chN L[i - 1] + 1 := by
        unfold lpl
        rw [if_neg (by omega), h3]
      rw [e1] at q
      by_cases z : j = i - 1
      · subst z
        rw [h3] at hj
        have := Option.some.inj hj
        rw [this] at q
        omega
      · have := so_nth hs hj h3 (by omega)
        omega
    have := mi_skip hg (L2 := L.drop i)
    rw [List.take_append_drop] at this
    exact this
  rw [hsk]
  rcases Nat.lt_or_ge i L.length with h | h
  · obtain ⟨e, h1, h2⟩ := drop_c (L' := L) h
    have hge : ∀ a ∈ L.drop (i + 1), chN e < chN a := by
      intro a ha
      obtain ⟨j, hj⟩ := List.mem_iff_getElem?.mp ha
      rw [List.getElem?_drop] at hj
      exact so_nth hs h1 hj (by omega)
    have hlp : lpl L i < chN e + 1 := by
      unfold lpl
      split
      · omega
      · have h3 : L[i - 1]? = some L[i - 1] := List.getElem?_eq_getElem (by omega)
        rw [h3]
        have := so_nth hs h3 h1 (by omega)
        show chN L[i - 1] + 1 < _
        omega
    rw [h2, h1, mi_c]
    show _ = if e.1 ≤ s then chN e + 1 else 0
    by_cases q : e.1 ≤ s
    · rw [if_pos (show e.1 ≤ s ∧ lpl L i < chN e + 1 from ⟨q, hlp⟩), if_pos q]
      have := mi_ge (s := s) (l := lpl L i) (b := chN e + 1) (L := L.drop (i + 1)) (fun a ha => by have := hge a ha; omega)
      unfold m2
      repeat' split
      all_goals omega
    · rw [if_neg (show ¬ (e.1 ≤ s ∧ lpl L i < chN e + 1) from fun z => q z.1), if_neg q]
      refine mi_none (fun a ha z => ?_)
      have h5 := hge a ha
      have o1 := (ho e (List.mem_of_getElem? h1)).2.1
      have o2 := (ho a (List.mem_of_mem_drop ha)).2.1
      unfold chN at h5
      omega
  · rw [List.drop_of_length_le h, List.getElem?_eq_none h]
    rfl
theorem fd23_ok (hB : B ≤ 900000) (hp : L.Perm L') (hr : RepM L' (M 13) (M 14) (M 15)) (hl : M 12 0 = nI L.length) (hl2 : L.length ≤ 1280) (ho : ∀ e ∈ L, okE B e) (hso : L.Pairwise (fun a b => chN a < chN b)) (h31 : M 31 0 = 0) {x s : Nat} (hs : s < 2 ^ 31) (hx : x < 2 ^ 31) : ∀ (n i : Nat), i ≤ L.length → i ≤ x + 1 → L.length + 1 < i + n → (∀ e, i = x + 1 → L[x]? = some e → e.1 ≤ s) → (s_feed_23 (nI x) n (loI (lpl L i)) (nI s) i M).1 = match L[x]? with
    | none => -1
    | some e => if e.1 ≤ s then nI (chN e) else -1
  | 0, i, h1, h2, h3, h4 => by omega
  | n + 1, i, h1, h2, h3, h4 => by
    unfold s_feed_23
    by_cases q : i = x + 1
    · have h5 : L[x]? = some L[x] := List.getElem?_eq_getElem (by omega)
      rw [if_pos (nI_lt (by omega) (by omega)), if_pos h31, h5]
      show loI (lpl L i) = if _ then _ else _
      rw [if_pos (h4 _ q h5)]
      unfold lpl
      rw [if_neg (by omega), show i - 1 = x by omega, h5]
      rfl
    · rw [if_neg (nI_nlt (by omega) hx), if_pos h31, hl, nI_clamp (by omega)]
      have hlp : lpl L i < 2 ^ 31 := by
        unfold lpl
        split
        · omega
        · split
          · omega
          · rename_i e he
            have ok := ho e (List.mem_of_getElem? he)
            have := ok.1
            have := ok.2.1
            unfold chN
            omega
      have e1 := fd42_ok (M := M) hB hr (fun e he => ho e (hp.mem_iff.mpr he)) hs hlp (x := nI x) (z := nI i) L'.length 0 0 (by omega) (by omega)
      rw [List.drop_zero, m2_0] at e1
      rw [show (-1 : Int32) = loI 0 from rfl]
      rw [hp.length_eq, e1]
      rcases Nat.lt_or_ge i L.length with h | h
      · have h6 : L[i]? = some L[i] := List.getElem?_eq_getElem h
        by_cases q2 : L[i].1 ≤ s
        · have hv : mi s (lpl L i) L' = chN L[i] + 1 := by
            rw [← mi_perm hp, mi_nth hso ho h1, h6]
            exact if_pos q2
          rw [hv]
          have ok := ho L[i] (List.getElem_mem h)
          have hlt : chN L[i] < 2 ^ 31 := ch_lt ok hB
          rw [if_neg (show ¬ loI (chN L[i] + 1) = loI 0 from fun z => ne_nI hlt z.symm)]
          have e2 : chN L[i] + 1 = lpl L (i + 1) := by
            unfold lpl
            rw [if_neg (by omega), Nat.add_sub_cancel, h6]
          rw [e2]
          have ih := fd23_ok hB hp hr hl hl2 ho hso h31 hs hx n (i + 1) (by omega) (by omega) (by omega) (fun e he1 he2 => ?_)
          · exact ih
          · have : i = x := by omega
            subst this
            rw [h6] at he2
            cases he2
            exact q2
        · have hv : mi s (lpl L i) L' = 0 := by
            rw [← mi_perm hp, mi_nth hso ho h1, h6]
            exact if_neg q2
          rw [hv, if_pos rfl]
          show loI 0 = _
          rcases Nat.lt_or_ge x L.length with hx2 | hx2
          · have h7 : L[x]? = some L[x] := List.getElem?_eq_getElem hx2
            rw [h7]
            show _ = if _ then _ else _
            rw [if_neg]
            intro z
            rcases Nat.lt_or_eq_of_le (show i ≤ x by omega) with y | y
            · have h8 := so_nth hso h6 h7 y
              have o1 := (ho L[i] (List.getElem_mem h)).2.1
              have o2 := (ho L[x] (List.getElem_mem hx2)).2.1
              unfold chN at h8
              omega
            · subst y
              exact q2 z
          · rw [List.getElem?_eq_none hx2]
      · have hv : mi s (lpl L i) L' = 0 := by
          rw [← mi_perm hp, mi_nth hso ho h1, List.getElem?_eq_none h]
        rw [hv, if_pos rfl]
        rw [List.getElem?_eq_none (by omega)]
theorem Inv.feed (h : Inv nt B R C M) (hB : B ≤ 900000) (h31 : M 31 0 = 0) {x s : Nat} (hs : s < 2 ^ 31) (hx : x < 2 ^ 31) : (s_feed_23 (nI x) 1301 (-1) (nI s) 0 M).1 = chA C (nI x) (nI s) := by
  obtain ⟨L, L', v1, v2, v3, v4, v5, v6, v7, v8, v9⟩ := h.v
  have e := fd23_ok hB v1 v6 v3 v4 v7 v8 h31 hs hx 1301 0 (by omega) (by omega) (by omega) (fun e he => by omega)
  rw [show loI (lpl L 0) = -1 from rfl] at e
  rw [e]
  unfold chA
  rw [v2, nI_clamp hx]
  rcases Nat.lt_or_ge x L.length with hx2 | hx2
  · have h7 : L[x]? = some L[x] := List.getElem?_eq_getElem hx2
    have ok := v7 L[x] (List.getElem_mem hx2)
    have hb := ok.1
    rw [h7, if_neg (nI_ge hx2 (by omega)), (v5 x _ h7).1]
    show (if _ then _ else _) = _
    have e5 : nI (chN L[x]) / 32 = nI L[x].1 := dv_ch (ch_lt ok hB) ok.2.1
    rw [e5]
    by_cases q : L[x].1 ≤ s
    · rw [if_pos q, if_neg (nI_nlt q hs)]
    · rw [if_neg q, if_pos (nI_lt (by omega) (by omega))]
  · rw [List.getElem?_eq_none hx2, if_pos (nI_le hx2 hx)]
end CNT
