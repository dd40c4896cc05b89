/-! versions, read: the class's sorted changes and the reference's list -/
theorem up_comm {S : St} {v i w j : Nat} {x y : Int32} (h : v ≠ w) : up (up S v i x) w j y = up (up S w j y) v i x := by
  funext a b
  unfold up
  by_cases e1 : a = w ∧ b = j
  · rw [if_pos e1, if_neg (fun q => h (q.1.symm.trans e1.1))]
    rw [if_pos e1]
  · rw [if_neg e1]
    by_cases e2 : a = v ∧ b = i
    · rw [if_pos e2, if_pos e2]
    · rw [if_neg e2, if_neg e2, if_neg e1]
def lat (key s : Nat) : List (Nat × Nat × Int32) → Nat
  | [] => 0
  | e :: L => if e.2.1 = key ∧ e.1 ≤ s then max (e.1 + 1) (lat key s L) else lat key s L
theorem lat_c {key s : Nat} {e : Nat × Nat × Int32} {L : List (Nat × Nat × Int32)} : lat key s (e :: L) = if e.2.1 = key ∧ e.1 ≤ s then max (e.1 + 1) (lat key s L) else lat key s L := rfl
theorem lat_perm {key s : Nat} {L L' : List (Nat × Nat × Int32)} (h : L.Perm L') : lat key s L = lat key s L' := by
  induction h with
  | nil => rfl
  | cons e _ ih => rw [lat_c, lat_c, ih]
  | swap a b L =>
    rw [lat_c, lat_c, lat_c, lat_c]
    split <;> split <;> omega
  | trans _ _ h1 h2 => exact h1.trans h2
theorem lat_app {key s : Nat} {L L' : List (Nat × Nat × Int32)} : lat key s (L ++ L') = max (lat key s L) (lat key s L') := by
  induction L with
  | nil => show lat key s L' = max 0 _; omega
  | cons e L ih =>
    show lat key s (e :: (L ++ L')) = max (lat key s (e :: L)) (lat key s L')
    rw [lat_c, lat_c, ih]
    split <;> omega
theorem lat_le {key s b : Nat} {L : List (Nat × Nat × Int32)} (h : ∀ e ∈ L, e.2.1 = key → e.1 ≤ b) : lat key s L ≤ b + 1 := by
  induction L with
  | nil => exact Nat.zero_le _
  | cons e L ih =>
    have h1 := ih (fun e' he' => h e' (List.mem_cons_of_mem _ he'))
    unfold lat
    split
    · rename_i q
      have := h e List.mem_cons_self q.1
      omega
    · exact h1
theorem lat_s {key s : Nat} {L : List (Nat × Nat × Int32)} : lat key s L ≤ s + 1 := by
  induction L with
  | nil => exact Nat.zero_le _
  | cons e L ih =>
    unfold lat
    split <;> omega
theorem lat_mem {key s : Nat} {L : List (Nat × Nat × Int32)} (h : lat key s L ≠ 0) : ∃ e ∈ L, e.2.1 = key ∧ e.1 ≤ s ∧ lat key s L = e.1 + 1 := by
  induction L with
  | nil => exact absurd rfl h
  | cons e L ih =>
    unfold lat at h ⊢
    by_cases q : e.2.1 = key ∧ e.1 ≤ s
    · rw [if_pos q] at h ⊢
      by_cases q2 : lat key s L ≤ e.1 + 1
      · exact ⟨e, List.mem_cons_self, q.1, q.2, by omega⟩
      · obtain ⟨e', h1, h2, h3, h4⟩ := ih (by omega)
        exact ⟨e', List.mem_cons_of_mem _ h1, h2, h3, by omega⟩
    · rw [if_neg q] at h ⊢
      obtain ⟨e', h1, h2, h3, h4⟩ := ih h
      exact ⟨e', List.mem_cons_of_mem _ h1, h2, h3, h4⟩
theorem lat_zero {key s : Nat} {L : List (Nat × Nat × Int32)} (h : lat key s L = 0) : ∀ e ∈ L, e.2.1 = key → ¬ e.1 ≤ s := by
  induction L with
  | nil => intro e he; cases he
  | cons a L ih =>
    unfold lat at h
    intro e he ek es
    by_cases q : a.2.1 = key ∧ a.1 ≤ s
    · rw [if_pos q] at h
      omega
    · rw [if_neg q] at h
      rcases List.mem_cons.mp he with rfl | he
      · exact q ⟨ek, es⟩
      · exact ih h e he ek es
theorem so_inj {L : List (Nat × Nat × Int32)} (h : L.Pairwise (fun a b => chN a < chN b)) {a b : Nat × Nat × Int32} (ha : a ∈ L) (hb : b ∈ L) (e : chN a = chN b) : a = b := by
  induction L with
  | nil => cases ha
  | cons c L ih =>
    have h2 := List.pairwise_cons.mp h
    rcases List.mem_cons.mp ha with ha1 | ha1
    · rcases List.mem_cons.mp hb with hb1 | hb1
      · rw [ha1, hb1]
      · have := h2.1 b hb1
        rw [← ha1] at this
        omega
    · rcases List.mem_cons.mp hb with hb1 | hb1
      · have := h2.1 a ha1
        rw [← hb1] at this
        omega
      · exact ih h2.2 ha1 hb1
theorem so_nth {L : List (Nat × Nat × Int32)} (h : L.Pairwise (fun a b => chN a < chN b)) {i j : Nat} {a b : Nat × Nat × Int32} (ha : L[i]? = some a) (hb : L[j]? = some b) (hij : i < j) : chN a < chN b := by
  obtain ⟨h1, rfl⟩ := List.getElem?_eq_some_iff.mp ha
  obtain ⟨h2, rfl⟩ := List.getElem?_eq_some_iff.mp hb
  exact List.pairwise_iff_getElem.mp h i j h1 h2 hij
theorem rm_ch {a k : Nat} (ha : 32 * a + k < 2 ^ 31) (hk : k < 32) : rm32 (nI (32 * a + k)) = nI k := by
  have := pk_rem (a := 32 * a + k) (d := 32) ha (by decide) (by decide)
  rw [show (32 * a + k) % 32 = k by omega] at this
  exact this
theorem dv_ch {a k : Nat} (ha : 32 * a + k < 2 ^ 31) (hk : k < 32) : nI (32 * a + k) / 32 = nI a := by
  have := pk_div (a := 32 * a + k) (d := 32) ha (by decide) (by decide)
  rw [show (32 * a + k) / 32 = a by omega] at this
  exact this
theorem ch_lt {B : Nat} {e : Nat × Nat × Int32} (h : okE B e) (hB : B ≤ 900000) : 32 * e.1 + e.2.1 < 2 ^ 31 := by
  obtain ⟨h1, h2, -⟩ := h
  omega
section VER
variable {B : Nat} {L L' : List (Nat × Nat × Int32)} {C M : St}
theorem take_s {p : Nat} {e : Nat × Nat × Int32} (h : L[p]? = some e) : L.take (p + 1) = L.take p ++ [e] := by
  rw [List.take_succ, h]
  rfl
theorem pl_ok (hB : B ≤ 900000) (hr : RepC L (C 28) (C 29)) (ho : ∀ e ∈ L, okE B e) (hs : L.Pairwise (fun a b => chN a < chN b)) {key s : Nat} (hk : key < 32) (hs2 : s < 2 ^ 31) : ∀ p, p ≤ L.length → (lat key s (L.take p) = 0 ∧ plS C (nI key) (nI s) p = -1) ∨ ∃ j e, j < p ∧ L[j]? = some e ∧ plS C (nI key) (nI s) p = nI j ∧ e.2.1 = key ∧ e.1 ≤ s ∧ lat key s (L.take p) = e.1 + 1
  | 0, _ => Or.inl ⟨by rw [List.take_zero]; rfl, rfl⟩
  | p + 1, hp => by
    have ih := pl_ok hB hr ho hs hk hs2 p (by omega)
    have he : L[p]? = some L[p] := List.getElem?_eq_getElem (by omega)
    generalize L[p] = e at he
    have hm : e ∈ L := List.mem_of_getElem? he
    have ok := ho e hm
    have hc := (hr p e he).1
    have hl := ch_lt ok hB
    have eL : lat key s (L.take (p + 1)) = max (lat key s (L.take p)) (if e.2.1 = key ∧ e.1 ≤ s then e.1 + 1 else 0) := by
      rw [take_s he, lat_app]
      rw [lat_c]
      split
      · show max _ (max (e.1 + 1) 0) = _
        omega
      · rfl
    unfold plS
    rw [hc]
    unfold chN
    rw [rm_ch hl ok.2.1, dv_ch hl ok.2.1]
    by_cases q1 : e.2.1 = key
    · rw [if_pos (by rw [q1])]
      by_cases q2 : e.1 ≤ s
      · rw [if_neg (nI_nlt q2 hs2)]
        right
        refine ⟨p, e, by omega, he, rfl, q1, q2, ?_⟩
        rw [eL, if_pos ⟨q1, q2⟩]
        have : lat key s (L.take p) ≤ e.1 + 1 := by
          refine lat_le (fun a ha hak => ?_)
          obtain ⟨j, hj⟩ := List.mem_iff_getElem?.mp ha
          have hj2 : j < p := by
            have := (List.getElem?_eq_some_iff.mp hj).1
            rw [List.length_take] at this
            omega
          rw [List.getElem?_take_of_lt hj2] at hj
          have h5 := so_nth hs hj he hj2
          unfold chN at h5
          omega
        omega
      · rw [if_pos (nI_lt (by omega) (by have := ok.1; omega))]
        rw [eL, if_neg (fun z => q2 z.2), Nat.max_zero]
        rcases ih with ⟨h1, h2⟩ | ⟨j, a, h1, h2⟩
        · exact Or.inl ⟨h1, h2⟩
        · exact Or.inr ⟨j, a, by omega, h2⟩
    · rw [if_neg (fun z => q1 ((nI_eq (by have := ok.2.1; omega) (by omega)).mp z))]
      rw [eL, if_neg (fun z => q1 z.1), Nat.max_zero]
      rcases ih with ⟨h1, h2⟩ | ⟨j, a, h1, h2⟩
      · exact Or.inl ⟨h1, h2⟩
      · exact Or.inr ⟨j, a, by omega, h2⟩
theorem st_ok (hB : B ≤ 900000) (hr : RepC L (C 28) (C 29)) (hl : C 26 0 = nI L.length) (hl2 : L.length ≤ 1280) (ho : ∀ e ∈ L, okE B e) (hs : L.Pairwise (fun a b => chN a < chN b)) {key s : Nat} (hk : key < 32) (hs2 : s < 2 ^ 31) : stX C (nI key) (nI s) = nI (lat key s L - 1) := by
  have ec : cn C = L.length := by unfold cn; rw [hl, nI_clamp (by omega)]
  unfold stX stU
  rw [ec]
  have h := pl_ok hB hr ho hs hk hs2 L.length (Nat.le_refl _)
  rw [List.take_length] at h
  rcases h with ⟨h1, h2⟩ | ⟨j, e, h1, h2, h3, h4, h5, h6⟩
  · rw [h2, h1, if_neg (by decide)]
    rfl
  · rw [h3, if_pos (nI_pos' (by omega)), nI_clamp (by omega), (hr j e h2).1]
    have ok := ho e (List.mem_of_getElem? h2)
    unfold chN
    rw [dv_ch (ch_lt ok hB) ok.2.1, h6]
    rfl
theorem va_ok (hB : B ≤ 900000) (hr : RepC L (C 28) (C 29)) (hl : C 26 0 = nI L.length) (hl2 : L.length ≤ 1280) (ho : ∀ e ∈ L, okE B e) (hs : L.Pairwise (fun a b => chN a < chN b)) {key s : Nat} (hk : key < 32) (hs2 : s < 2 ^ 31) : (lat key s L = 0 ∧ vaX C (nI key) (nI s) = 1000) ∨ ∃ e, e ∈ L ∧ e.2.1 = key ∧ e.1 ≤ s ∧ lat key s L = e.1 + 1 ∧ vaX C (nI key) (nI s) = e.2.2 := by
  have ec : cn C = L.length := by unfold cn; rw [hl, nI_clamp (by omega)]
  unfold vaX vaU
  rw [ec]
  have h := pl_ok hB hr ho hs hk hs2 L.length (Nat.le_refl _)
  rw [List.take_length] at h
  rcases h with ⟨h1, h2⟩ | ⟨j, e, h1, h2, h3, h4, h5, h6⟩
  · left
    rw [h2, if_neg (by decide)]
    exact ⟨h1, rfl⟩
  · right
    rw [h3, if_pos (nI_pos' (by omega)), nI_clamp (by omega), (hr j e h2).2]
    exact ⟨e, List.mem_of_getElem? h2, h4, h5, h6, rfl⟩
def loI (a : Nat) : Int32 := if a = 0 then -1 else nI (a - 1)
theorem lo_gr {a m : Nat} (ha : a < 2 ^ 31) (hm : m < 2 ^ 31) : s_greater (loI a) (nI m) = loI (max a (m + 1)) := by
  unfold s_greater loI
  rw [if_neg (show ¬ max a (m + 1) = 0 by omega)]
  by_cases h : a = 0
  · subst h
    rw [if_pos rfl, if_pos]
    · congr 1
    · exact Int32.le_of_lt (Int32.lt_of_lt_of_le (show (-1 : Int32) < 0 by decide) (nI_pos' hm))
  · rw [if_neg h]
    by_cases q : a - 1 ≤ m
    · rw [if_pos (nI_le q hm)]
      congr 1; omega
    · rw [if_neg (nI_ge (by omega) (by omega))]
      congr 1; omega
theorem drop_c {i : Nat} (h : i < L'.length) : ∃ e, L'[i]? = some e ∧ L'.drop i = e :: L'.drop (i + 1) := ⟨L'[i], List.getElem?_eq_getElem h, List.drop_eq_getElem_cons h⟩
theorem la_ok5 (hB : B ≤ 900000) (hr : RepM L' (M 13) (M 14) (M 15)) (ho : ∀ e ∈ L', okE B e) {key s : Nat} (hk : key < 32) (hs2 : s < 2 ^ 31) : ∀ (n i a : Nat), i + n = L'.length → a ≤ 1000000 → s_latest_5 (nI key) (nI s) n (loI a) i M = loI (max a (lat key s (L'.drop i)))
  | 0, i, a, h, _ => by
    rw [List.drop_of_length_le (by omega)]
    show loI a = loI (max a 0)
    rw [Nat.max_zero]
  | n + 1, i, a, h, ha => by
    obtain ⟨e, h1, h2⟩ := drop_c (L' := L') (i := i) (by omega)
    have ok := ho e (List.mem_of_getElem? h1)
    obtain ⟨r1, r2, r3⟩ := hr i e h1
    have hb := ok.1
    have hkk := ok.2.1
    rw [h2]
    unfold s_latest_5 lat
    rw [r1, r2]
    by_cases q1 : e.2.1 = key
    · rw [if_pos (by rw [q1])]
      by_cases q2 : e.1 ≤ s
      · rw [if_neg (nI_nlt q2 hs2), if_pos ⟨q1, q2⟩, lo_gr (by omega) (by omega), la_ok5 hB hr ho hk hs2 n (i + 1) _ (by omega) (by omega)]
        congr 1; omega
      · rw [if_pos (nI_lt (by omega) (by omega)), if_neg (fun z => q2 z.2)]
        exact la_ok5 hB hr ho hk hs2 n (i + 1) _ (by omega) ha
    · rw [if_neg (fun z => q1 ((nI_eq (by omega) (by omega)).mp z)), if_neg (fun z => q1 z.1)]
      exact la_ok5 hB hr ho hk hs2 n (i + 1) _ (by omega) ha
theorem la_ok (hB : B ≤ 900000) (hr : RepM L' (M 13) (M 14) (M 15)) (hl : M 12 0 = nI L'.length) (hl2 : L'.length ≤ 1280) (ho : ∀ e ∈ L', okE B e) {key s : Nat} (hk : key < 32) (hs2 : s < 2 ^ 31) : s_latest (nI key) (nI s) M = loI (lat key s L') := by
  unfold s_latest
  rw [hl, nI_clamp (by omega)]
  have := la_ok5 hB hr ho hk hs2 L'.length 0 0 (by omega) (by omega)
  rw [List.drop_zero, Nat.zero_max] at this
  exact this
theorem vat_15 {key : Nat} {x b w : Int32} (hr : RepM L' (M 13) (M 14) (M 15)) : ∀ (n i : Nat) (v : Int32), i + n = L'.length → (∀ e ∈ L'.drop i, nI e.2.1 = nI key → nI e.1 = b → e.2.2 = w) → (v = w ∨ ∃ e ∈ L'.drop i, nI e.2.1 = nI key ∧ nI e.1 = b) → s_valueAt_15 (nI key) x n b v i M = w
  | 0, i, v, h, h1, h2 => by
    rw [List.drop_of_length_le (by omega)] at h2
    rcases h2 with h2 | ⟨e, he, -⟩
    · exact h2
    · cases he
  | n + 1, i, v, h, h1, h2 => by
    obtain ⟨e, h3, h4⟩ := drop_c (L' := L') (i := i) (by omega)
    obtain ⟨r1, r2, r3⟩ := hr i e h3
    rw [h4] at h1 h2
    unfold s_valueAt_15
    rw [r1, r2, r3]
    have h1' : ∀ a ∈ L'.drop (i + 1), nI a.2.1 = nI key → nI a.1 = b → a.2.2 = w := fun a ha => h1 a (List.mem_cons_of_mem _ ha)
    by_cases q1 : nI e.2.1 = nI key
    · rw [if_pos q1]
      by_cases q2 : nI e.1 = b
      · rw [if_pos q2]
        exact vat_15 hr n (i + 1) _ (by omega) h1' (Or.inl (h1 e List.mem_cons_self q1 q2))
      · rw [if_neg q2]
        refine vat_15 hr n (i + 1) _ (by omega) h1' ?_
        rcases h2 with h2 | ⟨a, ha, h2⟩
        · exact Or.inl h2
        · rcases List.mem_cons.mp ha with rfl | ha
          · exact absurd h2.2 q2
          · exact Or.inr ⟨a, ha, h2⟩
    · rw [if_neg q1]
      refine vat_15 hr n (i + 1) _ (by omega) h1' ?_
      rcases h2 with h2 | ⟨a, ha, h2⟩
      · exact Or.inl h2
      · rcases List.mem_cons.mp ha with rfl | ha
        · exact absurd h2.1 q1
        · exact Or.inr ⟨a, ha, h2⟩
end VER
section INVV
variable {nt B R : Nat} {C M : St}
/-- the latest version's stamp and value at a key, both sides -/
theorem Inv.st (h : Inv nt B R C M) (hB : B ≤ 900000) {key s : Nat} (hk : key < 32) (hs : s < 2 ^ 31) : ∃ a : Nat, stX C (nI key) (nI s) = nI (a - 1) ∧ s_latest (nI key) (nI s) M = loI a ∧ a ≤ s + 1 ∧ a ≤ B + 1 := by
  obtain ⟨L, L', v1, v2, v3, v4, v5, v6, v7, v8, v9⟩ := h.v
  refine ⟨lat key s L, st_ok hB v5 v2 v4 v7 v8 hk hs, ?_, lat_s, lat_le (fun e he _ => (v7 e he).1)⟩
  rw [lat_perm v1]
  exact la_ok hB v6 (by rw [v1.length_eq] at v3; exact v3) (by rw [← v1.length_eq]; exact v4) (fun e he => v7 e (v1.mem_iff.mpr he)) hk hs
theorem Inv.va (h : Inv nt B R C M) (hB : B ≤ 900000) {key s : Nat} (hk : key < 32) (hs : s < 2 ^ 31) : vaX C (nI key) (nI s) = s_valueAt (nI key) (nI s) M ∧ bd 1000 (vaX C (nI key) (nI s)) := by
  obtain ⟨L, L', v1, v2, v3, v4, v5, v6, v7, v8, v9⟩ := h.v
  have hl : M 12 0 = nI L'.length := by rw [v1.length_eq] at v3; exact v3
  have hl2 : L'.length ≤ 1280 := by rw [← v1.length_eq]; exact v4
  have ho : ∀ e ∈ L', okE B e := fun e he => v7 e (v1.mem_iff.mpr he)
  have ela := la_ok hB v6 hl hl2 ho hk hs
  have key2 : s_valueAt (nI key) (nI s) M = s_valueAt_15 (nI key) (nI s) L'.length (loI (lat key s L')) 1000 0 M := by
    unfold s_valueAt
    rw [hl, nI_clamp (by omega), ela]
  rw [key2]
  rcases va_ok hB v5 v2 v4 v7 v8 hk hs with ⟨h1, h2⟩ | ⟨e, h1, h2, h3, h4, h5⟩
  · rw [h2]
    refine ⟨(vat_15 v6 L'.length 0 1000 (by omega) ?_ (Or.inl rfl)).symm, ⟨1000, by omega, rfl⟩⟩
    intro a ha q1 q2
    rw [← lat_perm v1, h1] at q2
    exact absurd q2.symm (ne_nI (by have := (ho a (List.mem_of_mem_drop ha)).1; omega))
  · rw [h5]
    refine ⟨(vat_15 v6 L'.length 0 1000 (by omega) ?_ (Or.inr ⟨e, by rw [List.drop_zero]; exact v1.mem_iff.mp h1, by rw [h2], ?_⟩)).symm, (v7 e h1).2.2⟩
    · intro a ha q1 q2
      rw [List.drop_zero] at ha
      have oa := ho a ha
      have oe := v7 e h1
      rw [← lat_perm v1, h4] at q2
      have e1 : a.2.1 = key := (nI_eq (by have := oa.2.1; omega) (by omega)).mp q1
      have e2 : a.1 = e.1 := (nI_eq (by have := oa.1; omega) (by have := oe.1; omega)).mp q2
      have : a = e := so_inj v8 (v1.mem_iff.mpr ha) h1 (by unfold chN; rw [e1, e2, h2])
      rw [this]
    · rw [← lat_perm v1, h4]
      rfl
end INVV
