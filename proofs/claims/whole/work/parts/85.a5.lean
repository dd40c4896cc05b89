/-! constructor: Twinphase -/
theorem up_app {ns : List Nat} {a i : Nat} (h : ns.length = i) : va_up (fun k => ns[k]?) i (some a) = fun k => (ns ++ [a])[k]? := by
  funext k
  unfold va_up
  by_cases h1 : k = i
  · rw [if_pos h1, h1, List.getElem?_append_right (by omega)]
    simp [h]
  · rw [if_neg h1]
    by_cases h2 : k < i
    · rw [List.getElem?_append_left (by omega)]
    · show ns[k]? = (ns ++ [a])[k]?
      rw [List.getElem?_eq_none (by omega), List.getElem?_eq_none (by rw [List.length_append, List.length_singleton]; omega)]
theorem set_eq {α : Type} {L : List α} {j : Nat} {x : α} (h : L[j]? = some x) : L.set j x = L := by
  apply List.ext_getElem?
  intro k
  by_cases e : j = k
  · subst e
    rw [List.getElem?_set_self (List.getElem?_eq_some_iff.mp h).1, h]
  · rw [List.getElem?_set_ne e]
theorem set_last {α : Type} {L : List α} {j : Nat} {x y : α} (h : L.length = j) : (L ++ [x]).set j y = L ++ [y] := by
  subst h
  simp
abbrev ndC (a : Nat) : Nat × va_E := (a, .inr (2, [.int 0, .int 0, .int 0]))
abbrev ceC (a : Nat) : Nat × va_E := (a, .inr (0, [.int 0, .int 0, .null, .int 0, .int 0, .int (-1)]))
abbrev tO (a1 a2 a3 a4 : Nat) : va_E := .inr (4, [.int 0, .ref a1, .ref a2, .ref a3, .int 0, .ref a4])
abbrev tT (g : GT) (a1 a2 a3 a4 b1 b2 b3 b4 : Nat) (f1 f2 : Nat → Option Nat) : va_W := [(a1, rA g 3 4 f1), (a2, rA g 4 32 f2), (a3, rA g 5 40 (fun _ => none)), (a4, .inr (1, [.ref b1, .ref b2, .int 0, .ref b3, .int 0, .ref b4])), (b1, iA g 0 32 (fun _ => 0)), (b2, iA g 0 32 (fun _ => 0)), (b3, rA g 5 40 (fun _ => none)), (b4, iA g 0 32 (fun _ => 0))]
abbrev po4 (g : GT) : va_E × va_W → Prop := fun u => ∃ (a1 a2 a3 a4 b1 b2 b3 b4 : Nat) (ns : List Nat) (c : Nat) (cs : List Nat), ns.length = 4 ∧ cs.length = 31 ∧ u = (tO a1 a2 a3 a4, tT g a1 a2 a3 a4 b1 b2 b3 b4 (fun k => ns[k]?) (fun k => (c :: cs)[k]?) ++ (ns.map ndC ++ ((c, .inr (0, [.int 0, .int 1, .null, .int 0, .int 0, .int (-1)])) :: cs.map ceC)))
theorem en_init4 {g : GT} {q sz : Nat} {a1 a2 a3 a4 b1 b2 b3 b4 : Nat} (hsz : gN g ≤ sz) (hq : gA g q) (ns : List Nat) (hns : ns.length = 4) (c : Nat) (cs : List Nat) (hcs : cs.length = 31) : VI g K_X4_init true q (po4 g) 44 422 sz (44) (422) ((q, tO a1 a2 a3 a4) :: (tT g a1 a2 a3 a4 b1 b2 b3 b4 (fun k => ns[k]?) (fun k => (c :: cs)[k]?) ++ (ns.map ndC ++ (c :: cs).map ceC))) 94 [(0, .ref q), (1, .int (nI 32))] [] := by
  obtain ⟨n0, n1, n2, n3, rfl⟩ : ∃ n0 n1 n2 n3, ns = [n0, n1, n2, n3] := by
    match ns, hns with
    | [n0, n1, n2, n3], _ => exact ⟨n0, n1, n2, n3, rfl⟩
  refine L_aload_n (dG D_X4_init 47 rfl) rfl ?_
  refine L_get (T := TX4) (kf := 2) (n := 0) (dG D_X4_init 48 rfl) w_102 uin_4 rfl (by decide) rfl rfl ?_
  refine L_iconst (v := nI 0) (dG D_X4_init 49 rfl) (by decide) ?_
  refine L_aald (n := 2) (t0 := 4) (N := 32) (j := 0) (dG D_X4_init 50 rfl) rfl rfl (inr_nI (by decide) (by decide)) ?_
  refine L_iconst (v := 1) (dG D_X4_init 51 rfl) (by decide) ?_
  show VI g K_X4_init true q (po4 g) 44 422 sz (44) (422) ((q, tO a1 a2 a3 a4) :: (tT g a1 a2 a3 a4 b1 b2 b3 b4 (fun k => [n0, n1, n2, n3][k]?) (fun k => (c :: cs)[k]?) ++ ([n0, n1, n2, n3].map ndC ++ (c :: cs).map ceC))) 101 _ [.int 1, .ref c]
  refine L_put (T := TX0) (ty := tyX0 1) (kf := 1) (n := 13) (ty0 := tyX0) (dG D_X4_init 52 rfl) w_80 uin_0 tyX0_ok nmX0 rfl (by decide) rfl (by decide +kernel) rfl rfl (Nat.le_of_ble_eq_true rfl) rfl ?_
  exact L_vret (e0 := tO a1 a2 a3 a4) (tl := tT g a1 a2 a3 a4 b1 b2 b3 b4 (fun k => [n0, n1, n2, n3][k]?) (fun k => (c :: cs)[k]?) ++ ([n0, n1, n2, n3].map ndC ++ ((c, .inr (0, [.int 0, .int 1, .null, .int 0, .int 0, .int (-1)])) :: cs.map ceC))) (dG D_X4_init 53 rfl) rfl (Nat.le_of_ble_eq_true rfl) (Nat.le_of_ble_eq_true rfl) ⟨a1, a2, a3, a4, b1, b2, b3, b4, [n0, n1, n2, n3], c, cs, rfl, hcs, rfl⟩
theorem l2_init4 {g : GT} {q sz : Nat} {a1 a2 a3 a4 b1 b2 b3 b4 : Nat} (hsz : gN g ≤ sz) (hq : gA g q) (ns : List Nat) (hns : ns.length = 4) : ∀ (n i : Nat) (cs : List Nat), i + n = 32 → cs.length = i → VI g K_X4_init true q (po4 g) 44 422 sz (12 + i) (230 + 6 * i) ((q, tO a1 a2 a3 a4) :: (tT g a1 a2 a3 a4 b1 b2 b3 b4 (fun k => ns[k]?) (fun k => cs[k]?) ++ (ns.map ndC ++ cs.map ceC))) 69 [(0, .ref q), (1, .int (nI i))] [] := by
  intro n
  induction n with
  | zero =>
    intro i cs hi hlen
    have hi32 : i = 32 := by omega
    subst hi32
    refine L_iload_n (dG D_X4_init 35 rfl) rfl ?_
    refine L_bipush (v := nI 32) (dG D_X4_init 36 rfl) (by decide) ?_
    refine L_icmp_ge (tgt := 94) (dG D_X4_init 37 rfl) (by decide) (fun _ => ?_) (fun c => absurd (nI_le (Nat.le_refl 32) (by decide)) c)
    match cs, hlen with
    | c :: cs', hl2 => exact en_init4 hsz hq ns hns c cs' (by simpa using hl2)
  | succ n ih =>
    intro i cs hi hlen
    have hin : inr (nI i) 32 i := inr_nI (by omega) (by omega)
    refine L_iload_n (dG D_X4_init 35 rfl) rfl ?_
    refine L_bipush (v := nI 32) (dG D_X4_init 36 rfl) (by decide) ?_
    refine L_icmp_ge (tgt := 94) (dG D_X4_init 37 rfl) (by decide) (fun c => absurd c (nI_ge (by omega) (by decide))) (fun _ => ?_)
    refine L_aload_n (dG D_X4_init 38 rfl) rfl ?_
    refine L_get (T := TX4) (kf := 2) (n := 0) (dG D_X4_init 39 rfl) w_102 uin_4 rfl (by decide) rfl rfl ?_
    refine L_iload_n (dG D_X4_init 40 rfl) rfl ?_
    refine L_new (ci := 0) (T := TX0) (fs := f00) (dG D_X4_init 41 rfl) uin_0 tyX0_ok ⟨w_27, w_74, w_4⟩ rfl (by decide) ⟨show 12 + i + 1 ≤ 44 by omega, show 230 + 6 * i + 6 ≤ 422 by omega⟩ (fun a => ?_)
    refine L_dup (dG D_X4_init 42 rfl) rfl ?_
    refine L_ctorN (Y := K_X0_init) (j := 13 + i) (As := []) (init_0) (fun a ha => by rcases ha with z | z; exact Nat.le_trans hsz z; rw [z]; exact hq) (dG D_X4_init 43 rfl) rfl ?_ (fun z => by cases z) ⟨w_76, w_4, w_77, rfl, rfl, by decide +kernel⟩ rfl (fun _ h => h.2.2.2.2.2) ⟨Nat.le_of_ble_eq_true rfl, Nat.le_of_ble_eq_true rfl⟩ ⟨show 12 + i + 1 + 0 ≤ 44 by omega, show 230 + 6 * i + 6 + 0 ≤ 422 by omega⟩ (Nat.le_of_ble_eq_true rfl) rfl (fun e0 tl0 he0 => ?_)
    · rw [List.getElem?_append_right (by simp only [List.length_cons, List.length_append, List.length_map, List.length_nil, hlen, hns]; omega), show 13 + i - ((q, tO a1 a2 a3 a4) :: (tT g a1 a2 a3 a4 b1 b2 b3 b4 (fun k => ns[k]?) (fun k => cs[k]?) ++ (ns.map ndC ++ cs.map ceC))).length = 0 by simp only [List.length_cons, List.length_append, List.length_map, List.length_nil, hlen, hns]; omega]
      rfl
    cases he0
    rw [set_last (by simp only [List.length_cons, List.length_append, List.length_map, List.length_nil, hlen, hns]; omega), List.append_nil]
    refine L_aast (n := 2) (t0 := 4) (N := 32) (j := i) (qk := 13 + i) (ci := 0) (vs := [.int 0, .int 0, .null, .int 0, .int 0, .int (-1)]) (dG D_X4_init 44 rfl) rfl ?_ rfl rfl hin ?_
    · rw [List.getElem?_append_right (by simp only [List.length_cons, List.length_append, List.length_map, List.length_nil, hlen, hns]; omega), show 13 + i - ((q, tO a1 a2 a3 a4) :: (tT g a1 a2 a3 a4 b1 b2 b3 b4 (fun k => ns[k]?) (fun k => cs[k]?) ++ (ns.map ndC ++ cs.map ceC))).length = 0 by simp only [List.length_cons, List.length_append, List.length_map, List.length_nil, hlen, hns]; omega]
      rfl
    rw [up_app hlen]
    refine L_iinc (v := nI (i + 1)) (dG D_X4_init 45 rfl) rfl (nI_succ i).symm (Nat.le_of_ble_eq_true rfl) ?_
    refine L_goto (tgt := 69) (dG D_X4_init 46 rfl) (by decide) ?_
    refine L_mono (kb' := 12 + (i + 1)) (nb' := 230 + 6 * (i + 1)) (show 12 + i + 1 + 0 ≤ _ by omega) (show 230 + 6 * i + 6 + 0 ≤ _ by omega) ?_
    have q9 := ih (i + 1) (cs ++ [a]) (by omega) (by simp [hlen])
    rw [List.map_append, ← List.append_assoc (List.map ndC ns)] at q9
    exact q9
theorem l1_init4 {g : GT} {q sz : Nat} {a1 a2 a3 a4 b1 b2 b3 b4 : Nat} (hsz : gN g ≤ sz) (hq : gA g q) : ∀ (n i : Nat) (cs : List Nat), i + n = 4 → cs.length = i → VI g K_X4_init true q (po4 g) 44 422 sz (8 + i) (218 + 3 * i) ((q, tO a1 a2 a3 a4) :: (tT g a1 a2 a3 a4 b1 b2 b3 b4 (fun k => cs[k]?) (fun _ => none) ++ (cs.map ndC))) 43 [(0, .ref q), (1, .int (nI i))] [] := by
  intro n
  induction n with
  | zero =>
    intro i cs hi hlen
    have hi4 : i = 4 := by omega
    subst hi4
    refine L_iload_n (dG D_X4_init 21 rfl) rfl ?_
    refine L_iconst (v := nI 4) (dG D_X4_init 22 rfl) (by decide) ?_
    refine L_icmp_ge (tgt := 67) (dG D_X4_init 23 rfl) (by decide) (fun _ => ?_) (fun c => absurd (nI_le (Nat.le_refl 4) (by decide)) c)
    refine L_iconst (v := nI 0) (dG D_X4_init 33 rfl) (by decide) ?_
    refine L_istore_n (dG D_X4_init 34 rfl) (Nat.le_of_ble_eq_true rfl) ?_
    have q9 := l2_init4 (a1 := a1) (a2 := a2) (a3 := a3) (a4 := a4) (b1 := b1) (b2 := b2) (b3 := b3) (b4 := b4) hsz hq cs hlen 32 0 [] rfl rfl
    rw [List.map_nil, List.append_nil] at q9
    exact q9
  | succ n ih =>
    intro i cs hi hlen
    have hin : inr (nI i) 4 i := inr_nI (by omega) (by omega)
    refine L_iload_n (dG D_X4_init 21 rfl) rfl ?_
    refine L_iconst (v := nI 4) (dG D_X4_init 22 rfl) (by decide) ?_
    refine L_icmp_ge (tgt := 67) (dG D_X4_init 23 rfl) (by decide) (fun c => absurd c (nI_ge (by omega) (by decide))) (fun _ => ?_)
    refine L_aload_n (dG D_X4_init 24 rfl) rfl ?_
    refine L_get (T := TX4) (kf := 1) (n := 0) (dG D_X4_init 25 rfl) w_101 uin_4 rfl (by decide) rfl rfl ?_
    refine L_iload_n (dG D_X4_init 26 rfl) rfl ?_
    refine L_new (ci := 2) (T := TX2) (fs := f20) (dG D_X4_init 27 rfl) uin_2 tyX2_ok ⟨w_25, w_58, w_3⟩ rfl (by decide) ⟨show 8 + i + 1 ≤ 44 by omega, show 218 + 3 * i + 3 ≤ 422 by omega⟩ (fun a => ?_)
    refine L_dup (dG D_X4_init 28 rfl) rfl ?_
    refine L_ctorN (Y := K_X2_init) (j := 9 + i) (As := []) (init_2) (fun a ha => by rcases ha with z | z; exact Nat.le_trans hsz z; rw [z]; exact hq) (dG D_X4_init 29 rfl) rfl ?_ (fun z => by cases z) ⟨w_60, w_3, w_61, rfl, rfl, by decide +kernel⟩ rfl (fun _ h => h.2.2.2.2.1) ⟨Nat.le_of_ble_eq_true rfl, Nat.le_of_ble_eq_true rfl⟩ ⟨show 8 + i + 1 + 0 ≤ 44 by omega, show 218 + 3 * i + 3 + 0 ≤ 422 by omega⟩ (Nat.le_of_ble_eq_true rfl) rfl (fun e0 tl0 he0 => ?_)
    · rw [List.getElem?_append_right (by simp only [List.length_cons, List.length_append, List.length_map, List.length_nil, hlen]; omega), show 9 + i - ((q, tO a1 a2 a3 a4) :: (tT g a1 a2 a3 a4 b1 b2 b3 b4 (fun k => cs[k]?) (fun _ => none) ++ (cs.map ndC))).length = 0 by simp only [List.length_cons, List.length_append, List.length_map, List.length_nil, hlen]; omega]
      rfl
    cases he0
    rw [set_last (by simp only [List.length_cons, List.length_append, List.length_map, List.length_nil, hlen]; omega), List.append_nil]
    refine L_aast (n := 1) (t0 := 3) (N := 4) (j := i) (qk := 9 + i) (ci := 2) (vs := [.int 0, .int 0, .int 0]) (dG D_X4_init 30 rfl) rfl ?_ rfl rfl hin ?_
    · rw [List.getElem?_append_right (by simp only [List.length_cons, List.length_append, List.length_map, List.length_nil, hlen]; omega), show 9 + i - ((q, tO a1 a2 a3 a4) :: (tT g a1 a2 a3 a4 b1 b2 b3 b4 (fun k => cs[k]?) (fun _ => none) ++ (cs.map ndC))).length = 0 by simp only [List.length_cons, List.length_append, List.length_map, List.length_nil, hlen]; omega]
      rfl
    rw [up_app hlen]
    refine L_iinc (v := nI (i + 1)) (dG D_X4_init 31 rfl) rfl (nI_succ i).symm (Nat.le_of_ble_eq_true rfl) ?_
    refine L_goto (tgt := 43) (dG D_X4_init 32 rfl) (by decide) ?_
    refine L_mono (kb' := 8 + (i + 1)) (nb' := 218 + 3 * (i + 1)) (show 8 + i + 1 + 0 ≤ _ by omega) (show 218 + 3 * i + 3 + 0 ≤ _ by omega) ?_
    have q9 := ih (i + 1) (cs ++ [a]) (by omega) (by simp [hlen])
    rw [List.map_append] at q9
    exact q9
theorem init_4 {g : GT} {q : Nat} : ICt g K_X4_init true q 4 f40 [] 44 422 (po4 g) := by
  refine ICt_of (by decide +kernel) rfl rfl rfl (Nat.le_of_ble_eq_true rfl) (by simp [cat_ref, cat_int]) (fun sz hsz hq _ => ?_)
  show VL g _ _ _ _ _ 0 0 _ 0 [(0, .ref q)] []
  refine L_aload_n (dG D_X4_init 0 rfl) rfl ?_
  refine L_obj (dG D_X4_init 1 rfl) w_22 ⟨Nat.le_of_ble_eq_true rfl, Nat.le_of_ble_eq_true rfl⟩ ?_
  refine L_aload_n (dG D_X4_init 2 rfl) rfl ?_
  refine L_iconst (v := 4) (dG D_X4_init 3 rfl) (by decide) ?_
  refine L_newq (t := 3) (N := 4) (dG D_X4_init 4 rfl) w_25 rfl (fun _ h => h.2.1) rfl (by decide) (by decide) (by decide) ⟨Nat.le_of_ble_eq_true rfl, Nat.le_of_ble_eq_true rfl⟩ (fun a1 => ?_)
  show VL g _ _ K_X4_init _ _ 1 4 [(q, .inr (4, [.int 0, .null, .null, .null, .int 0, .null])), (a1, rA g 3 4 (fun _ => none))] 9 _ [.ref a1, .ref q]
  refine L_putF (T := TX4) (ty := tyX4 1) (kf := 1) (n := 0) (ty0 := tyX4) (dG D_X4_init 5 rfl) w_101 uin_4 tyX4_ok nmX4 rfl (by decide) rfl rfl rfl (by decide +kernel) rfl rfl (Nat.le_of_ble_eq_true rfl) rfl ?_
  show VL g _ _ K_X4_init _ _ 1 4 [(q, .inr (4, [.int 0, .ref a1, .null, .null, .int 0, .null])), (a1, rA g 3 4 (fun _ => none))] 12 _ []
  refine L_aload_n (dG D_X4_init 6 rfl) rfl ?_
  refine L_bipush (v := 32) (dG D_X4_init 7 rfl) (by decide) ?_
  refine L_newq (t := 4) (N := 32) (dG D_X4_init 8 rfl) w_27 rfl (fun _ h => h.1) rfl (by decide) (by decide) (by decide) ⟨Nat.le_of_ble_eq_true rfl, Nat.le_of_ble_eq_true rfl⟩ (fun a2 => ?_)
  show VL g _ _ K_X4_init _ _ 2 36 [(q, .inr (4, [.int 0, .ref a1, .null, .null, .int 0, .null])), (a1, rA g 3 4 (fun _ => none)), (a2, rA g 4 32 (fun _ => none))] 18 _ [.ref a2, .ref q]
  refine L_putF (T := TX4) (ty := tyX4 2) (kf := 2) (n := 0) (ty0 := tyX4) (dG D_X4_init 9 rfl) w_102 uin_4 tyX4_ok nmX4 rfl (by decide) rfl rfl rfl (by decide +kernel) rfl rfl (Nat.le_of_ble_eq_true rfl) rfl ?_
  show VL g _ _ K_X4_init _ _ 2 36 [(q, .inr (4, [.int 0, .ref a1, .ref a2, .null, .int 0, .null])), (a1, rA g 3 4 (fun _ => none)), (a2, rA g 4 32 (fun _ => none))] 21 _ []
  refine L_aload_n (dG D_X4_init 10 rfl) rfl ?_
  refine L_bipush (v := 40) (dG D_X4_init 11 rfl) (by decide) ?_
  refine L_newq (t := 5) (N := 40) (dG D_X4_init 12 rfl) w_29 rfl (fun _ h => h.2.2.1) rfl (by decide) (by decide) (by decide) ⟨Nat.le_of_ble_eq_true rfl, Nat.le_of_ble_eq_true rfl⟩ (fun a3 => ?_)
  show VL g _ _ K_X4_init _ _ 3 76 [(q, .inr (4, [.int 0, .ref a1, .ref a2, .null, .int 0, .null])), (a1, rA g 3 4 (fun _ => none)), (a2, rA g 4 32 (fun _ => none)), (a3, rA g 5 40 (fun _ => none))] 27 _ [.ref a3, .ref q]
  refine L_putF (T := TX4) (ty := tyX4 3) (kf := 3) (n := 0) (ty0 := tyX4) (dG D_X4_init 13 rfl) w_103 uin_4 tyX4_ok nmX4 rfl (by decide) rfl rfl rfl (by decide +kernel) rfl rfl (Nat.le_of_ble_eq_true rfl) rfl ?_
  show VL g _ _ K_X4_init _ _ 3 76 [(q, .inr (4, [.int 0, .ref a1, .ref a2, .ref a3, .int 0, .null])), (a1, rA g 3 4 (fun _ => none)), (a2, rA g 4 32 (fun _ => none)), (a3, rA g 5 40 (fun _ => none))] 30 _ []
  refine L_aload_n (dG D_X4_init 14 rfl) rfl ?_
  refine L_new (ci := 1) (T := TX1) (fs := f10) (dG D_X4_init 15 rfl) uin_1 tyX1_ok ⟨w_31, w_32, w_2⟩ rfl (by decide) ⟨Nat.le_of_ble_eq_true rfl, Nat.le_of_ble_eq_true rfl⟩ (fun a4 => ?_)
  refine L_dup (dG D_X4_init 16 rfl) rfl ?_
  refine L_ctorN (Y := K_X1_init) (j := 4) (As := []) (init_1) (fun a ha => by rcases ha with z | z; exact Nat.le_trans hsz z; rw [z]; exact hq) (dG D_X4_init 17 rfl) rfl rfl (fun _ => rfl) ⟨w_34, w_2, w_35, rfl, rfl, by decide +kernel⟩ rfl (fun _ h => h.2.2.2.1) ⟨Nat.le_of_ble_eq_true rfl, Nat.le_of_ble_eq_true rfl⟩ ⟨Nat.le_of_ble_eq_true rfl, Nat.le_of_ble_eq_true rfl⟩ (Nat.le_of_ble_eq_true rfl) rfl (fun e0 tl0 he0 => ?_)
  obtain ⟨b1, b2, b3, b4, he1⟩ := he0
  cases he1
  refine L_putF (T := TX4) (ty := tyX4 5) (kf := 5) (n := 0) (ty0 := tyX4) (dG D_X4_init 18 rfl) w_105 uin_4 tyX4_ok nmX4 rfl (by decide) rfl rfl rfl (by decide +kernel) rfl rfl (Nat.le_of_ble_eq_true rfl) rfl ?_
  refine L_iconst (v := nI 0) (dG D_X4_init 19 rfl) (by decide) ?_
  refine L_istore_n (dG D_X4_init 20 rfl) (Nat.le_of_ble_eq_true rfl) ?_
  exact l1_init4 (a1 := a1) (a2 := a2) (a3 := a3) (a4 := a4) (b1 := b1) (b2 := b2) (b3 := b3) (b4 := b4) hsz hq 4 0 [] rfl rfl
