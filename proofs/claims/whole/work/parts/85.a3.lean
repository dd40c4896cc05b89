/-! constructors: Cell, History, Node, Transaction, TwinphaseModel -/
abbrev f00 : List Value := [.int 0, .int 0, .null, .int 0, .int 0, .int 0]
abbrev f10 : List Value := [.null, .null, .int 0, .null, .int 0, .null]
abbrev f20 : List Value := [.int 0, .int 0, .int 0]
abbrev f30 : List Value := [.int 0, .int 0, .int 0, .int 0, .int 0, .int 0, .int 0, .int 0, .null, .int 0, .int 0, .int 0, .null, .null, .null]
abbrev f40 : List Value := [.int 0, .null, .null, .null, .int 0, .null]
abbrev f50 : List Value := [.int 0, .null, .null, .null, .int 0, .null, .null, .null, .null, .null, .null, .null, .int 0, .null, .null, .null, .int 0, .null, .null, .null, .null, .null, .null, .null, .null, .null, .int 0, .null, .null, .null, .null, .int 0]
theorem init_2 {g : GT} {q : Nat} : ICt g K_X2_init false q 2 f20 [] 0 0 (fun u => u = (.inr (2, [.int 0, .int 0, .int 0]), [])) := by
  refine ICt_of (by decide +kernel) rfl rfl rfl (Nat.le_of_ble_eq_true rfl) (by simp [cat_ref, cat_int]) (fun sz _ _ _ => ?_)
  show VL g _ _ _ _ _ 0 0 _ 0 [(0, .ref q)] []
  refine L_aload_n (dG D_X2_init 0 rfl) rfl ?_
  refine L_obj (dG D_X2_init 1 rfl) w_62 ⟨Nat.le_of_ble_eq_true rfl, Nat.le_of_ble_eq_true rfl⟩ ?_
  exact L_vret (e0 := .inr (2, [.int 0, .int 0, .int 0])) (tl := []) (dG D_X2_init 2 rfl) rfl (Nat.le_of_ble_eq_true rfl) (Nat.le_of_ble_eq_true rfl) rfl
theorem init_0 {g : GT} {q : Nat} : ICt g K_X0_init false q 0 f00 [] 0 0 (fun u => u = (.inr (0, [.int 0, .int 0, .null, .int 0, .int 0, .int (-1)]), [])) := by
  refine ICt_of (by decide +kernel) rfl rfl rfl (Nat.le_of_ble_eq_true rfl) (by simp [cat_ref, cat_int]) (fun sz _ _ _ => ?_)
  show VL g _ _ _ _ _ 0 0 _ 0 [(0, .ref q)] []
  refine L_aload_n (dG D_X0_init 0 rfl) rfl ?_
  refine L_obj (dG D_X0_init 1 rfl) w_78 ⟨Nat.le_of_ble_eq_true rfl, Nat.le_of_ble_eq_true rfl⟩ ?_
  refine L_aload_n (dG D_X0_init 2 rfl) rfl ?_
  refine L_iconst (v := -1) (dG D_X0_init 3 rfl) (by decide) ?_
  refine L_put (T := TX0) (ty := tyX0 5) (kf := 5) (n := 0) (ty0 := tyX0) (dG D_X0_init 4 rfl) w_85 uin_0 tyX0_ok nmX0 rfl (by decide) rfl (by decide +kernel) rfl rfl (Nat.le_of_ble_eq_true rfl) rfl ?_
  show VL g _ _ K_X0_init _ _ 0 0 [(q, .inr (0, [.int 0, .int 0, .null, .int 0, .int 0, .int (-1)]))] 9 _ []
  exact L_vret (e0 := .inr (0, [.int 0, .int 0, .null, .int 0, .int 0, .int (-1)])) (tl := []) (dG D_X0_init 5 rfl) rfl (Nat.le_of_ble_eq_true rfl) (Nat.le_of_ble_eq_true rfl) rfl
theorem init_1 {g : GT} {q : Nat} : ICt g K_X1_init true q 1 f10 [] 4 136 (fun u => ∃ a1, ∃ a2, ∃ a3, ∃ a4, u = (.inr (1, [.ref a1, .ref a2, .int 0, .ref a3, .int 0, .ref a4]), [(a1, iA g 0 32 (fun _ => 0)), (a2, iA g 0 32 (fun _ => 0)), (a3, rA g 5 40 (fun _ => none)), (a4, iA g 0 32 (fun _ => 0))])) := by
  refine ICt_of (by decide +kernel) rfl rfl rfl (Nat.le_of_ble_eq_true rfl) (by simp [cat_ref, cat_int]) (fun sz _ _ _ => ?_)
  show VL g _ _ _ _ _ 0 0 _ 0 [(0, .ref q)] []
  refine L_aload_n (dG D_X1_init 0 rfl) rfl ?_
  refine L_obj (dG D_X1_init 1 rfl) w_36 ⟨Nat.le_of_ble_eq_true rfl, Nat.le_of_ble_eq_true rfl⟩ ?_
  refine L_aload_n (dG D_X1_init 2 rfl) rfl ?_
  refine L_bipush (v := 32) (dG D_X1_init 3 rfl) (by decide) ?_
  refine L_newa (t := 0) (N := 32) (a0 := (32, .inl (fun _ => 0))) (dG D_X1_init 4 rfl) w_57 rfl rfl (fun _ => rfl) (by decide) (by decide) (by decide) ⟨Nat.le_of_ble_eq_true rfl, Nat.le_of_ble_eq_true rfl⟩ (fun a1 => ?_)
  show VL g _ _ K_X1_init _ _ 1 32 [(q, .inr (1, [.null, .null, .int 0, .null, .int 0, .null])), (a1, iA g 0 32 (fun _ => 0))] 9 _ [.ref a1, .ref q]
  refine L_put (T := TX1) (ty := tyX1 0) (kf := 0) (n := 0) (ty0 := tyX1) (dG D_X1_init 5 rfl) w_38 uin_1 tyX1_ok nmX1 rfl (by decide) rfl (by decide +kernel) rfl rfl (Nat.le_of_ble_eq_true rfl) rfl ?_
  show VL g _ _ K_X1_init _ _ 1 32 [(q, .inr (1, [.ref a1, .null, .int 0, .null, .int 0, .null])), (a1, iA g 0 32 (fun _ => 0))] 12 _ []
  refine L_aload_n (dG D_X1_init 6 rfl) rfl ?_
  refine L_bipush (v := 32) (dG D_X1_init 7 rfl) (by decide) ?_
  refine L_newa (t := 0) (N := 32) (a0 := (32, .inl (fun _ => 0))) (dG D_X1_init 8 rfl) w_57 rfl rfl (fun _ => rfl) (by decide) (by decide) (by decide) ⟨Nat.le_of_ble_eq_true rfl, Nat.le_of_ble_eq_true rfl⟩ (fun a2 => ?_)
  show VL g _ _ K_X1_init _ _ 2 64 [(q, .inr (1, [.ref a1, .null, .int 0, .null, .int 0, .null])), (a1, iA g 0 32 (fun _ => 0)), (a2, iA g 0 32 (fun _ => 0))] 17 _ [.ref a2, .ref q]
  refine L_put (T := TX1) (ty := tyX1 1) (kf := 1) (n := 0) (ty0 := tyX1) (dG D_X1_init 9 rfl) w_39 uin_1 tyX1_ok nmX1 rfl (by decide) rfl (by decide +kernel) rfl rfl (Nat.le_of_ble_eq_true rfl) rfl ?_
  show VL g _ _ K_X1_init _ _ 2 64 [(q, .inr (1, [.ref a1, .ref a2, .int 0, .null, .int 0, .null])), (a1, iA g 0 32 (fun _ => 0)), (a2, iA g 0 32 (fun _ => 0))] 20 _ []
  refine L_aload_n (dG D_X1_init 10 rfl) rfl ?_
  refine L_bipush (v := 40) (dG D_X1_init 11 rfl) (by decide) ?_
  refine L_newq (t := 5) (N := 40) (dG D_X1_init 12 rfl) w_37 rfl (fun _ h => h.2.2.1) rfl (by decide) (by decide) (by decide) ⟨Nat.le_of_ble_eq_true rfl, Nat.le_of_ble_eq_true rfl⟩ (fun a3 => ?_)
  show VL g _ _ K_X1_init _ _ 3 104 [(q, .inr (1, [.ref a1, .ref a2, .int 0, .null, .int 0, .null])), (a1, iA g 0 32 (fun _ => 0)), (a2, iA g 0 32 (fun _ => 0)), (a3, rA g 5 40 (fun _ => none))] 26 _ [.ref a3, .ref q]
  refine L_putF (T := TX1) (ty := tyX1 3) (kf := 3) (n := 0) (ty0 := tyX1) (dG D_X1_init 13 rfl) w_41 uin_1 tyX1_ok nmX1 rfl (by decide) rfl rfl rfl (by decide +kernel) rfl rfl (Nat.le_of_ble_eq_true rfl) rfl ?_
  show VL g _ _ K_X1_init _ _ 3 104 [(q, .inr (1, [.ref a1, .ref a2, .int 0, .ref a3, .int 0, .null])), (a1, iA g 0 32 (fun _ => 0)), (a2, iA g 0 32 (fun _ => 0)), (a3, rA g 5 40 (fun _ => none))] 29 _ []
  refine L_aload_n (dG D_X1_init 14 rfl) rfl ?_
  refine L_bipush (v := 32) (dG D_X1_init 15 rfl) (by decide) ?_
  refine L_newa (t := 0) (N := 32) (a0 := (32, .inl (fun _ => 0))) (dG D_X1_init 16 rfl) w_57 rfl rfl (fun _ => rfl) (by decide) (by decide) (by decide) ⟨Nat.le_of_ble_eq_true rfl, Nat.le_of_ble_eq_true rfl⟩ (fun a4 => ?_)
  show VL g _ _ K_X1_init _ _ 4 136 [(q, .inr (1, [.ref a1, .ref a2, .int 0, .ref a3, .int 0, .null])), (a1, iA g 0 32 (fun _ => 0)), (a2, iA g 0 32 (fun _ => 0)), (a3, rA g 5 40 (fun _ => none)), (a4, iA g 0 32 (fun _ => 0))] 34 _ [.ref a4, .ref q]
  refine L_putF (T := TX1) (ty := tyX1 5) (kf := 5) (n := 0) (ty0 := tyX1) (dG D_X1_init 17 rfl) w_43 uin_1 tyX1_ok nmX1 rfl (by decide) rfl rfl rfl (by decide +kernel) rfl rfl (Nat.le_of_ble_eq_true rfl) rfl ?_
  show VL g _ _ K_X1_init _ _ 4 136 [(q, .inr (1, [.ref a1, .ref a2, .int 0, .ref a3, .int 0, .ref a4])), (a1, iA g 0 32 (fun _ => 0)), (a2, iA g 0 32 (fun _ => 0)), (a3, rA g 5 40 (fun _ => none)), (a4, iA g 0 32 (fun _ => 0))] 37 _ []
  exact L_vret (e0 := .inr (1, [.ref a1, .ref a2, .int 0, .ref a3, .int 0, .ref a4])) (tl := [(a1, iA g 0 32 (fun _ => 0)), (a2, iA g 0 32 (fun _ => 0)), (a3, rA g 5 40 (fun _ => none)), (a4, iA g 0 32 (fun _ => 0))]) (dG D_X1_init 18 rfl) rfl (Nat.le_of_ble_eq_true rfl) (Nat.le_of_ble_eq_true rfl) ⟨a1, a2, a3, a4, rfl⟩
theorem init_3 {g : GT} {q : Nat} {i1 i2 i3 i4 i5 : Int32} : ICt g K_X3_init false q 3 f30 [.int i1, .int i2, .int i3, .int i4, .int i5] 3 68 (fun u => ∃ a1, ∃ a2, ∃ a3, u = (.inr (3, [.int i1, .int i2, .int i3, .int (i4 + 100), .int 0, .int i4, .int i4, .int i5, .null, .int 0, .int 0, .int 0, .ref a1, .ref a2, .ref a3]), [(a1, iA g 0 32 (fun _ => 0)), (a2, iA g 0 32 (fun _ => 0)), (a3, iA g 0 4 (fun _ => 0))])) := by
  refine ICt_of (by decide +kernel) rfl rfl rfl (Nat.le_of_ble_eq_true rfl) (by simp [cat_ref, cat_int]) (fun sz _ _ _ => ?_)
  show VL g _ _ _ _ _ 0 0 _ 0 [(0, .ref q), (1, .int i1), (2, .int i2), (3, .int i3), (4, .int i4), (5, .int i5)] []
  refine L_aload_n (dG D_X3_init 0 rfl) rfl ?_
  refine L_obj (dG D_X3_init 1 rfl) w_380 ⟨Nat.le_of_ble_eq_true rfl, Nat.le_of_ble_eq_true rfl⟩ ?_
  refine L_aload_n (dG D_X3_init 2 rfl) rfl ?_
  refine L_iconst (v := 0) (dG D_X3_init 3 rfl) (by decide) ?_
  refine L_put (T := TX3) (ty := tyX3 4) (kf := 4) (n := 0) (ty0 := tyX3) (dG D_X3_init 4 rfl) w_388 uin_3 tyX3_ok nmX3 rfl (by decide) rfl (by decide +kernel) rfl rfl (Nat.le_of_ble_eq_true rfl) rfl ?_
  show VL g _ _ K_X3_init _ _ 0 0 [(q, .inr (3, [.int 0, .int 0, .int 0, .int 0, .int 0, .int 0, .int 0, .int 0, .null, .int 0, .int 0, .int 0, .null, .null, .null]))] 9 _ []
  refine L_aload_n (dG D_X3_init 5 rfl) rfl ?_
  refine L_bipush (v := 32) (dG D_X3_init 6 rfl) (by decide) ?_
  refine L_newa (t := 0) (N := 32) (a0 := (32, .inl (fun _ => 0))) (dG D_X3_init 7 rfl) w_57 rfl rfl (fun _ => rfl) (by decide) (by decide) (by decide) ⟨Nat.le_of_ble_eq_true rfl, Nat.le_of_ble_eq_true rfl⟩ (fun a1 => ?_)
  show VL g _ _ K_X3_init _ _ 1 32 [(q, .inr (3, [.int 0, .int 0, .int 0, .int 0, .int 0, .int 0, .int 0, .int 0, .null, .int 0, .int 0, .int 0, .null, .null, .null])), (a1, iA g 0 32 (fun _ => 0))] 14 _ [.ref a1, .ref q]
  refine L_putF (T := TX3) (ty := tyX3 12) (kf := 12) (n := 0) (ty0 := tyX3) (dG D_X3_init 8 rfl) w_404 uin_3 tyX3_ok nmX3 rfl (by decide) rfl rfl rfl (by decide +kernel) rfl rfl (Nat.le_of_ble_eq_true rfl) rfl ?_
  show VL g _ _ K_X3_init _ _ 1 32 [(q, .inr (3, [.int 0, .int 0, .int 0, .int 0, .int 0, .int 0, .int 0, .int 0, .null, .int 0, .int 0, .int 0, .ref a1, .null, .null])), (a1, iA g 0 32 (fun _ => 0))] 17 _ []
  refine L_aload_n (dG D_X3_init 9 rfl) rfl ?_
  refine L_bipush (v := 32) (dG D_X3_init 10 rfl) (by decide) ?_
  refine L_newa (t := 0) (N := 32) (a0 := (32, .inl (fun _ => 0))) (dG D_X3_init 11 rfl) w_57 rfl rfl (fun _ => rfl) (by decide) (by decide) (by decide) ⟨Nat.le_of_ble_eq_true rfl, Nat.le_of_ble_eq_true rfl⟩ (fun a2 => ?_)
  show VL g _ _ K_X3_init _ _ 2 64 [(q, .inr (3, [.int 0, .int 0, .int 0, .int 0, .int 0, .int 0, .int 0, .int 0, .null, .int 0, .int 0, .int 0, .ref a1, .null, .null])), (a1, iA g 0 32 (fun _ => 0)), (a2, iA g 0 32 (fun _ => 0))] 22 _ [.ref a2, .ref q]
  refine L_putF (T := TX3) (ty := tyX3 13) (kf := 13) (n := 0) (ty0 := tyX3) (dG D_X3_init 12 rfl) w_406 uin_3 tyX3_ok nmX3 rfl (by decide) rfl rfl rfl (by decide +kernel) rfl rfl (Nat.le_of_ble_eq_true rfl) rfl ?_
  show VL g _ _ K_X3_init _ _ 2 64 [(q, .inr (3, [.int 0, .int 0, .int 0, .int 0, .int 0, .int 0, .int 0, .int 0, .null, .int 0, .int 0, .int 0, .ref a1, .ref a2, .null])), (a1, iA g 0 32 (fun _ => 0)), (a2, iA g 0 32 (fun _ => 0))] 25 _ []
  refine L_aload_n (dG D_X3_init 13 rfl) rfl ?_
  refine L_iconst (v := 4) (dG D_X3_init 14 rfl) (by decide) ?_
  refine L_newa (t := 0) (N := 4) (a0 := (4, .inl (fun _ => 0))) (dG D_X3_init 15 rfl) w_57 rfl rfl (fun _ => rfl) (by decide) (by decide) (by decide) ⟨Nat.le_of_ble_eq_true rfl, Nat.le_of_ble_eq_true rfl⟩ (fun a3 => ?_)
  show VL g _ _ K_X3_init _ _ 3 68 [(q, .inr (3, [.int 0, .int 0, .int 0, .int 0, .int 0, .int 0, .int 0, .int 0, .null, .int 0, .int 0, .int 0, .ref a1, .ref a2, .null])), (a1, iA g 0 32 (fun _ => 0)), (a2, iA g 0 32 (fun _ => 0)), (a3, iA g 0 4 (fun _ => 0))] 29 _ [.ref a3, .ref q]
  refine L_putF (T := TX3) (ty := tyX3 14) (kf := 14) (n := 0) (ty0 := tyX3) (dG D_X3_init 16 rfl) w_409 uin_3 tyX3_ok nmX3 rfl (by decide) rfl rfl rfl (by decide +kernel) rfl rfl (Nat.le_of_ble_eq_true rfl) rfl ?_
  show VL g _ _ K_X3_init _ _ 3 68 [(q, .inr (3, [.int 0, .int 0, .int 0, .int 0, .int 0, .int 0, .int 0, .int 0, .null, .int 0, .int 0, .int 0, .ref a1, .ref a2, .ref a3])), (a1, iA g 0 32 (fun _ => 0)), (a2, iA g 0 32 (fun _ => 0)), (a3, iA g 0 4 (fun _ => 0))] 32 _ []
  refine L_aload_n (dG D_X3_init 17 rfl) rfl ?_
  refine L_iload_n (dG D_X3_init 18 rfl) rfl ?_
  refine L_putF (T := TX3) (ty := tyX3 0) (kf := 0) (n := 0) (ty0 := tyX3) (dG D_X3_init 19 rfl) w_381 uin_3 tyX3_ok nmX3 rfl (by decide) rfl rfl rfl (by decide +kernel) rfl rfl (Nat.le_of_ble_eq_true rfl) rfl ?_
  show VL g _ _ K_X3_init _ _ 3 68 [(q, .inr (3, [.int i1, .int 0, .int 0, .int 0, .int 0, .int 0, .int 0, .int 0, .null, .int 0, .int 0, .int 0, .ref a1, .ref a2, .ref a3])), (a1, iA g 0 32 (fun _ => 0)), (a2, iA g 0 32 (fun _ => 0)), (a3, iA g 0 4 (fun _ => 0))] 37 _ []
  refine L_aload_n (dG D_X3_init 20 rfl) rfl ?_
  refine L_iload_n (dG D_X3_init 21 rfl) rfl ?_
  refine L_putF (T := TX3) (ty := tyX3 1) (kf := 1) (n := 0) (ty0 := tyX3) (dG D_X3_init 22 rfl) w_383 uin_3 tyX3_ok nmX3 rfl (by decide) rfl rfl rfl (by decide +kernel) rfl rfl (Nat.le_of_ble_eq_true rfl) rfl ?_
  show VL g _ _ K_X3_init _ _ 3 68 [(q, .inr (3, [.int i1, .int i2, .int 0, .int 0, .int 0, .int 0, .int 0, .int 0, .null, .int 0, .int 0, .int 0, .ref a1, .ref a2, .ref a3])), (a1, iA g 0 32 (fun _ => 0)), (a2, iA g 0 32 (fun _ => 0)), (a3, iA g 0 4 (fun _ => 0))] 42 _ []
  refine L_aload_n (dG D_X3_init 23 rfl) rfl ?_
  refine L_iload_n (dG D_X3_init 24 rfl) rfl ?_
  refine L_putF (T := TX3) (ty := tyX3 2) (kf := 2) (n := 0) (ty0 := tyX3) (dG D_X3_init 25 rfl) w_385 uin_3 tyX3_ok nmX3 rfl (by decide) rfl rfl rfl (by decide +kernel) rfl rfl (Nat.le_of_ble_eq_true rfl) rfl ?_
  show VL g _ _ K_X3_init _ _ 3 68 [(q, .inr (3, [.int i1, .int i2, .int i3, .int 0, .int 0, .int 0, .int 0, .int 0, .null, .int 0, .int 0, .int 0, .ref a1, .ref a2, .ref a3])), (a1, iA g 0 32 (fun _ => 0)), (a2, iA g 0 32 (fun _ => 0)), (a3, iA g 0 4 (fun _ => 0))] 47 _ []
  refine L_aload_n (dG D_X3_init 26 rfl) rfl ?_
  refine L_iload (dG D_X3_init 27 rfl) rfl ?_
  refine L_bipush (v := 100) (dG D_X3_init 28 rfl) (by decide) ?_
  refine L_iadd (dG D_X3_init 29 rfl) ?_
  refine L_putF (T := TX3) (ty := tyX3 3) (kf := 3) (n := 0) (ty0 := tyX3) (dG D_X3_init 30 rfl) w_387 uin_3 tyX3_ok nmX3 rfl (by decide) rfl rfl rfl (by decide +kernel) rfl rfl (Nat.le_of_ble_eq_true rfl) rfl ?_
  show VL g _ _ K_X3_init _ _ 3 68 [(q, .inr (3, [.int i1, .int i2, .int i3, .int (i4 + 100), .int 0, .int 0, .int 0, .int 0, .null, .int 0, .int 0, .int 0, .ref a1, .ref a2, .ref a3])), (a1, iA g 0 32 (fun _ => 0)), (a2, iA g 0 32 (fun _ => 0)), (a3, iA g 0 4 (fun _ => 0))] 56 _ []
  refine L_aload_n (dG D_X3_init 31 rfl) rfl ?_
  refine L_iload (dG D_X3_init 32 rfl) rfl ?_
  refine L_put (T := TX3) (ty := tyX3 5) (kf := 5) (n := 0) (ty0 := tyX3) (dG D_X3_init 33 rfl) w_390 uin_3 tyX3_ok nmX3 rfl (by decide) rfl (by decide +kernel) rfl rfl (Nat.le_of_ble_eq_true rfl) rfl ?_
  show VL g _ _ K_X3_init _ _ 3 68 [(q, .inr (3, [.int i1, .int i2, .int i3, .int (i4 + 100), .int 0, .int i4, .int 0, .int 0, .null, .int 0, .int 0, .int 0, .ref a1, .ref a2, .ref a3])), (a1, iA g 0 32 (fun _ => 0)), (a2, iA g 0 32 (fun _ => 0)), (a3, iA g 0 4 (fun _ => 0))] 62 _ []
  refine L_aload_n (dG D_X3_init 34 rfl) rfl ?_
  refine L_iload (dG D_X3_init 35 rfl) rfl ?_
  refine L_put (T := TX3) (ty := tyX3 6) (kf := 6) (n := 0) (ty0 := tyX3) (dG D_X3_init 36 rfl) w_392 uin_3 tyX3_ok nmX3 rfl (by decide) rfl (by decide +kernel) rfl rfl (Nat.le_of_ble_eq_true rfl) rfl ?_
  show VL g _ _ K_X3_init _ _ 3 68 [(q, .inr (3, [.int i1, .int i2, .int i3, .int (i4 + 100), .int 0, .int i4, .int i4, .int 0, .null, .int 0, .int 0, .int 0, .ref a1, .ref a2, .ref a3])), (a1, iA g 0 32 (fun _ => 0)), (a2, iA g 0 32 (fun _ => 0)), (a3, iA g 0 4 (fun _ => 0))] 68 _ []
  refine L_aload_n (dG D_X3_init 37 rfl) rfl ?_
  refine L_iload (dG D_X3_init 38 rfl) rfl ?_
  refine L_put (T := TX3) (ty := tyX3 7) (kf := 7) (n := 0) (ty0 := tyX3) (dG D_X3_init 39 rfl) w_395 uin_3 tyX3_ok nmX3 rfl (by decide) rfl (by decide +kernel) rfl rfl (Nat.le_of_ble_eq_true rfl) rfl ?_
  show VL g _ _ K_X3_init _ _ 3 68 [(q, .inr (3, [.int i1, .int i2, .int i3, .int (i4 + 100), .int 0, .int i4, .int i4, .int i5, .null, .int 0, .int 0, .int 0, .ref a1, .ref a2, .ref a3])), (a1, iA g 0 32 (fun _ => 0)), (a2, iA g 0 32 (fun _ => 0)), (a3, iA g 0 4 (fun _ => 0))] 74 _ []
  exact L_vret (e0 := .inr (3, [.int i1, .int i2, .int i3, .int (i4 + 100), .int 0, .int i4, .int i4, .int i5, .null, .int 0, .int 0, .int 0, .ref a1, .ref a2, .ref a3])) (tl := [(a1, iA g 0 32 (fun _ => 0)), (a2, iA g 0 32 (fun _ => 0)), (a3, iA g 0 4 (fun _ => 0))]) (dG D_X3_init 40 rfl) rfl (Nat.le_of_ble_eq_true rfl) (Nat.le_of_ble_eq_true rfl) ⟨a1, a2, a3, rfl⟩
