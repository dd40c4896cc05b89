/-! the start: what the machine is known to hold -/
theorem mem_r {α : Type} {big ws : List α} (ps : List Nat) (h : ws = ps.filterMap (fun i => big[i]?)) : ∀ w ∈ ws, w ∈ big := by
  intro w hw
  rw [h] at hw
  obtain ⟨i, -, hi⟩ := List.mem_filterMap.mp hw
  exact List.mem_of_getElem? hi
def lw_At (p : Program) (s : State) (m : MethodId) (meth : Method) (c : Code) (b L : Nat) (xs : Nat → Int32) : Prop :=
  p.tables.exec = Jvm.exec ∧ c.code = code ∧ meth.sig.returnType = ret ∧ c.maxLocals = 7 ∧ s.vm.findClass R_law = some m.cls ∧ (∀ w ∈ lw_tbl, w.before #[Value.ref b] s = true) ∧ va_X b L xs s s.heap ∧ b < s.heap.size ∧ meth.locks = false ∧ (Jvm.Cond.and given_1 narrow_1).before #[Value.ref b] s = true ∧ c.exceptionTable.toList = []
theorem arr_p {args : Array Value} {s : State} {ty : FieldType} (hq : ∀ C, ty ≠ .object C) (h : (Cond.arrayClass ty).before args s = true) : ∃ cA, ArrOfT s cA ty ∧ va_RA s cA ty := by
  obtain ⟨cA, kA, comp, f1, f2, f3⟩ := Cond.arrayClass_spec h
  refine ⟨cA, fun n z => ⟨(fun k h => by cases h), kA, f2, comp, f3⟩, ?_⟩
  cases ty with
  | object C => exact absurd rfl (hq C)
  | _ => exact f1
theorem arr_q {args : Array Value} {s : State} {C : String} (h : (Cond.arrayOver (.object C)).before args s = true) : ∃ cA, ArrOfT s cA (.object C) ∧ va_RA s cA (.object C) := by
  obtain ⟨comp, cA, kA, f1, f2, f3, f4, f5⟩ := Cond.arrayOver_spec h
  exact ⟨cA, fun n z => ⟨(fun k h => by cases h), kA, f3, comp, f4⟩, kA, comp, f3, f4, f1, f5⟩
theorem str_of {args : Array Value} {s : State} {cls text : String} {i cur : Nat} (hcur : s.vm.findClass cls = some cur) (h : (Cond.stringRef cls i text).before args s = true) : ∃ a, vk_R cls i text a s := by
  obtain ⟨k, cf, i9, a, -, -, -, -, -, he⟩ := Cond.stringRef_spec hcur h
  exact ⟨a, vk_R.of (A := args) h he⟩
theorem strT_own : ∀ q ∈ strT, q.1 = RX4 := by decide +kernel
theorem strT_in : ∀ w ∈ strT.map (fun q => Cond.stringRef q.1 q.2.1 q.2.2), w ∈ lw_tbl := mem_r [263, 299, 327, 334, 346, 370, 389, 390, 406, 407, 415, 423, 424, 502, 507, 631, 684, 709, 721] (by decide +kernel)
theorem castT_in : ∀ w ∈ castT.map (fun q => Cond.castable q.1 q.2), w ∈ lw_tbl := mem_r [224, 292, 320, 560] (by decide +kernel)
theorem decT_in : ∀ w ∈ decT.map Cond.declares, w ∈ lw_tbl := mem_r [226, 228, 230] (by decide +kernel)
def Dst (c0 c1 c2 c3 c4 c5 : ClassId) (i0 i1 i2 i3 i4 i5 : Nat → Nat) : va_G := (fun k => match k with | 0 => c0 | 1 => c1 | 2 => c2 | 3 => c3 | 4 => c4 | _ => c5, fun k => match k with | 0 => i0 | 1 => i1 | 2 => i2 | 3 => i3 | 4 => i4 | _ => i5)
def cst (k0 k1 k2 k3 k4 k5 : ClassId) : Nat → ClassId := fun k => match k with | 0 => k0 | 1 => k1 | 2 => k2 | 3 => k3 | 4 => k4 | _ => k5
theorem st_known {p : Program} {s : State} {m : MethodId} {meth : Method} {c : Code} {b L : Nat} {xs : Nat → Int32} (l : Launch) (hflags : l.flags = flags0) (C0 : lw_At p s m meth c b L xs) : ∃ (D : va_G) (cs : Nat → ClassId), (∀ a', Sx (l, D, cs, s.heap.size, a') s) ∧ SN s := by
  obtain ⟨x1, x2, x3, x4, x5, hts, hX, hbl, hlocks, hgv, htab⟩ := C0
  have hg : ∀ w ∈ gtbl, w.before #[Value.ref b] s = true := fun w hw => hts w (gtbl_in hw)
  have hs := flat_of_before _ hgv
  obtain ⟨c0, i0, k0⟩ := u_known (C := RX0) (T := TX0) (N := 6) (n := 6) hg uin_0 (hg _ w_74)
  obtain ⟨c1, i1, k1⟩ := u_known (C := RX1) (T := TX1) (N := 6) (n := 6) hg uin_1 (hg _ w_32)
  obtain ⟨c2, i2, k2⟩ := u_known (C := RX2) (T := TX2) (N := 3) (n := 3) hg uin_2 (hg _ w_58)
  obtain ⟨c3, i3, k3⟩ := u_known (C := RX3) (T := TX3) (N := 15) (n := 15) hg uin_3 (hg _ w_376)
  obtain ⟨c4, i4, k4⟩ := u_known (C := RX4) (T := TX4) (N := 6) (n := 6) hg uin_4 (hg _ w_18)
  obtain ⟨c5, i5, k5⟩ := u_known (C := RX5) (T := TX5) (N := 32) (n := 32) hg uin_5 (hg _ w_689)
  have hO0 : (Cond.arrayOver (.object RX0)).before #[Value.ref b] s = true := hts _ (List.mem_of_getElem? (i := 77) (by decide +kernel))
  have hO2 : (Cond.arrayOver (.object RX2)).before #[Value.ref b] s = true := hts _ (List.mem_of_getElem? (i := 75) (by decide +kernel))
  have hO3 : (Cond.arrayOver (.object RX3)).before #[Value.ref b] s = true := hts _ (List.mem_of_getElem? (i := 79) (by decide +kernel))
  obtain ⟨q0, r0⟩ := arr_p (ty := .int) (fun C => by intro z; cases z) (hg _ w_57)
  obtain ⟨q1, r1⟩ := arr_p (ty := .boolean) (fun C => by intro z; cases z) (hg _ w_791)
  obtain ⟨q2, r2⟩ := arr_p (ty := .long) (fun C => by intro z; cases z) (hg _ w_1003)
  obtain ⟨q3, r3⟩ := arr_q hO2
  obtain ⟨q4, r4⟩ := arr_q hO0
  obtain ⟨q5, r5⟩ := arr_q hO3
  have hini : (Cond.initialized "java/lang/Throwable").before #[Value.ref b] s = true := hg _ w_6
  have hA : ∀ a' : Nat → Nat, ∀ a : Nat, a < s.heap.size → ¬ gA (l, Dst c0 c1 c2 c3 c4 c5 i0 i1 i2 i3 i4 i5, cst q0 q1 q2 q3 q4 q5, s.heap.size, a') a := fun a' a h z => by
    have z2 : s.heap.size ≤ a := z
    omega
  refine ⟨Dst c0 c1 c2 c3 c4 c5 i0 i1 i2 i3 i4 i5, cst q0 q1 q2 q3 q4 q5, fun a' => ⟨⟨fun k q hq => ?_, fun k q hk => ?_⟩, ?_, ?_, fun q hq => ?_, ⟨fun q hq => ?_, fun q hq => ?_, Nat.le_refl _⟩, fun y hy => ?_, ?_⟩, va_AO.of hO0, va_AO.of hO2, va_AO.of hO3, ?_, ?_, ?_⟩
  · match k, hq with
    | 0, hq => cases hq; exact k0
    | 1, hq => cases hq; exact k1
    | 2, hq => cases hq; exact k2
    | 3, hq => cases hq; exact k3
    | 4, hq => cases hq; exact k4
    | 5, hq => cases hq; exact k5
    | k + 6, hq => cases hq
  · match k, hk with
    | 0, hk => cases hk; exact r0
    | 1, hk => cases hk; exact r1
    | 2, hk => cases hk; exact r2
    | 3, hk => cases hk; exact r3
    | 4, hk => cases hk; exact r4
    | 5, hk => cases hk; exact r5
    | k + 6, hk => cases hk
  · exact vx_Zqof (args := #[Value.ref b]) (hts _ (List.mem_of_getElem? (i := 249) (by decide +kernel))) hini (hs _ (by decide +kernel)) (hA a')
  · exact vx_Zqof (args := #[Value.ref b]) (hts _ (List.mem_of_getElem? (i := 251) (by decide +kernel))) hini (hs _ (by decide +kernel)) (hA a')
  · exact str_of (args := #[Value.ref b]) (cur := c4) (by rw [strT_own q hq]; exact k4.2.1) (hts _ (strT_in _ (List.mem_map_of_mem (f := fun q => Cond.stringRef q.1 q.2.1 q.2.2) hq)))
  · exact cast_moved (Vm.Alike.refl s.vm) (hts _ (castT_in _ (List.mem_map_of_mem (f := fun q => Cond.castable q.1 q.2) hq)))
  · refine va_Nc.of (args := #[Value.ref b]) (hs _ ?_)
    revert q
    decide +kernel
  · exact dec_moved (Vm.Alike.refl s.vm) (hts _ (decT_in _ (List.mem_map_of_mem (f := Cond.declares) hy)))
  · show l.stackTraces = false
    unfold Launch.stackTraces
    rw [hflags]
    decide +kernel
  · exact va_Nw.of rfl (hts _ (List.mem_of_getElem? (i := 82) (by decide +kernel)))
  · exact va_Nw.of rfl (hts _ (List.mem_of_getElem? (i := 108) (by decide +kernel)))
  · exact va_Nw.of rfl (hts _ (List.mem_of_getElem? (i := 124) (by decide +kernel)))
