/-! VL: calls of methods that touch one cell; Node.tellStamp so -/
def ICg (g : GT) (K : MK) (b : Bool) (q ci : Nat) (fs0 As : List Value) (mc ms : Nat) (Qr : Nat → Array Value → State → Outcome → State → Prop) : Prop := ∀ sz, gN g ≤ sz → gA g q → q < sz → Met (gl g) (ky K) (kws K) (kR K mc ms) (iQ q ci fs0 As b g sz) (Qr sz) mc ms (fun a => sz ≤ a ∨ a = q)
def iRi (q : Nat) (Po : Int32 → va_E × va_W → Prop) (g : GT) (sz : Nat) : Array Value → State → Outcome → State → Prop := va_Qi Po (fun u t => va_P (gD g) vwCl ((q, u.1) :: u.2) t.heap ∧ va_D (fun a => sz ≤ a ∨ a = q) ((q, u.1) :: u.2)) (fun a => sz ≤ a ∨ a = q)
theorem ICg_of {g : GT} {K : MK} {b : Bool} {q ci : Nat} {fs0 As : List Value} {mc ms : Nat} {Qr : Nat → Array Value → State → Outcome → State → Prop} (hy : plainName (ky K).cls = true) (hown : ko K = (ky K).cls) (hh : kh K = []) (hlen : As.length + 1 ≤ kL K) (hcat : ∀ v ∈ (.ref q :: As), v.category = 1)
    (body : ∀ sz, gN g ≤ sz → gA g q → q < sz → VL g (fun a => sz ≤ a ∨ a = q) (EX (fun a => sz ≤ a ∨ a = q) (b, false)) K (kR K mc ms) (fun below args s => MQ below (Qr sz) args s mc ms (fun a => sz ≤ a ∨ a = q)) 0 0 [(q, .inr (ci, fs0))] 0 (larg 0 (.ref q :: As)) []) : ICg g K b q ci fs0 As mc ms Qr := by
  intro sz hsz hq hlt
  refine Met.ofW (cc := kc K) (maxL := kL K) (ret := kr K) hy rfl ?_
  intro p e s m args below meth c s₁ B hml hv
  obtain ⟨rfl, hsz1, hP, hSx, hN⟩ := hv
  have hts := atoms_spec (ws := kws K) B.pre
  have hown' : s.vm.findClass (ko K) = some m.cls := by rw [hown]; exact findClass_of_methodNamed B.named
  have hl := lv_entry (.ref q :: As) (n := kL K) (by rw [lg_sl1 hcat, List.length_map]; exact hlen)
  rw [lv_args1 hcat] at hl
  rw [lg_entry_eq]
  have htab : c.exceptionTable.toList = tableOf (kh K) := by
    rw [hh]
    have hz := hts (Cond.code (ky K) (kc K) (kL K) (kr K)) List.mem_cons_self
    obtain ⟨meth9, c9, h1, h2, -, -, -, -, h7, -⟩ := Cond.code_spec B.named hz
    cases Option.some.inj (h1.symm.trans B.method)
    cases Option.some.inj (h2.symm.trans (Stand.of_body B).code)
    have e9 : c.exceptionTable = #[] := Array.isEmpty_iff.mp h7
    rw [e9]
    rfl
  exact body sz hsz hq hlt p e s m _ below meth c s.heap [] 0 0 _ ⟨B.exec, B.bytes, B.returns, hml, hown', fun w hw => hts w (List.mem_cons_of_mem _ hw), B.notSynchronized, htab, hSx⟩ ⟨fun a ha => Or.inl (by omega), hN, fun z => by cases z⟩ (Nat.le_refl _) (Nat.le_refl _) ⟨hP, va_D1 (Or.inr rfl)⟩ va_S.rf hl (larg_cat hcat)
section LCALL
variable {g : GT} {A : Nat → Prop} {b : Bool × Bool} {K : MK} {R : Room} {Qf : QT} {kb nb : Nat} {ws : va_W} {pc : Nat} {lv : List (Nat × Value)} {st : List Value}
theorem L_mv {Y : MK} {Cn : String} {cq : vw_C} {idx j ci q n : Nat} {fs0 As stk : List Value} {mc ms : Nat} {by0 : Bool} {Po : va_E × va_W → Prop} (hM : ICg g Y by0 q ci fs0 As mc ms (fun sz => iR q Po g sz)) (hAg : ∀ a, A a → gA g a) (hd : decode (kc K) pc = .ok (.invokevirtual idx, 3)) (hlen : As.length = n) (hj : ws[j]? = some (q, .inr (ci, fs0))) (hb : by0 = true → b.1 = true) (hL : LV (ko K) idx Cn Y n) (hcl : vwCl[ci]? = some cq ∧ cq.1 = Cn) (hR : kf Y + 1 ≤ R.frames ∧ 8 + (kL Y + 11) + klo Y ≤ R.locals) (hcs : kb + mc ≤ R.cells ∧ nb + ms ≤ R.slots) (hcat : (st.map fun v => v.category).sum ≤ 8) (hstk : stk = As.reverse ++ .ref q :: st)
    (k : ∀ e0 tl, Po (e0, tl) → VL g A (EX A b) K R Qf (kb + mc) (nb + ms) (ws.set j (q, e0) ++ tl) (pc + 3) lv st) : VL g A (EX A b) K R Qf kb nb ws pc lv stk := by
  intro p e s m args below meth c H locs k1 n1 ls X hE h1 h2 hR0 hS hl hc
  obtain ⟨x1, x2, x3, x4, x5, x6, x7, x8, x9⟩ := id X
  obtain ⟨l1, l2, l3, l4, l5, l6⟩ := hL
  have hq : q < H.size := (hR0.1 j _ hj).lt
  have hqg : gA g q := hAg _ (hR0.2.2 j _ hj)
  have hszg : gN g ≤ H.size := Nat.le_trans hqg (Nat.le_of_lt hq)
  have hPq : va_P (gD g) vwCl [(q, .inr (ci, fs0))] H := va_P1 (hR0.1 j _ hj)
  have hrecv := va_recv x9.1 hR0.1 hcl.1 (q0 := j) (fs := fs0) hj
  rw [hcl.2] at hrecv
  have hcb := callB_of (R := R) (own := ko K) (index := idx) (rm := kR Y mc ms) (mc := mc) (ms := ms) n x6 (good_kws l5) rfl rfl rfl (x6 _ l4) (x6 _ l1) l6 hR
  have hrun := va_runV (g := F0 m pc ls stk) (l := gl g) (H := H) (locs := locs) (cells := k1) (slots := n1) (e := e) (below := below) (meth := meth) (rest := st) (As := As) ⟨x1, x2, x4, x5, x6⟩ (hM H.size hszg hqg hq) ⟨hcb, x6 _ l2, x6 _ l3⟩ ⟨fun a U jj mk z => ⟨z.1, z.2.1, z.2.2.1, z.2.2.2.1.calling jj mk a, fun hb0 => (z.2.2.2.2 hb0).calling jj mk a⟩, hrecv, fun U hU hW => ⟨rfl, by rw [hU], by rw [hU]; exact hPq, Sx.to x9 hW (fun a ha hna => by rw [hU]; exact hS.2.1 a ha (fun z => hna (hAg a z))), fun z => (hE.2.1 (hb z)).warm hW⟩⟩ rfl hlen hl.1 hstk (lv_room hcat) hd ⟨by omega, by omega⟩
  refine va_callv hrun hS (fun a ha z => ?_) (fun a z => ?_) (fun u t H1 locs1 ht hvm hpo hB hz hk hS1 => ?_)
  · rcases z with z | z
    · exact absurd z (by omega)
    · rw [z]; exact hR0.2.2 j _ hj
  · rcases z with z | z
    · exact hE.1 a (Nat.le_trans hS.1 z)
    · rw [z]; exact hR0.2.2 j _ hj
  obtain ⟨e0, tl⟩ := u
  obtain ⟨hB1, hB2⟩ := hB
  rw [ht] at hB1
  have hjl : j < ws.length := (List.getElem?_eq_some_iff.mp hj).1
  have hP1 : va_P (gD g) vwCl (ws.set j (q, e0)) H1 := by
    intro i x hi
    by_cases ei : j = i
    · subst ei
      rw [List.getElem?_set_self hjl] at hi
      cases hi
      exact hB1 0 _ rfl
    · rw [List.getElem?_set_ne ei] at hi
      refine (hR0.1 i x hi).kept (hk x.1 (hR0.1 i x hi).lt ?_)
      rintro (z | z)
      · exact absurd (hR0.1 i x hi).lt (by omega)
      · exact ei (hR0.2.1 j i _ x hj hi z.symm)
  have hP2 : va_P (gD g) vwCl tl H1 := fun i x hi => hB1 (i + 1) x hi
  have htl : ∀ (i : Nat) (x : Nat × va_E), tl[i]? = some x → H.size ≤ x.1 := by
    intro i x hi
    rcases hB2.2 (i + 1) x hi with z | z
    · exact z
    · exact absurd (hB2.1 0 (i + 1) (q, e0) x rfl hi z.symm) (by omega)
  have hD2 : va_D A tl := ⟨fun i i' x y hi hi' z => by have := hB2.1 (i + 1) (i' + 1) x y hi hi' z; omega, fun i x hi => hE.1 _ (Nat.le_trans hS.1 (htl i x hi))⟩
  have hD1 := va_D.app (va_D.set (e := e0) hR0.2 hj) hD2 (fun i i' x y hi hi' z => by
    have q2 := htl i' y hi'
    have q3 : x.1 < H.size := by
      by_cases ei : j = i
      · subst ei
        rw [List.getElem?_set_self hjl] at hi
        cases hi
        exact hq
      · rw [List.getElem?_set_ne ei] at hi
        exact (hR0.1 i x hi).lt
    omega)
  exact k e0 tl hpo p e s m args below meth c H1 locs1 _ _ ls X hE (by omega) (by omega) ⟨va_P.app hP1 hP2, hD1⟩ hS1 hl hc
theorem L_mi {Y : MK} {Cn : String} {cq : vw_C} {idx j ci q n : Nat} {fs0 As stk : List Value} {mc ms : Nat} {by0 : Bool} {Po : Int32 → va_E × va_W → Prop} (hM : ICg g Y by0 q ci fs0 As mc ms (fun sz => iRi q Po g sz)) (hAg : ∀ a, A a → gA g a) (hd : decode (kc K) pc = .ok (.invokevirtual idx, 3)) (hlen : As.length = n) (hj : ws[j]? = some (q, .inr (ci, fs0))) (hb : by0 = true → b.1 = true) (hL : LV (ko K) idx Cn Y n) (hcl : vwCl[ci]? = some cq ∧ cq.1 = Cn) (hR : kf Y + 1 ≤ R.frames ∧ 8 + (kL Y + 11) + klo Y ≤ R.locals) (hcs : kb + mc ≤ R.cells ∧ nb + ms ≤ R.slots) (hcat : (st.map fun v => v.category).sum ≤ 8) (hstk : stk = As.reverse ++ .ref q :: st)
    (k : ∀ r e0 tl, Po r (e0, tl) → VL g A (EX A b) K R Qf (kb + mc) (nb + ms) (ws.set j (q, e0) ++ tl) (pc + 3) lv (.int r :: st)) : VL g A (EX A b) K R Qf kb nb ws pc lv stk := by
  intro p e s m args below meth c H locs k1 n1 ls X hE h1 h2 hR0 hS hl hc
  obtain ⟨x1, x2, x3, x4, x5, x6, x7, x8, x9⟩ := id X
  obtain ⟨l1, l2, l3, l4, l5, l6⟩ := hL
  have hq : q < H.size := (hR0.1 j _ hj).lt
  have hqg : gA g q := hAg _ (hR0.2.2 j _ hj)
  have hszg : gN g ≤ H.size := Nat.le_trans hqg (Nat.le_of_lt hq)
  have hPq : va_P (gD g) vwCl [(q, .inr (ci, fs0))] H := va_P1 (hR0.1 j _ hj)
  have hrecv := va_recv x9.1 hR0.1 hcl.1 (q0 := j) (fs := fs0) hj
  rw [hcl.2] at hrecv
  have hcb := callB_of (R := R) (own := ko K) (index := idx) (rm := kR Y mc ms) (mc := mc) (ms := ms) n x6 (good_kws l5) rfl rfl rfl (x6 _ l4) (x6 _ l1) l6 hR
  have hrun := va_runV (g := F0 m pc ls stk) (l := gl g) (H := H) (locs := locs) (cells := k1) (slots := n1) (e := e) (below := below) (meth := meth) (rest := st) (As := As) ⟨x1, x2, x4, x5, x6⟩ (hM H.size hszg hqg hq) ⟨hcb, x6 _ l2, x6 _ l3⟩ ⟨fun a U jj mk z => ⟨z.1, z.2.1, z.2.2.1, z.2.2.2.1.calling jj mk a, fun hb0 => (z.2.2.2.2 hb0).calling jj mk a⟩, hrecv, fun U hU hW => ⟨rfl, by rw [hU], by rw [hU]; exact hPq, Sx.to x9 hW (fun a ha hna => by rw [hU]; exact hS.2.1 a ha (fun z => hna (hAg a z))), fun z => (hE.2.1 (hb z)).warm hW⟩⟩ rfl hlen hl.1 hstk (lv_room hcat) hd ⟨by omega, by omega⟩
  refine va_calli hrun hS (fun a ha z => ?_) (fun a z => ?_) (fun r u t H1 locs1 ht hvm hpo hB hz hk hS1 => ?_)
  · rcases z with z | z
    · exact absurd z (by omega)
    · rw [z]; exact hR0.2.2 j _ hj
  · rcases z with z | z
    · exact hE.1 a (Nat.le_trans hS.1 z)
    · rw [z]; exact hR0.2.2 j _ hj
  obtain ⟨e0, tl⟩ := u
  obtain ⟨hB1, hB2⟩ := hB
  rw [ht] at hB1
  have hjl : j < ws.length := (List.getElem?_eq_some_iff.mp hj).1
  have hP1 : va_P (gD g) vwCl (ws.set j (q, e0)) H1 := by
    intro i x hi
    by_cases ei : j = i
    · subst ei
      rw [List.getElem?_set_self hjl] at hi
      cases hi
      exact hB1 0 _ rfl
    · rw [List.getElem?_set_ne ei] at hi
      refine (hR0.1 i x hi).kept (hk x.1 (hR0.1 i x hi).lt ?_)
      rintro (z | z)
      · exact absurd (hR0.1 i x hi).lt (by omega)
      · exact ei (hR0.2.1 j i _ x hj hi z.symm)
  have hP2 : va_P (gD g) vwCl tl H1 := fun i x hi => hB1 (i + 1) x hi
  have htl : ∀ (i : Nat) (x : Nat × va_E), tl[i]? = some x → H.size ≤ x.1 := by
    intro i x hi
    rcases hB2.2 (i + 1) x hi with z | z
    · exact z
    · exact absurd (hB2.1 0 (i + 1) (q, e0) x rfl hi z.symm) (by omega)
  have hD2 : va_D A tl := ⟨fun i i' x y hi hi' z => by have := hB2.1 (i + 1) (i' + 1) x y hi hi' z; omega, fun i x hi => hE.1 _ (Nat.le_trans hS.1 (htl i x hi))⟩
  have hD1 := va_D.app (va_D.set (e := e0) hR0.2 hj) hD2 (fun i i' x y hi hi' z => by
    have q2 := htl i' y hi'
    have q3 : x.1 < H.size := by
      by_cases ei : j = i
      · subst ei
        rw [List.getElem?_set_self hjl] at hi
        cases hi
        exact hq
      · rw [List.getElem?_set_ne ei] at hi
        exact (hR0.1 i x hi).lt
    omega)
  exact k r e0 tl hpo p e s m args below meth c H1 locs1 _ _ ls X hE (by omega) (by omega) ⟨va_P.app hP1 hP2, hD1⟩ hS1 hl hc
theorem L_max {idx : Nat} {x y : Int32} (hL : Cond.methodLink (ko K) idx Lib.Math.max.name ∈ gtbl) (hd : decode (kc K) pc = .ok (.invokestatic idx, 3)) (hro : 1 ≤ R.frames ∧ (st.map fun v => v.category).sum + 13 ≤ R.locals) (hcs : kb ≤ R.cells ∧ nb ≤ R.slots) (k : VL g A (EX A b) K R Qf kb nb ws (pc + 3) lv (.int (if x < y then y else x) :: st)) : VL g A (EX A b) K R Qf kb nb ws pc lv (.int y :: .int x :: st) := by
  intro p e s m args below meth c H locs k1 n1 ls X hE h1 h2 hR hS hl hc
  obtain ⟨x1, x2, x3, x4, x5, x6, x7, x8, x9⟩ := id X
  exact va_mmax x1 x2 (x4.trans hl.1.symm) x5 (x6 _ hL) (x6 _ w_128) (x6 _ w_12) (x6 _ w_129) hro.1 hro.2 (by omega) (by omega) hd (k p e s m args below meth c H locs k1 n1 ls X hE h1 h2 hR hS hl hc)
end LCALL
theorem L_iret {g : GT} {q : Nat} {E : State → Method → Prop} {K : MK} {mc ms sz kb nb pc : Nat} {lv : List (Nat × Value)} {e0 : va_E} {tl : va_W} {x : Int32} {Po : Int32 → va_E × va_W → Prop} (hd : decode (kc K) pc = .ok (.ireturn, 1)) (hr : kr K = some .int) (h1 : kb ≤ mc) (h2 : nb ≤ ms) (hp : Po x (e0, tl)) : VL g (fun a => sz ≤ a ∨ a = q) E K (kR K mc ms) (fun below args s => MQ below (iRi q Po g sz) args s mc ms (fun a => sz ≤ a ∨ a = q)) kb nb ((q, e0) :: tl) pc lv [.int x] := by
  intro p e s m args below meth c H locs k1 n1 ls X hE q1 q2 hR hS hl hc
  obtain ⟨x1, x2, x3, x4, x5, x6, x7, x8, x9⟩ := id X
  refine W.widen (k := mc) (n := ms) (by omega) (by omega) ?_
  exact W.iret x1 x2 (x3.trans hr) (fun t ht hW => ⟨⟨x, (e0, tl), rfl, hp, by rw [ht]; exact hR.1, hR.2⟩, hS.F ht⟩) hS.2.2 hd x7
theorem im_meetStamp {g : GT} {q : Nat} {x y z s : Int32} : ICg g K_X2_meetStamp false q 2 [.int x, .int y, .int z] [.int s] 0 0 (fun sz => iR q (fun u => u = (.inr (2, [.int x, .int (mx y s), .int z]), [])) g sz) := by
  refine ICg_of (by decide +kernel) rfl rfl (Nat.le_of_ble_eq_true rfl) (by simp [cat_ref, cat_int]) (fun sz hsz hq _ => ?_)
  show VL g _ _ _ _ _ 0 0 _ 0 [(0, .ref q), (1, .int s)] []
  refine L_aload_n (dG D_X2_meetStamp 0 rfl) rfl ?_
  refine L_aload_n (dG D_X2_meetStamp 1 rfl) rfl ?_
  refine L_get (T := TX2) (kf := 1) (n := 0) (dG D_X2_meetStamp 2 rfl) w_65 uin_2 rfl (by decide) rfl rfl ?_
  refine L_iload_n (dG D_X2_meetStamp 3 rfl) rfl ?_
  refine L_max w_302 (dG D_X2_meetStamp 4 rfl) ⟨Nat.le_of_ble_eq_true rfl, Nat.le_of_ble_eq_true rfl⟩ ⟨Nat.le_of_ble_eq_true rfl, Nat.le_of_ble_eq_true rfl⟩ ?_
  refine L_put (T := TX2) (ty := tyX2 1) (kf := 1) (n := 0) (ty0 := tyX2) (dG D_X2_meetStamp 5 rfl) w_65 uin_2 tyX2_ok nmX2 rfl (by decide) rfl (by decide +kernel) rfl rfl (Nat.le_of_ble_eq_true rfl) rfl ?_
  exact L_vret (e0 := .inr (2, [.int x, .int (mx y s), .int z])) (tl := []) (dG D_X2_meetStamp 6 rfl) rfl (Nat.le_of_ble_eq_true rfl) (Nat.le_of_ble_eq_true rfl) rfl
theorem im_tellStamp {g : GT} {q : Nat} {x y z time : Int32} : ICg g K_X2_tellStamp false q 2 [.int x, .int y, .int z] [.int time] 0 0 (fun sz => iRi q (fun r u => r = mx y (mx (10 * (time + x)) (y + 1)) ∧ u = (.inr (2, [.int x, .int (mx y (mx (10 * (time + x)) (y + 1))), .int z]), [])) g sz) := by
  refine ICg_of (by decide +kernel) rfl rfl (Nat.le_of_ble_eq_true rfl) (by simp [cat_ref, cat_int]) (fun sz hsz hq _ => ?_)
  show VL g _ _ _ _ _ 0 0 _ 0 [(0, .ref q), (1, .int time)] []
  refine L_aload_n (dG D_X2_tellStamp 0 rfl) rfl ?_
  refine L_bipush (v := 10) (dG D_X2_tellStamp 1 rfl) (by decide) ?_
  refine L_iload_n (dG D_X2_tellStamp 2 rfl) rfl ?_
  refine L_aload_n (dG D_X2_tellStamp 3 rfl) rfl ?_
  refine L_get (T := TX2) (kf := 0) (n := 0) (dG D_X2_tellStamp 4 rfl) w_63 uin_2 rfl (by decide) rfl rfl ?_
  refine L_iadd (dG D_X2_tellStamp 5 rfl) ?_
  refine L_imul (dG D_X2_tellStamp 6 rfl) ?_
  refine L_aload_n (dG D_X2_tellStamp 7 rfl) rfl ?_
  refine L_get (T := TX2) (kf := 1) (n := 0) (dG D_X2_tellStamp 8 rfl) w_65 uin_2 rfl (by decide) rfl rfl ?_
  refine L_iconst (v := 1) (dG D_X2_tellStamp 9 rfl) (by decide) ?_
  refine L_iadd (dG D_X2_tellStamp 10 rfl) ?_
  refine L_max w_302 (dG D_X2_tellStamp 11 rfl) ⟨Nat.le_of_ble_eq_true rfl, Nat.le_of_ble_eq_true rfl⟩ ⟨Nat.le_of_ble_eq_true rfl, Nat.le_of_ble_eq_true rfl⟩ ?_
  refine L_mv (Y := K_X2_meetStamp) (Cn := RX2) (j := 0) (As := [.int (mx (10 * (time + x)) (y + 1))]) im_meetStamp (fun a ha => by rcases ha with z | z; exact Nat.le_trans hsz z; rw [z]; exact hq) (dG D_X2_tellStamp 12 rfl) rfl rfl (fun z => by cases z) lk_X2_24 ⟨rfl, rfl⟩ ⟨Nat.le_of_ble_eq_true rfl, Nat.le_of_ble_eq_true rfl⟩ ⟨Nat.le_of_ble_eq_true rfl, Nat.le_of_ble_eq_true rfl⟩ (Nat.le_of_ble_eq_true rfl) rfl (fun e0 tl0 he0 => ?_)
  cases he0
  show VL g _ _ K_X2_tellStamp _ _ _ _ [(q, .inr (2, [.int x, .int (mx y (mx (10 * (time + x)) (y + 1))), .int z]))] 22 [(0, .ref q), (1, .int time)] []
  refine L_aload_n (dG D_X2_tellStamp 13 rfl) rfl ?_
  refine L_get (T := TX2) (kf := 1) (n := 0) (dG D_X2_tellStamp 14 rfl) w_65 uin_2 rfl (by decide) rfl rfl ?_
  exact L_iret (e0 := .inr (2, [.int x, .int (mx y (mx (10 * (time + x)) (y + 1))), .int z])) (tl := []) (dG D_X2_tellStamp 15 rfl) rfl (Nat.le_of_ble_eq_true rfl) (Nat.le_of_ble_eq_true rfl) ⟨rfl, rfl⟩
