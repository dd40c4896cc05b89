/-! VL: what makes cells, and constructors -/
def SN (s : State) : Prop := va_AO RX0 s ∧ va_AO RX2 s ∧ va_AO RX3 s ∧ va_Nw (.methodLinkNest RX4 29 yX1_init RX4) s ∧ va_Nw (.methodLinkNest RX4 34 yX2_init RX4) s ∧ va_Nw (.methodLinkNest RX4 35 yX0_init RX4) s
theorem SN.warm {s U : State} (h : SN s) (hW : s.WarmedH U.vm) : SN U := ⟨va_AO.moved hW.alike h.1, va_AO.moved hW.alike h.2.1, va_AO.moved hW.alike h.2.2.1, va_Nw.warmM hW h.2.2.2.1, va_Nw.warmM hW h.2.2.2.2.1, va_Nw.warmM hW h.2.2.2.2.2⟩
theorem SN.calling {U : State} (h : SN U) (j : JFrame) (mk : MethodId) (a : Array Value) : SN (U.calling j mk a) := ⟨va_AO.moved (u := U) (U := U.calling j mk a) (Vm.Alike.refl U.vm) h.1, va_AO.moved (u := U) (U := U.calling j mk a) (Vm.Alike.refl U.vm) h.2.1, va_AO.moved (u := U) (U := U.calling j mk a) (Vm.Alike.refl U.vm) h.2.2.1, va_Nw.same (u := U) (U := U.calling j mk a) rfl rfl h.2.2.2.1, va_Nw.same (u := U) (U := U.calling j mk a) rfl rfl h.2.2.2.2.1, va_Nw.same (u := U) (U := U.calling j mk a) rfl rfl h.2.2.2.2.2⟩
def EX (A : Nat → Prop) (b : Bool × Bool) (s : State) (meth : Method) : Prop := (∀ a, s.heap.size ≤ a → A a) ∧ (b.1 = true → SN s) ∧ (b.2 = true → meth.name = "<init>")
def iQ (q ci : Nat) (fs0 : List Value) (As : List Value) (b : Bool) (g : GT) (sz : Nat) : Array Value → State → Prop := va_Pc (.ref q :: As) (fun U => U.heap.size = sz ∧ va_P (gD g) vwCl [(q, .inr (ci, fs0))] U.heap ∧ Sx g U ∧ (b = true → SN U))
def iR (q : Nat) (Po : va_E × va_W → Prop) (g : GT) (sz : Nat) : Array Value → State → Outcome → State → Prop := va_Qv Po (fun u t => va_P (gD g) vwCl ((q, u.1) :: u.2) t.heap ∧ va_D (fun a => sz ≤ a ∨ a = q) ((q, u.1) :: u.2)) (fun a => sz ≤ a ∨ a = q)
def ICt (g : GT) (K : MK) (b : Bool) (q ci : Nat) (fs0 As : List Value) (mc ms : Nat) (Po : va_E × va_W → Prop) : Prop := ∀ sz, gN g ≤ sz → gA g q → q < sz → Met (gl g) (ky K) (kws K) (kR K mc ms) (iQ q ci fs0 As b g sz) (iR q Po g sz) mc ms (fun a => sz ≤ a ∨ a = q)
theorem va_RAf {U : State} {cA : ClassId} {ty : FieldType} (h : va_RA U cA ty) : U.vm.findClass ("[" ++ ty.toString) = some cA := by
  cases ty with
  | object C => obtain ⟨-, -, -, -, -, h4⟩ := h; exact h4
  | _ => exact h
theorem va_D1 {A : Nat → Prop} {q : Nat} {e : va_E} (h : A q) : va_D A [(q, e)] := by
  refine ⟨fun i j x y hi hj _ => ?_, fun j x hj => ?_⟩
  · have q1 := (List.getElem?_eq_some_iff.mp hi).1
    have q2 := (List.getElem?_eq_some_iff.mp hj).1
    simp at q1 q2
    omega
  · match j, hj with
    | 0, hj => cases hj; exact h
theorem va_P1 {D : va_G} {q : Nat} {e : va_E} {H : Heap} (h : va_at D vwCl (q, e) H) : va_P D vwCl [(q, e)] H := by
  intro j x hj
  match j, hj with
  | 0, hj => cases hj; exact h
theorem ICt_of {g : GT} {K : MK} {b : Bool} {q ci : Nat} {fs0 As : List Value} {mc ms : Nat} {Po : va_E × va_W → Prop} (hy : plainName (ky K).cls = true) (hown : ko K = (ky K).cls) (hnm : (ky K).name = "<init>") (hh : kh K = []) (hlen : As.length + 1 ≤ kL K) (hcat : ∀ v ∈ (.ref q :: As), v.category = 1)
    (body : ∀ sz, gN g ≤ sz → gA g q → q < sz → VL g (fun a => sz ≤ a ∨ a = q) (EX (fun a => sz ≤ a ∨ a = q) (b, true)) K (kR K mc ms) (fun below args s => MQ below (iR q Po g sz) args s mc ms (fun a => sz ≤ a ∨ a = q)) 0 0 [(q, .inr (ci, fs0))] 0 (larg 0 (.ref q :: As)) []) : ICt g K b q ci fs0 As mc ms Po := by
  intro sz hsz hq hlt
  refine Met.ofW (cc := kc K) (maxL := kL K) (ret := kr K) hy rfl ?_
  intro p e s m args below meth c s₁ B hml hv
  obtain ⟨rfl, hsz1, hP, hSx, hN⟩ := hv
  have hts := atoms_spec (ws := kws K) B.pre
  have hown' : s.vm.findClass (ko K) = some m.cls := by rw [hown]; exact findClass_of_methodNamed B.named
  have hl := lv_entry (.ref q :: As) (n := kL K) (by rw [lg_sl1 hcat, List.length_map]; exact hlen)
  rw [lv_args1 hcat] at hl
  rw [lg_entry_eq]
  have htab : c.exceptionTable.toList = tableOf (kh K) := by
    rw [hh]
    have hz := hts (Cond.code (ky K) (kc K) (kL K) (kr K)) List.mem_cons_self
    obtain ⟨meth9, c9, h1, h2, -, -, -, -, h7, -⟩ := Cond.code_spec B.named hz
    cases Option.some.inj (h1.symm.trans B.method)
    cases Option.some.inj (h2.symm.trans (Stand.of_body B).code)
    have e9 : c.exceptionTable = #[] := Array.isEmpty_iff.mp h7
    rw [e9]
    rfl
  refine body sz hsz hq hlt p e s m _ below meth c s.heap [] 0 0 _ ⟨B.exec, B.bytes, B.returns, hml, hown', fun w hw => hts w (List.mem_cons_of_mem _ hw), B.notSynchronized, htab, hSx⟩ ⟨fun a ha => Or.inl (by omega), hN, fun _ => ?_⟩ (Nat.le_refl _) (Nat.le_refl _) ⟨hP, va_D1 (Or.inr rfl)⟩ va_S.rf hl (larg_cat hcat)
  rw [(name_of_methodNamed B.named B.method).1]
  exact hnm
def LI (own : String) (idx : Nat) (Y : MK) (n : Nat) : Prop := Cond.methodLink own idx (ky Y) ∈ gtbl ∧ Cond.instanceMethod (ky Y) ∈ gtbl ∧ Cond.initialized (ky Y).cls ∈ gtbl ∧ Cond.code (ky Y) (kc Y) (kL Y) none ∈ gtbl ∧ kr Y = none ∧ (ky Y).name = "<init>" ∧ ((ky Y).cls ≠ "java/lang/invoke/MethodHandle" ∧ (ky Y).cls ≠ "java/lang/invoke/VarHandle" ∧ (parseMethodDescriptor (ky Y).desc).map (fun d => d.parameters.length) = some n)
def LIN (Y : MK) (n : Nat) : Prop := Cond.instanceMethod (ky Y) ∈ gtbl ∧ Cond.initialized (ky Y).cls ∈ gtbl ∧ Cond.code (ky Y) (kc Y) (kL Y) none ∈ gtbl ∧ kr Y = none ∧ (ky Y).name = "<init>" ∧ ((ky Y).cls ≠ "java/lang/invoke/MethodHandle" ∧ (ky Y).cls ≠ "java/lang/invoke/VarHandle" ∧ (parseMethodDescriptor (ky Y).desc).map (fun d => d.parameters.length) = some n)
section LMAKE
variable {g : GT} {A : Nat → Prop} {b : Bool × Bool} {K : MK} {R : Room} {Qf : QT} {kb nb : Nat} {ws : va_W} {pc : Nat} {lv : List (Nat × Value)} {st : List Value}
theorem L_newa {t : Nat} {at0 : ArrayType} {ty : FieldType} {n : Int32} {N : Nat} {a0 : vp_A} (hd : decode (kc K) pc = .ok (.newarray at0, 2)) (hw : Cond.arrayClass (newarray.typeOf at0) ∈ gtbl) (hty : newarray.typeOf at0 = ty) (ht : (gtys g)[t]? = some (gc g t, ty)) (ha : ∀ cA : ClassId, vp_cell cA a0 = arrV cA N (fun _ => defaultValue ty)) (hn : ¬ n < 0) (hN : n.toNatClampNeg = N) (hby : N * componentBytes ty ≤ 536870912) (hcs : kb + 1 ≤ R.cells ∧ nb + N ≤ R.slots)
    (k : ∀ q, VL g A (EX A b) K R Qf (kb + 1) (nb + N) (ws ++ [(q, .inl (gc g t, a0))]) (pc + 2) lv (.ref q :: st)) : VL g A (EX A b) K R Qf kb nb ws pc lv (.int n :: st) := by
  intro p e s m args below meth c H locs k1 n1 ls X hE h1 h2 hR hS hl hc
  obtain ⟨x1, x2, x3, x4, x5, x6, x7, x8, x9⟩ := id X
  refine va_newa x1 x2 (x6 _ hw) hty x9.1 hR.1 hR.2 hS hE.1 ha hn hN hby (by omega) (by omega) hd (fun a cA H1 hK1 hP hD hS1 => ?_)
  have hcA : cA = gc g t := by
    have e1 := (hK1.2 6 (cA, ty) rfl).2
    have e2 := (x9.1.2 t (gc g t, ty) ht).2
    have e3 : s.vm.findClass ("[" ++ ty.toString) = some cA := va_RAf e1
    have e4 : s.vm.findClass ("[" ++ ty.toString) = some (gc g t) := va_RAf e2
    rw [e3] at e4
    exact Option.some.inj e4
  subst hcA
  exact k a p e s m args below meth c H1 locs _ _ ls X hE (by omega) (by omega) ⟨hP, hD⟩ hS1 hl hc
theorem L_newq {t index : Nat} {Cn : String} {n : Int32} {N : Nat} (hd : decode (kc K) pc = .ok (.anewarray index, 3)) (hw : Cond.classLink (ko K) index Cn ∈ gtbl) (hb : b.1 = true) (hO : ∀ s, SN s → va_AO Cn s) (ht : (gtys g)[t]? = some (gc g t, .object Cn)) (hn : ¬ n < 0) (hN : n.toNatClampNeg = N) (hby : N * 4 ≤ 536870912) (hcs : kb + 1 ≤ R.cells ∧ nb + N ≤ R.slots)
    (k : ∀ q, VL g A (EX A b) K R Qf (kb + 1) (nb + N) (ws ++ [(q, rA g t N (fun _ => none))]) (pc + 3) lv (.ref q :: st)) : VL g A (EX A b) K R Qf kb nb ws pc lv (.int n :: st) := by
  intro p e s m args below meth c H locs k1 n1 ls X hE h1 h2 hR hS hl hc
  obtain ⟨x1, x2, x3, x4, x5, x6, x7, x8, x9⟩ := id X
  refine va_newq x1 x2 x5 (x6 _ hw) (hO s (hE.2.1 hb)) x9.1 hR.1 hR.2 hS hE.1 hn hN hby (by omega) (by omega) hd (fun a cA H1 hK1 hP hD hS1 => ?_)
  have hcA : cA = gc g t := by
    have e1 := (hK1.2 6 (cA, .object Cn) rfl).2
    have e2 := (x9.1.2 t (gc g t, .object Cn) ht).2
    have e3 : s.vm.findClass ("[" ++ (FieldType.object Cn).toString) = some cA := va_RAf e1
    have e4 : s.vm.findClass ("[" ++ (FieldType.object Cn).toString) = some (gc g t) := va_RAf e2
    rw [e3] at e4
    exact Option.some.inj e4
  subst hcA
  exact k a p e s m args below meth c H1 locs _ _ ls X hE (by omega) (by omega) ⟨hP, hD⟩ hS1 hl hc
theorem L_new {ci index N : Nat} {Cn : String} {T : u_T} {fs : List Value} {ty0 : Nat → FieldType} (hd : decode (kc K) pc = .ok (.new index, 3)) (hu : ∀ w ∈ u_ws Cn T N, w ∈ gtbl) (hty : ∀ k, k < N → parseFieldDescriptor (T k).2.2.1 = some (ty0 k)) (hw : Cond.classLink (ko K) index Cn ∈ gtbl ∧ Cond.instantiable Cn N ∈ gtbl ∧ Cond.initialized Cn ∈ gtbl) (hcl : vwCl[ci]? = some (Cn, T, N)) (hfs : ∀ j, j < N → defaultValue (ty0 j) = vp_V fs j) (hcs : kb + 1 ≤ R.cells ∧ nb + N ≤ R.slots)
    (k : ∀ q, VL g A (EX A b) K R Qf (kb + 1) (nb + N) (ws ++ [(q, .inr (ci, fs))]) (pc + 3) lv (.ref q :: st)) : VL g A (EX A b) K R Qf kb nb ws pc lv st := by
  intro p e s m args below meth c H locs k1 n1 ls X hE h1 h2 hR hS hl hc
  obtain ⟨x1, x2, x3, x4, x5, x6, x7, x8, x9⟩ := id X
  exact va_new x1 x2 x6 hu ty0 hty x5 (x6 _ hw.1) (x6 _ hw.2.1) (x6 _ hw.2.2) x9.1 hR.1 hR.2 hS hE.1 hcl hfs (by omega) (by omega) hd (fun a H1 hP hD hS1 => k a p e s m args below meth c H1 locs _ _ ls X hE (by omega) (by omega) ⟨hP, hD⟩ hS1 hl hc)
theorem L_get {ci kf index n N a : Nat} {T : u_T} {Cn : String} {fs : List Value} {v : Value} (hd : decode (kc K) pc = .ok (.getfield index, 3)) (hw : Cond.fieldLink (ko K) index (T kf).1 (T kf).2.1 (T kf).2.2.1 ∈ gtbl) (hu : ∀ w ∈ u_ws Cn T N, w ∈ gtbl) (hcl : vwCl[ci]? = some (Cn, T, N)) (hk : kf < N) (he : ws[n]? = some (a, .inr (ci, fs))) (hv : fs[kf]? = some v) (k : VL g A (EX A b) K R Qf kb nb ws (pc + 3) lv (v :: st)) : VL g A (EX A b) K R Qf kb nb ws pc lv (.ref a :: st) := by
  intro p e s m args below meth c H locs k1 n1 ls X hE h1 h2 hR hS hl hc
  obtain ⟨x1, x2, x3, x4, x5, x6, x7, x8, x9⟩ := id X
  exact va_get x1 x2 x6 hu x5 x9.1 hR.1 n he hcl kf hk (x6 _ hw) (fun _ q => q) hv hd (k p e s m args below meth c H locs k1 n1 ls X hE h1 h2 hR hS hl hc)
theorem L_put {ci kf index n N a : Nat} {T : u_T} {Cn : String} {fs : List Value} {v : Value} {ty : FieldType} {ty0 : Nat → FieldType} (hd : decode (kc K) pc = .ok (.putfield index, 3)) (hw : Cond.fieldLink (ko K) index (T kf).1 (T kf).2.1 (T kf).2.2.1 ∈ gtbl) (hu : ∀ w ∈ u_ws Cn T N, w ∈ gtbl) (hty : ∀ k, k < N → parseFieldDescriptor (T k).2.2.1 = some (ty0 k)) (hnm : ∀ a, a < N → ∀ b, b < N → a ≠ b → (T a).2.1 ≠ (T b).2.1) (hcl : vwCl[ci]? = some (Cn, T, N)) (hk : kf < N) (hfin : (T kf).2.2.2 = false) (hdt : parseFieldDescriptor (T kf).2.2.1 = some ty) (hnar : narrow ty v = v) (hfit : fits ty v = true) (hlen : kf < fs.length) (he : ws[n]? = some (a, .inr (ci, fs))) (k : VL g A (EX A b) K R Qf kb nb (ws.set n (a, .inr (ci, fs.set kf v))) (pc + 3) lv st) : VL g A (EX A b) K R Qf kb nb ws pc lv (v :: .ref a :: st) := by
  intro p e s m args below meth c H locs k1 n1 ls X hE h1 h2 hR hS hl hc
  obtain ⟨x1, x2, x3, x4, x5, x6, x7, x8, x9⟩ := id X
  exact va_put x1 x2 x6 hu ty0 hty hnm x5 x9.1 hR.1 hR.2 hS n he hcl kf hk (x6 _ hw) (fun _ q => q) hfin hdt hnar hfit hlen hd (fun H1 locs1 hP hD hS1 => k p e s m args below meth c H1 locs1 k1 n1 ls X hE h1 h2 ⟨hP, hD⟩ hS1 hl hc)
theorem L_putF {ci kf index n N a : Nat} {T : u_T} {Cn : String} {fs : List Value} {v : Value} {ty : FieldType} {ty0 : Nat → FieldType} (hd : decode (kc K) pc = .ok (.putfield index, 3)) (hw : Cond.fieldLink (ko K) index (T kf).1 (T kf).2.1 (T kf).2.2.1 ∈ gtbl) (hu : ∀ w ∈ u_ws Cn T N, w ∈ gtbl) (hty : ∀ k, k < N → parseFieldDescriptor (T k).2.2.1 = some (ty0 k)) (hnm : ∀ a, a < N → ∀ b, b < N → a ≠ b → (T a).2.1 ≠ (T b).2.1) (hcl : vwCl[ci]? = some (Cn, T, N)) (hk : kf < N) (hfin : (T kf).2.2.2 = true) (hb : b.2 = true) (hdecl : (T kf).1 = ko K) (hdt : parseFieldDescriptor (T kf).2.2.1 = some ty) (hnar : narrow ty v = v) (hfit : fits ty v = true) (hlen : kf < fs.length) (he : ws[n]? = some (a, .inr (ci, fs))) (k : VL g A (EX A b) K R Qf kb nb (ws.set n (a, .inr (ci, fs.set kf v))) (pc + 3) lv st) : VL g A (EX A b) K R Qf kb nb ws pc lv (v :: .ref a :: st) := by
  intro p e s m args below meth c H locs k1 n1 ls X hE h1 h2 hR hS hl hc
  obtain ⟨x1, x2, x3, x4, x5, x6, x7, x8, x9⟩ := id X
  exact va_putF x1 x2 x6 hu ty0 hty hnm x5 x9.1 hR.1 hR.2 hS n he hcl kf hk (x6 _ hw) (fun _ q => q) hfin (hE.2.2 hb) hdecl hdt hnar hfit hlen hd (fun H1 locs1 hP hD hS1 => k p e s m args below meth c H1 locs1 k1 n1 ls X hE h1 h2 ⟨hP, hD⟩ hS1 hl hc)
theorem L_aald {n a t0 N : Nat} {cA : ClassId} {Cn : String} {f : Nat → Option Nat} {i : Int32} {j : Nat} (hd : decode (kc K) pc = .ok (.aaload, 1)) (he : ws[n]? = some (a, .inl (cA, N, .inr (.inr (.inr (.inr f)))))) (ht : (gtys g)[t0]? = some (cA, .object Cn)) (hi : inr i N j) (k : VL g A (EX A b) K R Qf kb nb ws (pc + 1) lv (va_rf (f j) :: st)) : VL g A (EX A b) K R Qf kb nb ws pc lv (.int i :: .ref a :: st) := by
  intro p e s m args below meth c H locs k1 n1 ls X hE h1 h2 hR hS hl hc
  obtain ⟨x1, x2, x3, x4, x5, x6, x7, x8, x9⟩ := id X
  have q := k p e s m args below meth c H locs k1 n1 ls X hE h1 h2 hR hS hl hc
  rw [← hi.2] at q
  exact va_aldq x1 x2 x9.1 hR.1 n t0 he ht hi.1 hd q
theorem L_aast {n a t0 N qk ci v : Nat} {cA : ClassId} {r : vw_C} {vs : List Value} {f : Nat → Option Nat} {i : Int32} {j : Nat} (hd : decode (kc K) pc = .ok (.aastore, 1)) (he : ws[n]? = some (a, .inl (cA, N, .inr (.inr (.inr (.inr f)))))) (hv : ws[qk]? = some (v, .inr (ci, vs))) (hcl : vwCl[ci]? = some r) (ht : (gtys g)[t0]? = some (cA, .object r.1)) (hi : inr i N j) (k : VL g A (EX A b) K R Qf kb nb (ws.set n (a, .inl (cA, N, .inr (.inr (.inr (.inr (va_up f j (some v)))))))) (pc + 1) lv st) : VL g A (EX A b) K R Qf kb nb ws pc lv (.ref v :: .int i :: .ref a :: st) := by
  intro p e s m args below meth c H locs k1 n1 ls X hE h1 h2 hR hS hl hc
  obtain ⟨x1, x2, x3, x4, x5, x6, x7, x8, x9⟩ := id X
  refine va_astq x1 x2 x9.1 hR.1 hR.2 hS n t0 qk ci he ht hv hcl hi.1 hd (fun H1 locs1 hP hD hS1 => ?_)
  rw [hi.2] at hP hD
  exact k p e s m args below meth c H1 locs1 k1 n1 ls X hE h1 h2 ⟨hP, hD⟩ hS1 hl hc
theorem L_iast {n a t0 N : Nat} {cA : ClassId} {f : Nat → Int32} {i x : Int32} {j : Nat} (hd : decode (kc K) pc = .ok (.iastore, 1)) (he : ws[n]? = some (a, .inl (cA, N, .inl f))) (ht : (gtys g)[t0]? = some (cA, .int)) (hi : inr i N j) (k : VL g A (EX A b) K R Qf kb nb (ws.set n (a, .inl (cA, N, .inl (upd f j x)))) (pc + 1) lv st) : VL g A (EX A b) K R Qf kb nb ws pc lv (.int x :: .int i :: .ref a :: st) := by
  intro p e s m args below meth c H locs k1 n1 ls X hE h1 h2 hR hS hl hc
  obtain ⟨x1, x2, x3, x4, x5, x6, x7, x8, x9⟩ := id X
  refine va_iast x1 x2 x9.1 hR.1 hR.2 hS n t0 he ht hi.1 hd (fun H1 locs1 hP hD hS1 => ?_)
  rw [hi.2] at hP hD
  exact k p e s m args below meth c H1 locs1 k1 n1 ls X hE h1 h2 ⟨hP, hD⟩ hS1 hl hc
theorem L_obj {index a : Nat} (hd : decode (kc K) pc = .ok (.invokespecial index, 3)) (hw : Cond.methodLink (ko K) index Lib.objectInit ∈ gtbl) (hR0 : 1 ≤ R.frames ∧ (st.map fun v => v.category).sum + 12 ≤ R.locals) (k : VL g A (EX A b) K R Qf kb nb ws (pc + 3) lv st) : VL g A (EX A b) K R Qf kb nb ws pc lv (.ref a :: st) := by
  intro p e s m args below meth c H locs k1 n1 ls X hE h1 h2 hR hS hl hc
  obtain ⟨x1, x2, x3, x4, x5, x6, x7, x8, x9⟩ := id X
  refine W.objInit x1 x2 x5 (x6 _ hw) (x6 _ w_23) (x6 _ w_24) rfl (hl.1.trans x4.symm) rfl hd hR0.1 ?_ (k p e s m args below meth c H locs k1 n1 ls X hE h1 h2 hR hS hl hc)
  show 2 * 0 + (st.map fun v => v.category).sum + 12 ≤ R.locals
  omega
theorem L_ctor {Y : MK} {idx j ci q n : Nat} {fs0 As stk : List Value} {mc ms : Nat} {by0 : Bool} {Po : va_E × va_W → Prop} (hM : ICt g Y by0 q ci fs0 As mc ms Po) (hAg : ∀ a, A a → gA g a) (hd : decode (kc K) pc = .ok (.invokespecial idx, 3)) (hlen : As.length = n) (hj : ws[j]? = some (q, .inr (ci, fs0))) (hb : by0 = true → b.1 = true) (hL : LI (ko K) idx Y n) (hR : kf Y + 1 ≤ R.frames ∧ 8 + (kL Y + 11) + klo Y ≤ R.locals) (hcs : kb + mc ≤ R.cells ∧ nb + ms ≤ R.slots) (hcat : (st.map fun v => v.category).sum ≤ 8) (hstk : stk = As.reverse ++ .ref q :: st)
    (k : ∀ e0 tl, Po (e0, tl) → VL g A (EX A b) K R Qf (kb + mc) (nb + ms) (ws.set j (q, e0) ++ tl) (pc + 3) lv st) : VL g A (EX A b) K R Qf kb nb ws pc lv stk := by
  intro p e s m args below meth c H locs k1 n1 ls X hE h1 h2 hR0 hS hl hc
  obtain ⟨x1, x2, x3, x4, x5, x6, x7, x8, x9⟩ := id X
  obtain ⟨l1, l2, l3, l4, l5, l6, l7⟩ := hL
  have hq : q < H.size := (hR0.1 j _ hj).lt
  have hqg : gA g q := hAg _ (hR0.2.2 j _ hj)
  have hszg : gN g ≤ H.size := Nat.le_trans hqg (Nat.le_of_lt hq)
  have hPq : va_P (gD g) vwCl [(q, .inr (ci, fs0))] H := va_P1 (hR0.1 j _ hj)
  have l4' : Cond.code (ky Y) (kc Y) (kL Y) (kr Y) ∈ gtbl := by rw [l5]; exact l4
  have hcb := cwI (R := R) (own := ko K) (index := idx) (rm := kR Y mc ms) (mc := mc) (ms := ms) n x6 (good_kws l4') (show kws Y = Cond.code (ky Y) (kc Y) (kL Y) none :: gtbl by unfold kws; rw [l5]) rfl rfl (x6 _ l3) (x6 _ l1) (x6 _ l2) l6 l7 hR
  have hrun := va_runI (g := F0 m pc ls stk) (l := gl g) (H := H) (locs := locs) (cells := k1) (slots := n1) (e := e) (below := below) (meth := meth) (rest := st) (As := As) ⟨x1, x2, x4, x5, x6⟩ (hM H.size hszg hqg hq) hcb ⟨fun a U jj mk z => ⟨z.1, z.2.1, z.2.2.1, z.2.2.2.1.calling jj mk a, fun hb0 => (z.2.2.2.2 hb0).calling jj mk a⟩, fun U hU hW => ⟨rfl, by rw [hU], by rw [hU]; exact hPq, Sx.to x9 hW (fun a ha hna => by rw [hU]; exact hS.2.1 a ha (fun z => hna (hAg a z))), fun z => (hE.2.1 (hb z)).warm hW⟩⟩ rfl hlen hl.1 hstk (lv_room hcat) hd ⟨by omega, by omega⟩
  refine va_callv hrun hS (fun a ha z => ?_) (fun a z => ?_) (fun u t H1 locs1 ht hvm hpo hB hz hk hS1 => ?_)
  · rcases z with z | z
    · exact absurd z (by omega)
    · rw [z]; exact hR0.2.2 j _ hj
  · rcases z with z | z
    · exact hE.1 a (Nat.le_trans hS.1 z)
    · rw [z]; exact hR0.2.2 j _ hj
  obtain ⟨e0, tl⟩ := u
  obtain ⟨hB1, hB2⟩ := hB
  rw [ht] at hB1
  have hjl : j < ws.length := (List.getElem?_eq_some_iff.mp hj).1
  have hP1 : va_P (gD g) vwCl (ws.set j (q, e0)) H1 := by
    intro i x hi
    by_cases ei : j = i
    · subst ei
      rw [List.getElem?_set_self hjl] at hi
      cases hi
      exact hB1 0 _ rfl
    · rw [List.getElem?_set_ne ei] at hi
      refine (hR0.1 i x hi).kept (hk x.1 (hR0.1 i x hi).lt ?_)
      rintro (z | z)
      · exact absurd (hR0.1 i x hi).lt (by omega)
      · exact ei (hR0.2.1 j i _ x hj hi z.symm)
  have hP2 : va_P (gD g) vwCl tl H1 := fun i x hi => hB1 (i + 1) x hi
  have htl : ∀ (i : Nat) (x : Nat × va_E), tl[i]? = some x → H.size ≤ x.1 := by
    intro i x hi
    rcases hB2.2 (i + 1) x hi with z | z
    · exact z
    · exact absurd (hB2.1 0 (i + 1) (q, e0) x rfl hi z.symm) (by omega)
  have hD2 : va_D A tl := ⟨fun i i' x y hi hi' z => by have := hB2.1 (i + 1) (i' + 1) x y hi hi' z; omega, fun i x hi => hE.1 _ (Nat.le_trans hS.1 (htl i x hi))⟩
  have hD1 := va_D.app (va_D.set (e := e0) hR0.2 hj) hD2 (fun i i' x y hi hi' z => by
    have q2 := htl i' y hi'
    have q3 : x.1 < H.size := by
      by_cases ei : j = i
      · subst ei
        rw [List.getElem?_set_self hjl] at hi
        cases hi
        exact hq
      · rw [List.getElem?_set_ne ei] at hi
        exact (hR0.1 i x hi).lt
    omega)
  exact k e0 tl hpo p e s m args below meth c H1 locs1 _ _ ls X hE (by omega) (by omega) ⟨va_P.app hP1 hP2, hD1⟩ hS1 hl hc
theorem L_ctorN {Y : MK} {host : String} {idx j ci q n : Nat} {fs0 As stk : List Value} {mc ms : Nat} {by0 : Bool} {Po : va_E × va_W → Prop} (hM : ICt g Y by0 q ci fs0 As mc ms Po) (hAg : ∀ a, A a → gA g a) (hd : decode (kc K) pc = .ok (.invokespecial idx, 3)) (hlen : As.length = n) (hj : ws[j]? = some (q, .inr (ci, fs0))) (hb : by0 = true → b.1 = true) (hL : LIN Y n) (hb1 : b.1 = true) (hnw : ∀ s, SN s → va_Nw (.methodLinkNest (ko K) idx (ky Y) host) s) (hR : kf Y + 1 ≤ R.frames ∧ 8 + (kL Y + 11) + klo Y ≤ R.locals) (hcs : kb + mc ≤ R.cells ∧ nb + ms ≤ R.slots) (hcat : (st.map fun v => v.category).sum ≤ 8) (hstk : stk = As.reverse ++ .ref q :: st)
    (k : ∀ e0 tl, Po (e0, tl) → VL g A (EX A b) K R Qf (kb + mc) (nb + ms) (ws.set j (q, e0) ++ tl) (pc + 3) lv st) : VL g A (EX A b) K R Qf kb nb ws pc lv stk := by
  intro p e s m args below meth c H locs k1 n1 ls X hE h1 h2 hR0 hS hl hc
  obtain ⟨x1, x2, x3, x4, x5, x6, x7, x8, x9⟩ := id X
  obtain ⟨l2, l3, l4, l5, l6, l7⟩ := hL
  have hq : q < H.size := (hR0.1 j _ hj).lt
  have hqg : gA g q := hAg _ (hR0.2.2 j _ hj)
  have hszg : gN g ≤ H.size := Nat.le_trans hqg (Nat.le_of_lt hq)
  have hPq : va_P (gD g) vwCl [(q, .inr (ci, fs0))] H := va_P1 (hR0.1 j _ hj)
  have l4' : Cond.code (ky Y) (kc Y) (kL Y) (kr Y) ∈ gtbl := by rw [l5]; exact l4
  have hcb := va_cnB (R := R) (own := ko K) (index := idx) (host := host) (rm := kR Y mc ms) (mc := mc) (ms := ms) n x6 (good_kws l4') (show kws Y = Cond.code (ky Y) (kc Y) (kL Y) none :: gtbl by unfold kws; rw [l5]) rfl rfl (hnw s (hE.2.1 hb1)) (x6 _ l3) l7 hR
  have hrun := va_runIN (g := F0 m pc ls stk) (l := gl g) (H := H) (locs := locs) (cells := k1) (slots := n1) (e := e) (below := below) (meth := meth) (rest := st) (As := As) ⟨x1, x2, x4, x5, x6⟩ (hM H.size hszg hqg hq) ⟨hcb, l6, x6 _ l2⟩ ⟨fun a U jj mk z => ⟨z.1, z.2.1, z.2.2.1, z.2.2.2.1.calling jj mk a, fun hb0 => (z.2.2.2.2 hb0).calling jj mk a⟩, fun U hU hW => ⟨rfl, by rw [hU], by rw [hU]; exact hPq, Sx.to x9 hW (fun a ha hna => by rw [hU]; exact hS.2.1 a ha (fun z => hna (hAg a z))), fun z => (hE.2.1 (hb z)).warm hW⟩⟩ rfl hlen hl.1 hstk (lv_room hcat) hd ⟨by omega, by omega⟩
  refine va_callv hrun hS (fun a ha z => ?_) (fun a z => ?_) (fun u t H1 locs1 ht hvm hpo hB hz hk hS1 => ?_)
  · rcases z with z | z
    · exact absurd z (by omega)
    · rw [z]; exact hR0.2.2 j _ hj
  · rcases z with z | z
    · exact hE.1 a (Nat.le_trans hS.1 z)
    · rw [z]; exact hR0.2.2 j _ hj
  obtain ⟨e0, tl⟩ := u
  obtain ⟨hB1, hB2⟩ := hB
  rw [ht] at hB1
  have hjl : j < ws.length := (List.getElem?_eq_some_iff.mp hj).1
  have hP1 : va_P (gD g) vwCl (ws.set j (q, e0)) H1 := by
    intro i x hi
    by_cases ei : j = i
    · subst ei
      rw [List.getElem?_set_self hjl] at hi
      cases hi
      exact hB1 0 _ rfl
    · rw [List.getElem?_set_ne ei] at hi
      refine (hR0.1 i x hi).kept (hk x.1 (hR0.1 i x hi).lt ?_)
      rintro (z | z)
      · exact absurd (hR0.1 i x hi).lt (by omega)
      · exact ei (hR0.2.1 j i _ x hj hi z.symm)
  have hP2 : va_P (gD g) vwCl tl H1 := fun i x hi => hB1 (i + 1) x hi
  have htl : ∀ (i : Nat) (x : Nat × va_E), tl[i]? = some x → H.size ≤ x.1 := by
    intro i x hi
    rcases hB2.2 (i + 1) x hi with z | z
    · exact z
    · exact absurd (hB2.1 0 (i + 1) (q, e0) x rfl hi z.symm) (by omega)
  have hD2 : va_D A tl := ⟨fun i i' x y hi hi' z => by have := hB2.1 (i + 1) (i' + 1) x y hi hi' z; omega, fun i x hi => hE.1 _ (Nat.le_trans hS.1 (htl i x hi))⟩
  have hD1 := va_D.app (va_D.set (e := e0) hR0.2 hj) hD2 (fun i i' x y hi hi' z => by
    have q2 := htl i' y hi'
    have q3 : x.1 < H.size := by
      by_cases ei : j = i
      · subst ei
        rw [List.getElem?_set_self hjl] at hi
        cases hi
        exact hq
      · rw [List.getElem?_set_ne ei] at hi
        exact (hR0.1 i x hi).lt
    omega)
  exact k e0 tl hpo p e s m args below meth c H1 locs1 _ _ ls X hE (by omega) (by omega) ⟨va_P.app hP1 hP2, hD1⟩ hS1 hl hc
end LMAKE
theorem L_vret {g : GT} {q : Nat} {E : State → Method → Prop} {K : MK} {mc ms sz kb nb pc : Nat} {lv : List (Nat × Value)} {e0 : va_E} {tl : va_W} {Po : va_E × va_W → Prop} (hd : decode (kc K) pc = .ok (.return_, 1)) (hr : kr K = none) (h1 : kb ≤ mc) (h2 : nb ≤ ms) (hp : Po (e0, tl)) : VL g (fun a => sz ≤ a ∨ a = q) E K (kR K mc ms) (fun below args s => MQ below (iR q Po g sz) args s mc ms (fun a => sz ≤ a ∨ a = q)) kb nb ((q, e0) :: tl) pc lv [] := by
  intro p e s m args below meth c H locs k1 n1 ls X hE q1 q2 hR hS hl hc
  obtain ⟨x1, x2, x3, x4, x5, x6, x7, x8, x9⟩ := id X
  refine W.widen (k := mc) (n := ms) (by omega) (by omega) ?_
  exact W.vret x1 x2 (x3.trans hr) (fun t ht hW => ⟨⟨(e0, tl), rfl, hp, by rw [ht]; exact hR.1, hR.2⟩, hS.F ht⟩) hS.2.2 hd x7
