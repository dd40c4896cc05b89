/-! contracts over our world: entry, returns, throws, calls -/
abbrev PT : Type := Option Value → St → St → Int64 → Prop
abbrev XT : Type := String → St → St → Int64 → Prop
def vQ (g : GT) (nt : Nat) (Po : PT) : Array Value → State → Outcome → State → Prop := fun _ st oc t => ∃ (v : Option Value) (h : Nat × Nat) (C M : St) (o : Int64), oc = .returned v ∧ Po v C M o ∧ Rep g nt h C M o t.heap ∧ va_F (gA g) st t
def vX (g : GT) (nt : Nat) (Px : XT) : String → State → State → Prop := fun E st t => ∃ (h : Nat × Nat) (C M : St) (o : Int64), Px E C M o ∧ Rep g nt h C M o t.heap ∧ va_F (gA g) st t
def kR (K : MK) (mc ms : Nat) : Room := { frames := kf K, cells := mc, slots := ms, locals := klo K }
def MT (g : GT) (K : MK) (mc ms : Nat) (av : List Value) (nt : Nat) (C M : St) (o : Int64) (Po : PT) (Px : XT) : Prop := ∀ h, vx_Met (gl g) (ky K) (kws K) (kR K mc ms) (va_Pc av (World g nt h C M o)) (vQ g nt Po) (vX g nt Px) mc ms (gA g)
def qM (g : GT) (mc ms nt : Nat) (Po : PT) (Px : XT) : QT := fun below args s => vx_MQ below (vQ g nt Po) (vX g nt Px) args s mc ms (gA g)
def larg : Nat → List Value → List (Nat × Value)
  | _, [] => []
  | i, v :: vs => (i, v) :: larg (i + 1) vs
theorem lg_sl1 : ∀ {vs : List Value}, (∀ v ∈ vs, v.category = 1) → lg_sl vs = vs.map Slot.val
  | [], _ => rfl
  | v :: vs, h => by
    have h1 := h v List.mem_cons_self
    have ih := lg_sl1 (vs := vs) (fun w hw => h w (List.mem_cons_of_mem _ hw))
    unfold lg_sl at ih ⊢
    rw [List.flatMap_cons, ih, if_neg (by omega)]
    rfl
theorem lv_args1 : ∀ {vs : List Value} {i : Nat}, (∀ v ∈ vs, v.category = 1) → lv_args i vs = larg i vs
  | [], _, _ => rfl
  | v :: vs, i, h => by
    have h1 := h v List.mem_cons_self
    have ih := lv_args1 (vs := vs) (i := i + 1) (fun w hw => h w (List.mem_cons_of_mem _ hw))
    unfold lv_args larg
    rw [if_neg (by omega), ih]
theorem larg_cat : ∀ {vs : List Value} {i : Nat}, (∀ v ∈ vs, v.category = 1) → ∀ q ∈ larg i vs, q.2.category = 1
  | [], _, _, q, hq => by cases hq
  | v :: vs, i, h, q, hq => by
    rcases List.mem_cons.mp hq with rfl | hq
    · exact h v List.mem_cons_self
    · exact larg_cat (fun w hw => h w (List.mem_cons_of_mem _ hw)) q hq
theorem Sx.calling {g : GT} {U : State} (h : Sx g U) (j : JFrame) (mk : MethodId) (a : Array Value) : Sx g (U.calling j mk a) := by
  obtain ⟨h1, h2, h3, h4, h5, h7, h6⟩ := h
  refine ⟨va_K.moved (u := U) (U := U.calling j mk a) (Vm.Alike.refl U.vm) h1, vx_Zq.moved (u := U) (U := U.calling j mk a) (Vm.Alike.refl U.vm) h2, vx_Zq.moved (u := U) (U := U.calling j mk a) (Vm.Alike.refl U.vm) h3, fun q hq => ?_, ⟨fun q hq => cast_moved (u := U) (U := U.calling j mk a) (Vm.Alike.refl U.vm) (h5.1 q hq), fun q hq => va_Nc.moved (u := U) (U := U.calling j mk a) (Vm.Alike.refl U.vm) (h5.2.1 q hq), h5.2.2⟩, fun q hq => dec_moved (u := U) (U := U.calling j mk a) (Vm.Alike.refl U.vm) (h7 q hq), h6⟩
  obtain ⟨x, hx⟩ := h4 q hq
  exact ⟨x, vk_R.same (u := U) (U := U.calling j mk a) rfl hx⟩
theorem blindW {av : List Value} {g : GT} {nt : Nat} {h : Nat × Nat} {C M : St} {o : Int64} : FrameBlind (va_Pc av (World g nt h C M o)) := by
  intro a U j mk q
  exact ⟨q.1, q.2.1, q.2.2.calling j mk a⟩
theorem MT_of {g : GT} {K : MK} {mc ms : Nat} {av : List Value} {nt : Nat} {C M : St} {o : Int64} {Po : PT} {Px : XT} (hy : plainName (ky K).cls = true) (hown : ko K = (ky K).cls) (hh : kh K = []) (hlen : av.length ≤ kL K) (hcat : ∀ v ∈ av, v.category = 1) (body : ∀ h, V g K (kR K mc ms) (qM g mc ms nt Po Px) 0 0 nt h C M o 0 (larg 0 av) []) : MT g K mc ms av nt C M o Po Px := by
  intro h
  refine vx_ofW (cc := kc K) (maxL := kL K) (ret := kr K) hy rfl ?_
  intro p e s m args below meth c s₁ B hml ht hv
  obtain ⟨rfl, hR, hSx⟩ := hv
  have hts := atoms_spec (ws := kws K) B.pre
  have hown' : s.vm.findClass (ko K) = some m.cls := by rw [hown]; exact findClass_of_methodNamed B.named
  have hl := lv_entry av (n := kL K) (by rw [lg_sl1 hcat, List.length_map]; exact hlen)
  rw [lv_args1 hcat] at hl
  rw [lg_entry_eq]
  have htab : c.exceptionTable.toList = tableOf (kh K) := by
    rw [hh]
    exact List.eq_nil_iff_forall_not_mem.mpr (fun x hx => ht x hx)
  exact body h p e s m _ below meth c s.heap [] 0 0 _ ⟨B.exec, B.bytes, B.returns, hml, hown', fun w hw => hts w (List.mem_cons_of_mem _ hw), B.notSynchronized, htab, hSx⟩ (Nat.le_refl _) (Nat.le_refl _) hR va_S.rf hl (larg_cat hcat)
section RET
variable {g : GT} {K : MK} {mc ms nt : Nat} {Po : PT} {Px : XT} {kb nb : Nat} {h : Nat × Nat} {C M : St} {o : Int64} {pc : Nat} {lv : List (Nat × Value)}
theorem V_iret {x : Int32} (hd : decode (kc K) pc = .ok (.ireturn, 1)) (hr : kr K = some .int) (hk : kb ≤ mc) (hn : nb ≤ ms) (hp : Po (some (.int x)) C M o) : V g K (kR K mc ms) (qM g mc ms nt Po Px) kb nb nt h C M o pc lv [.int x] := by
  intro p e s m args below meth c H locs k1 n1 ls X h1 h2 hR hS hl hc
  obtain ⟨x1, x2, x3, x4, x5, x6, hlocks, x8, x9⟩ := id X
  refine vx_ret ?_
  refine W.widen (k := mc) (n := ms) (Nat.le_trans h1 hk) (Nat.le_trans h2 hn) ?_
  exact W.iret x1 x2 (x3.trans hr) (fun t ht hW => ⟨_, h, C, M, o, rfl, hp, by rw [ht]; exact hR, hS.F ht⟩) hS.2.2 hd
theorem V_zret {x : Int32} (hd : decode (kc K) pc = .ok (.ireturn, 1)) (hr : kr K = some .boolean) (hb : narrow .boolean (.int x) = .int x) (hk : kb ≤ mc) (hn : nb ≤ ms) (hp : Po (some (.int x)) C M o) : V g K (kR K mc ms) (qM g mc ms nt Po Px) kb nb nt h C M o pc lv [.int x] := by
  intro p e s m args below meth c H locs k1 n1 ls X h1 h2 hR hS hl hc
  obtain ⟨x1, x2, x3, x4, x5, x6, hlocks, x8, x9⟩ := id X
  refine vx_ret ?_
  refine W.widen (k := mc) (n := ms) (Nat.le_trans h1 hk) (Nat.le_trans h2 hn) ?_
  exact W.zret x1 x2 (x3.trans hr) hb (fun t ht hW => ⟨_, h, C, M, o, rfl, hp, by rw [ht]; exact hR, hS.F ht⟩) hS.2.2 hd
theorem V_vret (hd : decode (kc K) pc = .ok (.return_, 1)) (hr : kr K = none) (hk : kb ≤ mc) (hn : nb ≤ ms) (hp : Po none C M o) : V g K (kR K mc ms) (qM g mc ms nt Po Px) kb nb nt h C M o pc lv [] := by
  intro p e s m args below meth c H locs k1 n1 ls X h1 h2 hR hS hl hc
  obtain ⟨x1, x2, x3, x4, x5, x6, hlocks, x8, x9⟩ := id X
  refine vx_ret ?_
  refine W.widen (k := mc) (n := ms) (Nat.le_trans h1 hk) (Nat.le_trans h2 hn) ?_
  exact W.vret x1 x2 (x3.trans hr) (fun t ht hW => ⟨_, h, C, M, o, rfl, hp, by rw [ht]; exact hR, hS.F ht⟩) hS.2.2 hd
theorem V_aret {r : Option Nat} {Cn : String} (hd : decode (kc K) pc = .ok (.areturn, 1)) (hr : kr K = some (.object Cn)) (hk : kb ≤ mc) (hn : nb ≤ ms) (hp : Po (some (va_rf r)) C M o) : V g K (kR K mc ms) (qM g mc ms nt Po Px) kb nb nt h C M o pc lv [va_rf r] := by
  intro p e s m args below meth c H locs k1 n1 ls X h1 h2 hR hS hl hc
  obtain ⟨x1, x2, x3, x4, x5, x6, hlocks, x8, x9⟩ := id X
  refine vx_ret ?_
  refine W.widen (k := mc) (n := ms) (Nat.le_trans h1 hk) (Nat.le_trans h2 hn) ?_
  exact W.aret x1 x2 (x3.trans hr) (Or.inl ⟨_, rfl⟩) (by cases r with | none => exact Or.inl rfl | some a => exact Or.inr ⟨a, rfl⟩) (fun t ht hW => ⟨_, h, C, M, o, rfl, hp, by rw [ht]; exact hR, hS.F ht⟩) hS.2.2 hd
theorem Rep.kept {g : GT} {nt : Nat} {h : Nat × Nat} {C M : St} {o : Int64} {H H1 : Heap} (hR : Rep g nt h C M o H) (hq : ∀ q : Nat, q < H.size → H1[q]? = H[q]?) : Rep g nt h C M o H1 := ⟨hR.1.kept (fun k q hk => hq q.1 (hR.1 k q hk).lt), hR.2⟩
theorem V_throw {cls text : String} {ik is ic : Nat} (ho : ko K = RX4) (hh : kh K = []) (hcls : Bundle.fit cls = true) (hk : Cond.classLink RX4 ik cls ∈ gtbl) (hini : Cond.initialized cls ∈ gtbl) (hstr : (RX4, is, text) ∈ strT) (hat : ∀ w ∈ vx_atS RX4 ic cls ["java/lang/RuntimeException", "java/lang/Exception"], w ∈ gtbl ∨ w = Cond.castable cls cls ∨ ∃ y ∈ decT, w = Cond.declares y) (hca : (cls, cls) ∈ castT) (hgood : ∀ w ∈ Cond.classLink RX4 ik cls :: Cond.initialized cls :: vx_atS RX4 ic cls ["java/lang/RuntimeException", "java/lang/Exception"], vx_ot w = true)
    (d0 : decode (kc K) pc = .ok (.new ik, 3)) (d3 : decode (kc K) (pc + 3) = .ok (.dup, 1)) (d4 : decode (kc K) (pc + 4) = .ok (.ldc is, 2)) (d6 : decode (kc K) (pc + 6) = .ok (.invokespecial ic, 3)) (d9 : decode (kc K) (pc + 9) = .ok (.athrow, 1)) (hf : 5 < kf K) (hlo : 82 ≤ klo K) (hc : kb + 1 ≤ mc) (hs : nb + 6 ≤ ms) (hp : Px cls C M o) : V g K (kR K mc ms) (qM g mc ms nt Po Px) kb nb nt h C M o pc lv [] := by
  intro p e s m args below meth c H locs k1 n1 ls X h1 h2 hR hS hl hcc
  obtain ⟨x1, x2, x3, x4, x5, x6, hlocks, x8, x9⟩ := id X
  obtain ⟨s1, s2, s3, s4, s5, s7, s6⟩ := id x9
  obtain ⟨sa, hsa⟩ := s4 _ hstr
  have x5' : s.vm.findClass RX4 = some m.cls := by rw [← ho]; exact x5
  refine vx_throwS (names := ["java/lang/RuntimeException", "java/lang/Exception"]) (A := gA g) (own := RX4) (cls := cls) (text := text) (ik := ik) (is := is) (ic := ic) (sa := sa) x1 x2 s6 x5' hcls (by decide +kernel) (x6 _ hk) (x6 _ hini) hsa (fun w hw => ?_) hgood s2 s3 hS (hl.1.trans x4.symm) d0 d3 d4 d6 d9 ?_ (by show 5 < _; exact hf) (by show _ ≤ klo K; simpa using hlo) (by show k1 + 1 ≤ mc; omega) (by show n1 + 6 ≤ ms; omega) hlocks ?_ hS.2.2 (by omega) (by omega)
  · rcases hat w hw with q | q | ⟨y, hy, q⟩
    · exact x6 w q
    · rw [q]
      exact cast_moved (Vm.Alike.refl s.vm) (s5.1 _ hca)
    · rw [q]
      exact dec_moved (Vm.Alike.refl s.vm) (s7 y hy)
  · have x8' : c.exceptionTable.toList = tableOf (kh K) := x8
    rw [x8', hh]
    intro x hx
    cases hx
  · intro t hA hz hq
    exact ⟨h, C, M, o, hp, Rep.kept hR hq, Nat.le_trans hS.1 hz, fun q h3 h4 => (hq q (Nat.lt_of_lt_of_le h3 hS.1)).trans (hS.2.1 q h3 h4)⟩
end RET
/-- a thrown exception over this frame -/
def VX (g : GT) (K : MK) (R : Room) (Qf : QT) (kb nb nt : Nat) (h : Nat × Nat) (C M : St) (o : Int64) (pc : Nat) (lv : List (Nat × Value)) (st : List Value) (E : String) : Prop :=
  ∀ (p : Program) (e : Env) (s : State) (m : MethodId) (args : Array Value) (below : List Frame) (meth : Method) (c : Code) (H : Heap) (locs : List Loc) (k n : Nat) (ls : Array Slot) (q9 : Nat) (ce : Cell),
    Cx g K p s m args meth c → k ≤ kb → n ≤ nb → Rep g nt h C M o H → va_S (gA g) s.heap H locs → lv_has ls (kL K) lv → (∀ q ∈ lv, q.2.category = 1) → H[q9]? = some ce → ce.vm = .none → s.vm.findClass E = some ce.cls →
    vx_W p (gl g) e R s m args below meth c H locs k n (Qf below args s) (F0 m pc ls st) q9
theorem VX_out {g : GT} {K : MK} {mc ms nt : Nat} {Po : PT} {Px : XT} {kb nb : Nat} {h : Nat × Nat} {C M : St} {o : Int64} {pc : Nat} {lv : List (Nat × Value)} {st : List Value} {E : String} (hh : kh K = []) (hk : kb ≤ mc) (hn : nb ≤ ms) (hp : Px E C M o) : VX g K (kR K mc ms) (qM g mc ms nt Po Px) kb nb nt h C M o pc lv st E := by
  intro p e s m args below meth c H locs k1 n1 ls q9 ce X h1 h2 hR hS hl hc hce hv hcl
  obtain ⟨x1, x2, x3, x4, x5, x6, hlocks, x8, x9⟩ := id X
  have x8' : c.exceptionTable.toList = tableOf (kh K) := x8
  refine vx_out (by rw [x8', hh]; intro x hx; cases hx) hlocks hce hv hcl (fun t ht hA => ⟨h, C, M, o, hp, by rw [ht]; exact hR, hS.F ht⟩) hS.2.2 (Nat.le_trans h1 hk) (Nat.le_trans h2 hn)
def LV (own : String) (idx : Nat) (Cn : String) (K : MK) (n : Nat) : Prop := Cond.methodLink own idx (ky K) ∈ gtbl ∧ Cond.instanceMethod (ky K) ∈ gtbl ∧ Cond.selects Cn (ky K) (ky K) ∈ gtbl ∧ Cond.initialized (ky K).cls ∈ gtbl ∧ Cond.code (ky K) (kc K) (kL K) (kr K) ∈ gtbl ∧ ((ky K).cls ≠ "java/lang/invoke/MethodHandle" ∧ (ky K).cls ≠ "java/lang/invoke/VarHandle" ∧ (parseMethodDescriptor (ky K).desc).map (fun d => d.parameters.length) = some n)
def LSt (own : String) (idx : Nat) (K : MK) (n : Nat) : Prop := Cond.methodLink own idx (ky K) ∈ gtbl ∧ Cond.static (ky K) ∈ gtbl ∧ Cond.initialized (ky K).cls ∈ gtbl ∧ Cond.code (ky K) (kc K) (kL K) (kr K) ∈ gtbl ∧ ((ky K).cls ≠ "java/lang/invoke/MethodHandle" ∧ (ky K).cls ≠ "java/lang/invoke/VarHandle" ∧ (parseMethodDescriptor (ky K).desc).map (fun d => d.parameters.length) = some n)
theorem good_kws {K : MK} (hc : Cond.code (ky K) (kc K) (kL K) (kr K) ∈ gtbl) : GoodIn gtbl (kws K) := by
  intro w hw
  rcases List.mem_cons.mp hw with rfl | hw
  · exact ⟨hc, good_of_word (gtbl_good hc)⟩
  · exact ⟨hw, good_of_word (gtbl_good hw)⟩
section CALL
variable {g : GT} {K : MK} {R : Room} {Qf : QT} {kb nb nt : Nat} {h : Nat × Nat} {C M : St} {o : Int64} {pc : Nat} {lv : List (Nat × Value)} {st : List Value} {Y : MK} {mc ms : Nat} {Po : PT} {Px : XT}
theorem V_run {As st0 : List Value} {p : Program} {e : Env} {s : State} {m : MethodId} {args : Array Value} {below : List Frame} {meth : Method} {c : Code} {H : Heap} {locs : List Loc} {k n : Nat} {ls : Array Slot}
    (hr : vx_Run p (gl g) e R s m args below meth c H locs k n mc ms (F0 m pc ls st0) st (vQ g nt Po As.toArray) (vX g nt Px) (gA g)) (X : Cx g K p s m args meth c) (h1 : k ≤ kb) (h2 : n ≤ nb) (hS : va_S (gA g) s.heap H locs) (hl : lv_has ls (kL K) lv) (hc : ∀ q ∈ lv, q.2.category = 1)
    (kk : ∀ v h' C' M' o', Po v C' M' o' → V g K R Qf (kb + mc) (nb + ms) nt h' C' M' o' (pc + 3) lv (v.toList ++ st)) (kx : ∀ E h' C' M' o', Px E C' M' o' → VX g K R Qf (kb + mc) (nb + ms) nt h' C' M' o' pc lv st E) : W p (gl g) e R s m args below meth c H locs k n (Qf below args s) (F0 m pc ls st0) := by
  intro T hT X0
  rcases hr T hT X0 with ⟨v, st₀, t, T', L, h0, X', hL, e1, e2, ⟨v', h', C', M', o', hv, hp, hR', hF⟩, stp⟩ | ⟨q, st₀, t, T', L, E, ce, h0, X', hL, e1, e2, ⟨h', C', M', o', hp, hR', hF⟩, hce, hcv, hcl, stp⟩
  · cases hv
    obtain ⟨k1, k2, k3⟩ := vx_keep h0 e1 hS (fun q _ z => z) (fun q z => z) hL hF
    obtain ⟨t2, a1, b1⟩ := kk v h' C' M' o' hp p e s m args below meth c T'.heap (locs ++ L) (k + mc) (n + ms) ls X (by omega) (by omega) (by rw [e1]; exact hR') k3 hl hc T' rfl X'
    exact ⟨t2, stp t2 a1, b1⟩
  · obtain ⟨k1, k2, k3⟩ := vx_keep h0 e1 hS (fun q _ z => z) (fun q z => z) hL hF
    obtain ⟨t2, a1, b1⟩ := kx E h' C' M' o' hp p e s m args below meth c T'.heap (locs ++ L) (k + mc) (n + ms) ls q ce X (by omega) (by omega) (by rw [e1]; exact hR') k3 hl hc (by rw [e1]; exact hce) hcv hcl T' rfl X'
    exact ⟨t2, stp.trans a1, b1⟩
def rcv (g : GT) (nt : Nat) (h : Nat × Nat) (C M : St) (o : Int64) (b : Nat) (Cn : String) : Prop := ∃ (n ci : Nat) (q : vw_C) (fs : List Value), n < 73 + 4 * nt ∧ b = hp g h n ∧ ent g h C M o n = .inr (ci, fs) ∧ vwCl[ci]? = some q ∧ q.1 = Cn
theorem V_callV {idx n b : Nat} {Cn : String} {As : List Value} (hM : MT g Y mc ms (.ref b :: As) nt C M o Po Px) (hL : LV (ko K) idx Cn Y n) (hd : decode (kc K) pc = .ok (.invokevirtual idx, 3)) (hn : As.length = n) (hrc : rcv g nt h C M o b Cn) (hro : kf Y + 1 ≤ R.frames ∧ 8 + (kL Y + 11) + klo Y ≤ R.locals) (hcs : kb + mc ≤ R.cells ∧ nb + ms ≤ R.slots) (hcat : (st.map fun v => v.category).sum ≤ 8)
    (kk : ∀ v h' C' M' o', Po v C' M' o' → V g K R Qf (kb + mc) (nb + ms) nt h' C' M' o' (pc + 3) lv (v.toList ++ st)) (kx : ∀ E h' C' M' o', Px E C' M' o' → VX g K R Qf (kb + mc) (nb + ms) nt h' C' M' o' pc lv st E) {st0 : List Value} (hst : st0 = As.reverse ++ .ref b :: st) : V g K R Qf kb nb nt h C M o pc lv st0 := by
  intro p e s m args below meth c H locs k1 n1 ls X h1 h2 hR hS hl hc
  subst hst
  obtain ⟨x1, x2, x3, x4, x5, x6, x7, x8, x9⟩ := id X
  obtain ⟨l1, l2, l3, l4, l5, l6⟩ := hL
  obtain ⟨n0, ci, q, fs, r1, r2, r3, r4, r5⟩ := hrc
  have hrecv := va_recv x9.1 hR.1 r4 (q0 := n0) (fs := fs) ((wld_at r1).trans (by rw [r3]))
  rw [r5, ← r2] at hrecv
  have hcb := callB_of (R := R) (own := ko K) (index := idx) (rm := kR Y mc ms) (mc := mc) (ms := ms) n x6 (good_kws l5) rfl rfl rfl (x6 _ l4) (x6 _ l1) l6 hro
  exact V_run (vx_runV ⟨x1, x2, x4, x5, x6⟩ (hM h) ⟨hcb, x6 _ l2, x6 _ l3⟩ ⟨blindW, hrecv, fun U hU hW => ⟨rfl, by rw [hU]; exact hR, x9.to hW (fun a ha hna => by rw [hU]; exact hS.2.1 a ha hna)⟩⟩ rfl hn hl.1 rfl (lv_room hcat) hd ⟨by omega, by omega⟩) X h1 h2 hS hl hc kk kx
theorem V_callS {idx n : Nat} {As : List Value} (hM : MT g Y mc ms As nt C M o Po Px) (hL : LSt (ko K) idx Y n) (hd : decode (kc K) pc = .ok (.invokestatic idx, 3)) (hn : As.length = n) (hro : kf Y + 1 ≤ R.frames ∧ 8 + (kL Y + 11) + klo Y ≤ R.locals) (hcs : kb + mc ≤ R.cells ∧ nb + ms ≤ R.slots) (hcat : (st.map fun v => v.category).sum ≤ 8)
    (kk : ∀ v h' C' M' o', Po v C' M' o' → V g K R Qf (kb + mc) (nb + ms) nt h' C' M' o' (pc + 3) lv (v.toList ++ st)) (kx : ∀ E h' C' M' o', Px E C' M' o' → VX g K R Qf (kb + mc) (nb + ms) nt h' C' M' o' pc lv st E) {st0 : List Value} (hst : st0 = As.reverse ++ st) : V g K R Qf kb nb nt h C M o pc lv st0 := by
  intro p e s m args below meth c H locs k1 n1 ls X h1 h2 hR hS hl hc
  subst hst
  obtain ⟨x1, x2, x3, x4, x5, x6, x7, x8, x9⟩ := id X
  obtain ⟨l1, l3, l4, l5, l6⟩ := hL
  have hcb := callB_of (R := R) (own := ko K) (index := idx) (rm := kR Y mc ms) (mc := mc) (ms := ms) n x6 (good_kws l5) rfl rfl rfl (x6 _ l4) (x6 _ l1) l6 hro
  exact V_run (vx_runS ⟨x1, x2, x4, x5, x6⟩ (hM h) ⟨hcb, x6 _ l3⟩ ⟨blindW, fun U hU hW => ⟨rfl, by rw [hU]; exact hR, x9.to hW (fun a ha hna => by rw [hU]; exact hS.2.1 a ha hna)⟩⟩ rfl hn hl.1 rfl (lv_room hcat) hd ⟨by omega, by omega⟩) X h1 h2 hS hl hc kk kx
theorem rcv_4 : rcv g nt h C M o (ad g 0) RX4 := ⟨0, 4, _, _, by omega, (hp_ad (by decide) (by decide)).symm, ent_fix (by decide), rfl, rfl⟩
theorem rcv_1 : rcv g nt h C M o (ad g 4) RX1 := ⟨4, 1, _, _, by omega, (hp_ad (by decide) (by decide)).symm, ent_fix (by decide), rfl, rfl⟩
theorem rcv_5 : rcv g nt h C M o (ad g 10) RX5 := ⟨10, 5, _, _, by omega, (hp_ad (by decide) (by decide)).symm, ent_fix (by decide), rfl, rfl⟩
theorem rcv_2 {i : Nat} (hi : i < 4) : rcv g nt h C M o (ad g (37 + i)) RX2 := ⟨37 + i, 2, _, _, by omega, (hp_ad (by omega) (by omega)).symm, ent_node hi, rfl, rfl⟩
theorem rcv_0 {i : Nat} (hi : i < 32) : rcv g nt h C M o (ad g (41 + i)) RX0 := ⟨41 + i, 0, _, _, by omega, (hp_ad (by omega) (by omega)).symm, ent_cell hi, rfl, rfl⟩
theorem rcv_3 {t : Int32} (ht : tok nt t) : rcv g nt h C M o (hp g h (73 + 4 * t.toNatClampNeg)) RX3 := ⟨73 + 4 * t.toNatClampNeg, 3, _, _, by have := ht.2; omega, rfl, ent_txO, rfl, rfl⟩
/-- returns x, the cells behind as C1, M1, o1 -/
def RET (g : GT) (Y : MK) (mc ms : Nat) (av : List Value) (nt : Nat) (C M : St) (o : Int64) (v : Option Value) (C1 M1 : St) (o1 : Int64) : Prop := MT g Y mc ms av nt C M o (fun v' C' M' o' => v' = v ∧ C' = C1 ∧ M' = M1 ∧ o' = o1) (fun _ _ _ _ => False)
/-- throws E, nothing changed -/
def THR (g : GT) (Y : MK) (mc ms : Nat) (av : List Value) (nt : Nat) (C M : St) (o : Int64) (E : String) : Prop := MT g Y mc ms av nt C M o (fun _ _ _ _ => False) (fun E' C' M' o' => E' = E ∧ C' = C ∧ M' = M ∧ o' = o)
theorem R_vb0 {idx : Nat} {Cn : String} {b : Nat} {w : Value} {C1 M1 : St} {o1 : Int64} (hM : RET g Y mc ms ([.ref b]) nt C M o (some w) C1 M1 o1) (hL : LV (ko K) idx Cn Y 0) (hd : decode (kc K) pc = .ok (.invokevirtual idx, 3)) (hrc : rcv g nt h C M o b Cn) (hro : kf Y + 1 ≤ R.frames ∧ 8 + (kL Y + 11) + klo Y ≤ R.locals) (hcs : kb + mc ≤ R.cells ∧ nb + ms ≤ R.slots) (hcat : (st.map fun v => v.category).sum ≤ 8) (kk : ∀ h1, V g K R Qf (kb + mc) (nb + ms) nt h1 C1 M1 o1 (pc + 3) lv (w :: st)) : V g K R Qf kb nb nt h C M o pc lv (.ref b :: st) := by
  exact V_callV hM hL hd rfl hrc hro hcs hcat (fun v h2 C2 M2 o2 q => by obtain ⟨rfl, rfl, rfl, rfl⟩ := q; exact kk h2) (fun _ _ _ _ _ q => q.elim) rfl
theorem R_vt0 {idx : Nat} {t : Int32} {w : Value} {C1 M1 : St} {o1 : Int64} (ht : tok nt t) (hM : RET g Y mc ms ([va_rf (trO g t)]) nt C M o (some w) C1 M1 o1) (hL : LV (ko K) idx RX3 Y 0) (hd : decode (kc K) pc = .ok (.invokevirtual idx, 3)) (hro : kf Y + 1 ≤ R.frames ∧ 8 + (kL Y + 11) + klo Y ≤ R.locals) (hcs : kb + mc ≤ R.cells ∧ nb + ms ≤ R.slots) (hcat : (st.map fun v => v.category).sum ≤ 8) (kk : ∀ h1, V g K R Qf (kb + mc) (nb + ms) nt h1 C1 M1 o1 (pc + 3) lv (w :: st)) : V g K R Qf kb nb nt h C M o pc lv (va_rf (trO g t) :: st) := by
  rw [tok_rf (h := h) ht] at hM ⊢
  exact V_callV hM hL hd rfl (rcv_3 ht) hro hcs hcat (fun v h2 C2 M2 o2 q => by obtain ⟨rfl, rfl, rfl, rfl⟩ := q; exact kk h2) (fun _ _ _ _ _ q => q.elim) rfl
theorem R_vs0 {idx : Nat} {w : Value} {C1 M1 : St} {o1 : Int64} (hM : RET g Y mc ms [] nt C M o (some w) C1 M1 o1) (hL : LSt (ko K) idx Y 0) (hd : decode (kc K) pc = .ok (.invokestatic idx, 3)) (hro : kf Y + 1 ≤ R.frames ∧ 8 + (kL Y + 11) + klo Y ≤ R.locals) (hcs : kb + mc ≤ R.cells ∧ nb + ms ≤ R.slots) (hcat : (st.map fun v => v.category).sum ≤ 8) (kk : ∀ h', V g K R Qf (kb + mc) (nb + ms) nt h' C1 M1 o1 (pc + 3) lv (w :: st)) : V g K R Qf kb nb nt h C M o pc lv (st) := by
  exact V_callS hM hL hd rfl hro hcs hcat (fun v h2 C2 M2 o2 q => by obtain ⟨rfl, rfl, rfl, rfl⟩ := q; exact kk h2) (fun _ _ _ _ _ q => q.elim) rfl
theorem R_nb0 {idx : Nat} {Cn : String} {b : Nat} {C1 M1 : St} {o1 : Int64} (hM : RET g Y mc ms ([.ref b]) nt C M o none C1 M1 o1) (hL : LV (ko K) idx Cn Y 0) (hd : decode (kc K) pc = .ok (.invokevirtual idx, 3)) (hrc : rcv g nt h C M o b Cn) (hro : kf Y + 1 ≤ R.frames ∧ 8 + (kL Y + 11) + klo Y ≤ R.locals) (hcs : kb + mc ≤ R.cells ∧ nb + ms ≤ R.slots) (hcat : (st.map fun v => v.category).sum ≤ 8) (kk : ∀ h1, V g K R Qf (kb + mc) (nb + ms) nt h1 C1 M1 o1 (pc + 3) lv (st)) : V g K R Qf kb nb nt h C M o pc lv (.ref b :: st) := by
  exact V_callV hM hL hd rfl hrc hro hcs hcat (fun v h2 C2 M2 o2 q => by obtain ⟨rfl, rfl, rfl, rfl⟩ := q; exact kk h2) (fun _ _ _ _ _ q => q.elim) rfl
theorem R_nt0 {idx : Nat} {t : Int32} {C1 M1 : St} {o1 : Int64} (ht : tok nt t) (hM : RET g Y mc ms ([va_rf (trO g t)]) nt C M o none C1 M1 o1) (hL : LV (ko K) idx RX3 Y 0) (hd : decode (kc K) pc = .ok (.invokevirtual idx, 3)) (hro : kf Y + 1 ≤ R.frames ∧ 8 + (kL Y + 11) + klo Y ≤ R.locals) (hcs : kb + mc ≤ R.cells ∧ nb + ms ≤ R.slots) (hcat : (st.map fun v => v.category).sum ≤ 8) (kk : ∀ h1, V g K R Qf (kb + mc) (nb + ms) nt h1 C1 M1 o1 (pc + 3) lv (st)) : V g K R Qf kb nb nt h C M o pc lv (va_rf (trO g t) :: st) := by
  rw [tok_rf (h := h) ht] at hM ⊢
  exact V_callV hM hL hd rfl (rcv_3 ht) hro hcs hcat (fun v h2 C2 M2 o2 q => by obtain ⟨rfl, rfl, rfl, rfl⟩ := q; exact kk h2) (fun _ _ _ _ _ q => q.elim) rfl
theorem R_ns0 {idx : Nat} {C1 M1 : St} {o1 : Int64} (hM : RET g Y mc ms [] nt C M o none C1 M1 o1) (hL : LSt (ko K) idx Y 0) (hd : decode (kc K) pc = .ok (.invokestatic idx, 3)) (hro : kf Y + 1 ≤ R.frames ∧ 8 + (kL Y + 11) + klo Y ≤ R.locals) (hcs : kb + mc ≤ R.cells ∧ nb + ms ≤ R.slots) (hcat : (st.map fun v => v.category).sum ≤ 8) (kk : ∀ h', V g K R Qf (kb + mc) (nb + ms) nt h' C1 M1 o1 (pc + 3) lv (st)) : V g K R Qf kb nb nt h C M o pc lv (st) := by
  exact V_callS hM hL hd rfl hro hcs hcat (fun v h2 C2 M2 o2 q => by obtain ⟨rfl, rfl, rfl, rfl⟩ := q; exact kk h2) (fun _ _ _ _ _ q => q.elim) rfl
theorem T_b0 {idx : Nat} {Cn : String} {b : Nat} {E : String} (hM : THR g Y mc ms ([.ref b]) nt C M o E) (hL : LV (ko K) idx Cn Y 0) (hd : decode (kc K) pc = .ok (.invokevirtual idx, 3)) (hrc : rcv g nt h C M o b Cn) (hro : kf Y + 1 ≤ R.frames ∧ 8 + (kL Y + 11) + klo Y ≤ R.locals) (hcs : kb + mc ≤ R.cells ∧ nb + ms ≤ R.slots) (hcat : (st.map fun v => v.category).sum ≤ 8) (kx : ∀ h', VX g K R Qf (kb + mc) (nb + ms) nt h' C M o pc lv st E) : V g K R Qf kb nb nt h C M o pc lv (.ref b :: st) := by
  exact V_callV hM hL hd rfl hrc hro hcs hcat (fun v h2 C2 M2 o2 q => q.elim) (fun _ h2 _ _ _ q => by obtain ⟨rfl, rfl, rfl, rfl⟩ := q; exact kx h2) rfl
theorem R_vb1 {idx : Nat} {Cn : String} {b : Nat} {a1 : Value} {w : Value} {C1 M1 : St} {o1 : Int64} (hM : RET g Y mc ms (.ref b :: [a1]) nt C M o (some w) C1 M1 o1) (hL : LV (ko K) idx Cn Y 1) (hd : decode (kc K) pc = .ok (.invokevirtual idx, 3)) (hrc : rcv g nt h C M o b Cn) (hro : kf Y + 1 ≤ R.frames ∧ 8 + (kL Y + 11) + klo Y ≤ R.locals) (hcs : kb + mc ≤ R.cells ∧ nb + ms ≤ R.slots) (hcat : (st.map fun v => v.category).sum ≤ 8) (kk : ∀ h1, V g K R Qf (kb + mc) (nb + ms) nt h1 C1 M1 o1 (pc + 3) lv (w :: st)) : V g K R Qf kb nb nt h C M o pc lv (a1 :: .ref b :: st) := by
  exact V_callV hM hL hd rfl hrc hro hcs hcat (fun v h2 C2 M2 o2 q => by obtain ⟨rfl, rfl, rfl, rfl⟩ := q; exact kk h2) (fun _ _ _ _ _ q => q.elim) rfl
theorem R_vt1 {idx : Nat} {t : Int32} {a1 : Value} {w : Value} {C1 M1 : St} {o1 : Int64} (ht : tok nt t) (hM : RET g Y mc ms (va_rf (trO g t) :: [a1]) nt C M o (some w) C1 M1 o1) (hL : LV (ko K) idx RX3 Y 1) (hd : decode (kc K) pc = .ok (.invokevirtual idx, 3)) (hro : kf Y + 1 ≤ R.frames ∧ 8 + (kL Y + 11) + klo Y ≤ R.locals) (hcs : kb + mc ≤ R.cells ∧ nb + ms ≤ R.slots) (hcat : (st.map fun v => v.category).sum ≤ 8) (kk : ∀ h1, V g K R Qf (kb + mc) (nb + ms) nt h1 C1 M1 o1 (pc + 3) lv (w :: st)) : V g K R Qf kb nb nt h C M o pc lv (a1 :: va_rf (trO g t) :: st) := by
  rw [tok_rf (h := h) ht] at hM ⊢
  exact V_callV hM hL hd rfl (rcv_3 ht) hro hcs hcat (fun v h2 C2 M2 o2 q => by obtain ⟨rfl, rfl, rfl, rfl⟩ := q; exact kk h2) (fun _ _ _ _ _ q => q.elim) rfl
theorem R_vs1 {idx : Nat} {a1 : Value} {w : Value} {C1 M1 : St} {o1 : Int64} (hM : RET g Y mc ms [a1] nt C M o (some w) C1 M1 o1) (hL : LSt (ko K) idx Y 1) (hd : decode (kc K) pc = .ok (.invokestatic idx, 3)) (hro : kf Y + 1 ≤ R.frames ∧ 8 + (kL Y + 11) + klo Y ≤ R.locals) (hcs : kb + mc ≤ R.cells ∧ nb + ms ≤ R.slots) (hcat : (st.map fun v => v.category).sum ≤ 8) (kk : ∀ h', V g K R Qf (kb + mc) (nb + ms) nt h' C1 M1 o1 (pc + 3) lv (w :: st)) : V g K R Qf kb nb nt h C M o pc lv (a1 :: st) := by
  exact V_callS hM hL hd rfl hro hcs hcat (fun v h2 C2 M2 o2 q => by obtain ⟨rfl, rfl, rfl, rfl⟩ := q; exact kk h2) (fun _ _ _ _ _ q => q.elim) rfl
theorem R_nb1 {idx : Nat} {Cn : String} {b : Nat} {a1 : Value} {C1 M1 : St} {o1 : Int64} (hM : RET g Y mc ms (.ref b :: [a1]) nt C M o none C1 M1 o1) (hL : LV (ko K) idx Cn Y 1) (hd : decode (kc K) pc = .ok (.invokevirtual idx, 3)) (hrc : rcv g nt h C M o b Cn) (hro : kf Y + 1 ≤ R.frames ∧ 8 + (kL Y + 11) + klo Y ≤ R.locals) (hcs : kb + mc ≤ R.cells ∧ nb + ms ≤ R.slots) (hcat : (st.map fun v => v.category).sum ≤ 8) (kk : ∀ h1, V g K R Qf (kb + mc) (nb + ms) nt h1 C1 M1 o1 (pc + 3) lv (st)) : V g K R Qf kb nb nt h C M o pc lv (a1 :: .ref b :: st) := by
  exact V_callV hM hL hd rfl hrc hro hcs hcat (fun v h2 C2 M2 o2 q => by obtain ⟨rfl, rfl, rfl, rfl⟩ := q; exact kk h2) (fun _ _ _ _ _ q => q.elim) rfl
theorem R_nt1 {idx : Nat} {t : Int32} {a1 : Value} {C1 M1 : St} {o1 : Int64} (ht : tok nt t) (hM : RET g Y mc ms (va_rf (trO g t) :: [a1]) nt C M o none C1 M1 o1) (hL : LV (ko K) idx RX3 Y 1) (hd : decode (kc K) pc = .ok (.invokevirtual idx, 3)) (hro : kf Y + 1 ≤ R.frames ∧ 8 + (kL Y + 11) + klo Y ≤ R.locals) (hcs : kb + mc ≤ R.cells ∧ nb + ms ≤ R.slots) (hcat : (st.map fun v => v.category).sum ≤ 8) (kk : ∀ h1, V g K R Qf (kb + mc) (nb + ms) nt h1 C1 M1 o1 (pc + 3) lv (st)) : V g K R Qf kb nb nt h C M o pc lv (a1 :: va_rf (trO g t) :: st) := by
  rw [tok_rf (h := h) ht] at hM ⊢
  exact V_callV hM hL hd rfl (rcv_3 ht) hro hcs hcat (fun v h2 C2 M2 o2 q => by obtain ⟨rfl, rfl, rfl, rfl⟩ := q; exact kk h2) (fun _ _ _ _ _ q => q.elim) rfl
theorem R_ns1 {idx : Nat} {a1 : Value} {C1 M1 : St} {o1 : Int64} (hM : RET g Y mc ms [a1] nt C M o none C1 M1 o1) (hL : LSt (ko K) idx Y 1) (hd : decode (kc K) pc = .ok (.invokestatic idx, 3)) (hro : kf Y + 1 ≤ R.frames ∧ 8 + (kL Y + 11) + klo Y ≤ R.locals) (hcs : kb + mc ≤ R.cells ∧ nb + ms ≤ R.slots) (hcat : (st.map fun v => v.category).sum ≤ 8) (kk : ∀ h', V g K R Qf (kb + mc) (nb + ms) nt h' C1 M1 o1 (pc + 3) lv (st)) : V g K R Qf kb nb nt h C M o pc lv (a1 :: st) := by
  exact V_callS hM hL hd rfl hro hcs hcat (fun v h2 C2 M2 o2 q => by obtain ⟨rfl, rfl, rfl, rfl⟩ := q; exact kk h2) (fun _ _ _ _ _ q => q.elim) rfl
theorem T_b1 {idx : Nat} {Cn : String} {b : Nat} {a1 : Value} {E : String} (hM : THR g Y mc ms (.ref b :: [a1]) nt C M o E) (hL : LV (ko K) idx Cn Y 1) (hd : decode (kc K) pc = .ok (.invokevirtual idx, 3)) (hrc : rcv g nt h C M o b Cn) (hro : kf Y + 1 ≤ R.frames ∧ 8 + (kL Y + 11) + klo Y ≤ R.locals) (hcs : kb + mc ≤ R.cells ∧ nb + ms ≤ R.slots) (hcat : (st.map fun v => v.category).sum ≤ 8) (kx : ∀ h', VX g K R Qf (kb + mc) (nb + ms) nt h' C M o pc lv st E) : V g K R Qf kb nb nt h C M o pc lv (a1 :: .ref b :: st) := by
  exact V_callV hM hL hd rfl hrc hro hcs hcat (fun v h2 C2 M2 o2 q => q.elim) (fun _ h2 _ _ _ q => by obtain ⟨rfl, rfl, rfl, rfl⟩ := q; exact kx h2) rfl
theorem R_vb2 {idx : Nat} {Cn : String} {b : Nat} {a1 a2 : Value} {w : Value} {C1 M1 : St} {o1 : Int64} (hM : RET g Y mc ms (.ref b :: [a1, a2]) nt C M o (some w) C1 M1 o1) (hL : LV (ko K) idx Cn Y 2) (hd : decode (kc K) pc = .ok (.invokevirtual idx, 3)) (hrc : rcv g nt h C M o b Cn) (hro : kf Y + 1 ≤ R.frames ∧ 8 + (kL Y + 11) + klo Y ≤ R.locals) (hcs : kb + mc ≤ R.cells ∧ nb + ms ≤ R.slots) (hcat : (st.map fun v => v.category).sum ≤ 8) (kk : ∀ h1, V g K R Qf (kb + mc) (nb + ms) nt h1 C1 M1 o1 (pc + 3) lv (w :: st)) : V g K R Qf kb nb nt h C M o pc lv (a2 :: a1 :: .ref b :: st) := by
  exact V_callV hM hL hd rfl hrc hro hcs hcat (fun v h2 C2 M2 o2 q => by obtain ⟨rfl, rfl, rfl, rfl⟩ := q; exact kk h2) (fun _ _ _ _ _ q => q.elim) rfl
theorem R_vt2 {idx : Nat} {t : Int32} {a1 a2 : Value} {w : Value} {C1 M1 : St} {o1 : Int64} (ht : tok nt t) (hM : RET g Y mc ms (va_rf (trO g t) :: [a1, a2]) nt C M o (some w) C1 M1 o1) (hL : LV (ko K) idx RX3 Y 2) (hd : decode (kc K) pc = .ok (.invokevirtual idx, 3)) (hro : kf Y + 1 ≤ R.frames ∧ 8 + (kL Y + 11) + klo Y ≤ R.locals) (hcs : kb + mc ≤ R.cells ∧ nb + ms ≤ R.slots) (hcat : (st.map fun v => v.category).sum ≤ 8) (kk : ∀ h1, V g K R Qf (kb + mc) (nb + ms) nt h1 C1 M1 o1 (pc + 3) lv (w :: st)) : V g K R Qf kb nb nt h C M o pc lv (a2 :: a1 :: va_rf (trO g t) :: st) := by
  rw [tok_rf (h := h) ht] at hM ⊢
  exact V_callV hM hL hd rfl (rcv_3 ht) hro hcs hcat (fun v h2 C2 M2 o2 q => by obtain ⟨rfl, rfl, rfl, rfl⟩ := q; exact kk h2) (fun _ _ _ _ _ q => q.elim) rfl
theorem R_vs2 {idx : Nat} {a1 a2 : Value} {w : Value} {C1 M1 : St} {o1 : Int64} (hM : RET g Y mc ms [a1, a2] nt C M o (some w) C1 M1 o1) (hL : LSt (ko K) idx Y 2) (hd : decode (kc K) pc = .ok (.invokestatic idx, 3)) (hro : kf Y + 1 ≤ R.frames ∧ 8 + (kL Y + 11) + klo Y ≤ R.locals) (hcs : kb + mc ≤ R.cells ∧ nb + ms ≤ R.slots) (hcat : (st.map fun v => v.category).sum ≤ 8) (kk : ∀ h', V g K R Qf (kb + mc) (nb + ms) nt h' C1 M1 o1 (pc + 3) lv (w :: st)) : V g K R Qf kb nb nt h C M o pc lv (a2 :: a1 :: st) := by
  exact V_callS hM hL hd rfl hro hcs hcat (fun v h2 C2 M2 o2 q => by obtain ⟨rfl, rfl, rfl, rfl⟩ := q; exact kk h2) (fun _ _ _ _ _ q => q.elim) rfl
theorem R_nb2 {idx : Nat} {Cn : String} {b : Nat} {a1 a2 : Value} {C1 M1 : St} {o1 : Int64} (hM : RET g Y mc ms (.ref b :: [a1, a2]) nt C M o none C1 M1 o1) (hL : LV (ko K) idx Cn Y 2) (hd : decode (kc K) pc = .ok (.invokevirtual idx, 3)) (hrc : rcv g nt h C M o b Cn) (hro : kf Y + 1 ≤ R.frames ∧ 8 + (kL Y + 11) + klo Y ≤ R.locals) (hcs : kb + mc ≤ R.cells ∧ nb + ms ≤ R.slots) (hcat : (st.map fun v => v.category).sum ≤ 8) (kk : ∀ h1, V g K R Qf (kb + mc) (nb + ms) nt h1 C1 M1 o1 (pc + 3) lv (st)) : V g K R Qf kb nb nt h C M o pc lv (a2 :: a1 :: .ref b :: st) := by
  exact V_callV hM hL hd rfl hrc hro hcs hcat (fun v h2 C2 M2 o2 q => by obtain ⟨rfl, rfl, rfl, rfl⟩ := q; exact kk h2) (fun _ _ _ _ _ q => q.elim) rfl
theorem R_nt2 {idx : Nat} {t : Int32} {a1 a2 : Value} {C1 M1 : St} {o1 : Int64} (ht : tok nt t) (hM : RET g Y mc ms (va_rf (trO g t) :: [a1, a2]) nt C M o none C1 M1 o1) (hL : LV (ko K) idx RX3 Y 2) (hd : decode (kc K) pc = .ok (.invokevirtual idx, 3)) (hro : kf Y + 1 ≤ R.frames ∧ 8 + (kL Y + 11) + klo Y ≤ R.locals) (hcs : kb + mc ≤ R.cells ∧ nb + ms ≤ R.slots) (hcat : (st.map fun v => v.category).sum ≤ 8) (kk : ∀ h1, V g K R Qf (kb + mc) (nb + ms) nt h1 C1 M1 o1 (pc + 3) lv (st)) : V g K R Qf kb nb nt h C M o pc lv (a2 :: a1 :: va_rf (trO g t) :: st) := by
  rw [tok_rf (h := h) ht] at hM ⊢
  exact V_callV hM hL hd rfl (rcv_3 ht) hro hcs hcat (fun v h2 C2 M2 o2 q => by obtain ⟨rfl, rfl, rfl, rfl⟩ := q; exact kk h2) (fun _ _ _ _ _ q => q.elim) rfl
theorem R_ns2 {idx : Nat} {a1 a2 : Value} {C1 M1 : St} {o1 : Int64} (hM : RET g Y mc ms [a1, a2] nt C M o none C1 M1 o1) (hL : LSt (ko K) idx Y 2) (hd : decode (kc K) pc = .ok (.invokestatic idx, 3)) (hro : kf Y + 1 ≤ R.frames ∧ 8 + (kL Y + 11) + klo Y ≤ R.locals) (hcs : kb + mc ≤ R.cells ∧ nb + ms ≤ R.slots) (hcat : (st.map fun v => v.category).sum ≤ 8) (kk : ∀ h', V g K R Qf (kb + mc) (nb + ms) nt h' C1 M1 o1 (pc + 3) lv (st)) : V g K R Qf kb nb nt h C M o pc lv (a2 :: a1 :: st) := by
  exact V_callS hM hL hd rfl hro hcs hcat (fun v h2 C2 M2 o2 q => by obtain ⟨rfl, rfl, rfl, rfl⟩ := q; exact kk h2) (fun _ _ _ _ _ q => q.elim) rfl
theorem T_b2 {idx : Nat} {Cn : String} {b : Nat} {a1 a2 : Value} {E : String} (hM : THR g Y mc ms (.ref b :: [a1, a2]) nt C M o E) (hL : LV (ko K) idx Cn Y 2) (hd : decode (kc K) pc = .ok (.invokevirtual idx, 3)) (hrc : rcv g nt h C M o b Cn) (hro : kf Y + 1 ≤ R.frames ∧ 8 + (kL Y + 11) + klo Y ≤ R.locals) (hcs : kb + mc ≤ R.cells ∧ nb + ms ≤ R.slots) (hcat : (st.map fun v => v.category).sum ≤ 8) (kx : ∀ h', VX g K R Qf (kb + mc) (nb + ms) nt h' C M o pc lv st E) : V g K R Qf kb nb nt h C M o pc lv (a2 :: a1 :: .ref b :: st) := by
  exact V_callV hM hL hd rfl hrc hro hcs hcat (fun v h2 C2 M2 o2 q => q.elim) (fun _ h2 _ _ _ q => by obtain ⟨rfl, rfl, rfl, rfl⟩ := q; exact kx h2) rfl
theorem R_vb3 {idx : Nat} {Cn : String} {b : Nat} {a1 a2 a3 : Value} {w : Value} {C1 M1 : St} {o1 : Int64} (hM : RET g Y mc ms (.ref b :: [a1, a2, a3]) nt C M o (some w) C1 M1 o1) (hL : LV (ko K) idx Cn Y 3) (hd : decode (kc K) pc = .ok (.invokevirtual idx, 3)) (hrc : rcv g nt h C M o b Cn) (hro : kf Y + 1 ≤ R.frames ∧ 8 + (kL Y + 11) + klo Y ≤ R.locals) (hcs : kb + mc ≤ R.cells ∧ nb + ms ≤ R.slots) (hcat : (st.map fun v => v.category).sum ≤ 8) (kk : ∀ h1, V g K R Qf (kb + mc) (nb + ms) nt h1 C1 M1 o1 (pc + 3) lv (w :: st)) : V g K R Qf kb nb nt h C M o pc lv (a3 :: a2 :: a1 :: .ref b :: st) := by
  exact V_callV hM hL hd rfl hrc hro hcs hcat (fun v h2 C2 M2 o2 q => by obtain ⟨rfl, rfl, rfl, rfl⟩ := q; exact kk h2) (fun _ _ _ _ _ q => q.elim) rfl
theorem R_vt3 {idx : Nat} {t : Int32} {a1 a2 a3 : Value} {w : Value} {C1 M1 : St} {o1 : Int64} (ht : tok nt t) (hM : RET g Y mc ms (va_rf (trO g t) :: [a1, a2, a3]) nt C M o (some w) C1 M1 o1) (hL : LV (ko K) idx RX3 Y 3) (hd : decode (kc K) pc = .ok (.invokevirtual idx, 3)) (hro : kf Y + 1 ≤ R.frames ∧ 8 + (kL Y + 11) + klo Y ≤ R.locals) (hcs : kb + mc ≤ R.cells ∧ nb + ms ≤ R.slots) (hcat : (st.map fun v => v.category).sum ≤ 8) (kk : ∀ h1, V g K R Qf (kb + mc) (nb + ms) nt h1 C1 M1 o1 (pc + 3) lv (w :: st)) : V g K R Qf kb nb nt h C M o pc lv (a3 :: a2 :: a1 :: va_rf (trO g t) :: st) := by
  rw [tok_rf (h := h) ht] at hM ⊢
  exact V_callV hM hL hd rfl (rcv_3 ht) hro hcs hcat (fun v h2 C2 M2 o2 q => by obtain ⟨rfl, rfl, rfl, rfl⟩ := q; exact kk h2) (fun _ _ _ _ _ q => q.elim) rfl
theorem R_vs3 {idx : Nat} {a1 a2 a3 : Value} {w : Value} {C1 M1 : St} {o1 : Int64} (hM : RET g Y mc ms [a1, a2, a3] nt C M o (some w) C1 M1 o1) (hL : LSt (ko K) idx Y 3) (hd : decode (kc K) pc = .ok (.invokestatic idx, 3)) (hro : kf Y + 1 ≤ R.frames ∧ 8 + (kL Y + 11) + klo Y ≤ R.locals) (hcs : kb + mc ≤ R.cells ∧ nb + ms ≤ R.slots) (hcat : (st.map fun v => v.category).sum ≤ 8) (kk : ∀ h', V g K R Qf (kb + mc) (nb + ms) nt h' C1 M1 o1 (pc + 3) lv (w :: st)) : V g K R Qf kb nb nt h C M o pc lv (a3 :: a2 :: a1 :: st) := by
  exact V_callS hM hL hd rfl hro hcs hcat (fun v h2 C2 M2 o2 q => by obtain ⟨rfl, rfl, rfl, rfl⟩ := q; exact kk h2) (fun _ _ _ _ _ q => q.elim) rfl
theorem R_nb3 {idx : Nat} {Cn : String} {b : Nat} {a1 a2 a3 : Value} {C1 M1 : St} {o1 : Int64} (hM : RET g Y mc ms (.ref b :: [a1, a2, a3]) nt C M o none C1 M1 o1) (hL : LV (ko K) idx Cn Y 3) (hd : decode (kc K) pc = .ok (.invokevirtual idx, 3)) (hrc : rcv g nt h C M o b Cn) (hro : kf Y + 1 ≤ R.frames ∧ 8 + (kL Y + 11) + klo Y ≤ R.locals) (hcs : kb + mc ≤ R.cells ∧ nb + ms ≤ R.slots) (hcat : (st.map fun v => v.category).sum ≤ 8) (kk : ∀ h1, V g K R Qf (kb + mc) (nb + ms) nt h1 C1 M1 o1 (pc + 3) lv (st)) : V g K R Qf kb nb nt h C M o pc lv (a3 :: a2 :: a1 :: .ref b :: st) := by
  exact V_callV hM hL hd rfl hrc hro hcs hcat (fun v h2 C2 M2 o2 q => by obtain ⟨rfl, rfl, rfl, rfl⟩ := q; exact kk h2) (fun _ _ _ _ _ q => q.elim) rfl
theorem R_nt3 {idx : Nat} {t : Int32} {a1 a2 a3 : Value} {C1 M1 : St} {o1 : Int64} (ht : tok nt t) (hM : RET g Y mc ms (va_rf (trO g t) :: [a1, a2, a3]) nt C M o none C1 M1 o1) (hL : LV (ko K) idx RX3 Y 3) (hd : decode (kc K) pc = .ok (.invokevirtual idx, 3)) (hro : kf Y + 1 ≤ R.frames ∧ 8 + (kL Y + 11) + klo Y ≤ R.locals) (hcs : kb + mc ≤ R.cells ∧ nb + ms ≤ R.slots) (hcat : (st.map fun v => v.category).sum ≤ 8) (kk : ∀ h1, V g K R Qf (kb + mc) (nb + ms) nt h1 C1 M1 o1 (pc + 3) lv (st)) : V g K R Qf kb nb nt h C M o pc lv (a3 :: a2 :: a1 :: va_rf (trO g t) :: st) := by
  rw [tok_rf (h := h) ht] at hM ⊢
  exact V_callV hM hL hd rfl (rcv_3 ht) hro hcs hcat (fun v h2 C2 M2 o2 q => by obtain ⟨rfl, rfl, rfl, rfl⟩ := q; exact kk h2) (fun _ _ _ _ _ q => q.elim) rfl
theorem R_ns3 {idx : Nat} {a1 a2 a3 : Value} {C1 M1 : St} {o1 : Int64} (hM : RET g Y mc ms [a1, a2, a3] nt C M o none C1 M1 o1) (hL : LSt (ko K) idx Y 3) (hd : decode (kc K) pc = .ok (.invokestatic idx, 3)) (hro : kf Y + 1 ≤ R.frames ∧ 8 + (kL Y + 11) + klo Y ≤ R.locals) (hcs : kb + mc ≤ R.cells ∧ nb + ms ≤ R.slots) (hcat : (st.map fun v => v.category).sum ≤ 8) (kk : ∀ h', V g K R Qf (kb + mc) (nb + ms) nt h' C1 M1 o1 (pc + 3) lv (st)) : V g K R Qf kb nb nt h C M o pc lv (a3 :: a2 :: a1 :: st) := by
  exact V_callS hM hL hd rfl hro hcs hcat (fun v h2 C2 M2 o2 q => by obtain ⟨rfl, rfl, rfl, rfl⟩ := q; exact kk h2) (fun _ _ _ _ _ q => q.elim) rfl
theorem T_b3 {idx : Nat} {Cn : String} {b : Nat} {a1 a2 a3 : Value} {E : String} (hM : THR g Y mc ms (.ref b :: [a1, a2, a3]) nt C M o E) (hL : LV (ko K) idx Cn Y 3) (hd : decode (kc K) pc = .ok (.invokevirtual idx, 3)) (hrc : rcv g nt h C M o b Cn) (hro : kf Y + 1 ≤ R.frames ∧ 8 + (kL Y + 11) + klo Y ≤ R.locals) (hcs : kb + mc ≤ R.cells ∧ nb + ms ≤ R.slots) (hcat : (st.map fun v => v.category).sum ≤ 8) (kx : ∀ h', VX g K R Qf (kb + mc) (nb + ms) nt h' C M o pc lv st E) : V g K R Qf kb nb nt h C M o pc lv (a3 :: a2 :: a1 :: .ref b :: st) := by
  exact V_callV hM hL hd rfl hrc hro hcs hcat (fun v h2 C2 M2 o2 q => q.elim) (fun _ h2 _ _ _ q => by obtain ⟨rfl, rfl, rfl, rfl⟩ := q; exact kx h2) rfl
theorem V_max {idx : Nat} {x y : Int32} (hL : Cond.methodLink (ko K) idx Lib.Math.max.name ∈ gtbl) (hd : decode (kc K) pc = .ok (.invokestatic idx, 3)) (hro : 1 ≤ R.frames ∧ (st.map fun v => v.category).sum + 13 ≤ R.locals) (hcs : kb ≤ R.cells ∧ nb ≤ R.slots) (k : V g K R Qf kb nb nt h C M o (pc + 3) lv (.int (if x < y then y else x) :: st)) : V g K R Qf kb nb nt h C M o pc lv (.int y :: .int x :: st) := by
  intro p e s m args below meth c H locs k1 n1 ls X h1 h2 hR hS hl hc
  obtain ⟨x1, x2, x3, x4, x5, x6, x7, x8, x9⟩ := id X
  exact va_mmax x1 x2 (x4.trans hl.1.symm) x5 (x6 _ hL) (x6 _ w_128) (x6 _ w_12) (x6 _ w_129) hro.1 hro.2 (by omega) (by omega) hd (k p e s m args below meth c H locs k1 n1 ls X h1 h2 hR hS hl hc)
theorem V_min {idx : Nat} {x y : Int32} (hL : Cond.methodLink (ko K) idx Lib.Math.min.name ∈ gtbl) (hd : decode (kc K) pc = .ok (.invokestatic idx, 3)) (hro : 1 ≤ R.frames ∧ (st.map fun v => v.category).sum + 13 ≤ R.locals) (hcs : kb ≤ R.cells ∧ nb ≤ R.slots) (k : V g K R Qf kb nb nt h C M o (pc + 3) lv (.int (if y < x then y else x) :: st)) : V g K R Qf kb nb nt h C M o pc lv (.int y :: .int x :: st) := by
  intro p e s m args below meth c H locs k1 n1 ls X h1 h2 hR hS hl hc
  obtain ⟨x1, x2, x3, x4, x5, x6, x7, x8, x9⟩ := id X
  exact va_mmin x1 x2 (x4.trans hl.1.symm) x5 (x6 _ hL) (x6 _ w_139) (x6 _ w_12) (x6 _ w_140) hro.1 hro.2 (by omega) (by omega) hd (k p e s m args below meth c H locs k1 n1 ls X h1 h2 hR hS hl hc)
end CALL
