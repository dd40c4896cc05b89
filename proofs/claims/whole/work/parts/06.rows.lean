/-! the judgement V: from here the method goes to its end, over our world; and its rows -/
def strT : List (String × Nat × String) := [("Twinphase", 42, "ticks are 1 to 50"), ("Twinphase", 53, "the time is at most 2000"), ("Twinphase", 242, "no such node"), ("Twinphase", 60, "a skew is -5 to 5"), ("Twinphase", 244, "the node is down"), ("Twinphase", 89, "the node is not down"), ("Twinphase", 96, "a new range begins at 1 to 31"), ("Twinphase", 99, "a range begins there already"), ("Twinphase", 107, "no such range, or no next one"), ("Twinphase", 109, "the ranges are on different nodes"), ("Twinphase", 111, "no such range"), ("Twinphase", 113, "a rank is 0 to 9"), ("Twinphase", 118, "there were 40 transactions"), ("Twinphase", 248, "no such transaction"), ("Twinphase", 246, "no such key"), ("Twinphase", 141, "a value is 0 to 999, or GONE"), ("Twinphase", 252, "what is told is 0 to 6"), ("Twinphase", 221, "a stamp is 0 to the closed stamp"), ("Twinphase", 250, "no such place")]
def decT : List MethodName := [⟨"java/lang/RuntimeException", "<init>", "(Ljava/lang/String;)V"⟩, ⟨"java/lang/Exception", "<init>", "(Ljava/lang/String;)V"⟩, ⟨"java/lang/Throwable", "<init>", "(Ljava/lang/String;)V"⟩]
def ncT : List (String × String) := [("java/lang/IllegalArgumentException", "java/lang/IllegalStateException"), ("java/lang/IllegalArgumentException", "java/lang/IndexOutOfBoundsException"), ("java/lang/IllegalStateException", "java/lang/IllegalArgumentException"), ("java/lang/IllegalStateException", "java/lang/IndexOutOfBoundsException"), ("java/lang/IndexOutOfBoundsException", "java/lang/IllegalArgumentException"), ("java/lang/IndexOutOfBoundsException", "java/lang/IllegalStateException")]
def castT : List (String × String) := [("java/lang/IllegalArgumentException", "java/lang/IllegalArgumentException"), ("java/lang/IllegalStateException", "java/lang/IllegalStateException"), ("java/lang/IndexOutOfBoundsException", "java/lang/IndexOutOfBoundsException"), ("[I", "java/lang/Cloneable")]
theorem cast_moved {X Y : String} {A B : Array Value} {u U : State} (hvm : u.vm.Alike U.vm) (h : (Cond.castable X Y).before A u = true) : (Cond.castable X Y).before B U = true := by
  obtain ⟨c3, c4, h1, h2, h3⟩ := Cond.castable_spec h
  have e1 : U.vm.findClass X = some c3 := by rw [hvm.findClass]; exact h1
  have e2 : U.vm.findClass Y = some c4 := by rw [hvm.findClass]; exact h2
  have e3 : U.vm.assignable c3 c4 = true := by rw [hvm.assignable]; exact h3
  simp [Cond.before, Cond.holds, Cond.value, e1, e2, e3]
theorem dec_moved {y : MethodName} {A B : Array Value} {u U : State} (hvm : u.vm.Alike U.vm) (h : (Cond.declares y).before A u = true) : (Cond.declares y).before B U = true := by
  have e := Cond.onTables_vm (A := A) (A' := B) (U := u) (U' := U) U.vm (Cond.declares y) rfl
  have hU : U.setVm U.vm = U := rfl
  rw [hU] at e
  rw [← e, Cond.declares_setVm hvm]
  exact h
/-- what the machine is known to hold beside our cells -/
def Sx (g : GT) (s : State) : Prop := va_K (gD g) vwCl (gtys g) s ∧ vx_Zq Bundle.tN "UNASSIGNED_STACK" Bundle.steD (gA g) s s.heap ∧ vx_Zq Bundle.tN "SUPPRESSED_SENTINEL" Bundle.listD (gA g) s s.heap ∧ (∀ q ∈ strT, ∃ a, vk_R q.1 q.2.1 q.2.2 a s) ∧ ((∀ q ∈ castT, (Cond.castable q.1 q.2).before #[] s = true) ∧ (∀ q ∈ ncT, va_Nc q.1 q.2 s) ∧ gN g ≤ s.heap.size) ∧ (∀ y ∈ decT, (Cond.declares y).before #[] s = true) ∧ (gl g).stackTraces = false
theorem Sx.to {g : GT} {s U : State} (h : Sx g s) (hW : s.WarmedH U.vm) (hk : ∀ a : Nat, a < s.heap.size → ¬ gA g a → U.heap[a]? = s.heap[a]?) : Sx g U := by
  obtain ⟨h1, h2, h3, h4, h5, h7, h6⟩ := h
  refine ⟨va_K.moved hW.alike h1, vx_Zq.moved hW.alike (vx_Zq.kept h2 hk), vx_Zq.moved hW.alike (vx_Zq.kept h3 hk), fun q hq => ?_, ⟨fun q hq => cast_moved hW.alike (h5.1 q hq), fun q hq => va_Nc.moved hW.alike (h5.2.1 q hq), ?_⟩, fun q hq => dec_moved hW.alike (h7 q hq), h6⟩
  · obtain ⟨a, ha⟩ := h4 q hq
    exact ⟨a, vk_R.warm hW ha⟩
  · have hz := h5.2.2
    cases hg : gN g with
    | zero => omega
    | succ m =>
      rw [hg] at hz
      have e1 := hk m (by omega) (fun z => by have z1 : gN g ≤ m := z; omega)
      rw [Array.getElem?_eq_getElem (by omega : m < s.heap.size)] at e1
      exact (Array.getElem?_eq_some_iff.mp e1).1
def World (g : GT) (nt : Nat) (h : Nat × Nat) (C M : St) (o : Int64) (U : State) : Prop := Rep g nt h C M o U.heap ∧ Sx g U
abbrev MK : Type := String × MethodName × ByteArray × Nat × Option FieldType × Nat × Nat × List (Nat × Nat × Nat × Nat)
def ko (K : MK) : String := K.1
def ky (K : MK) : MethodName := K.2.1
def kc (K : MK) : ByteArray := K.2.2.1
def kL (K : MK) : Nat := K.2.2.2.1
def kr (K : MK) : Option FieldType := K.2.2.2.2.1
def kf (K : MK) : Nat := K.2.2.2.2.2.1
def klo (K : MK) : Nat := K.2.2.2.2.2.2.1
def kh (K : MK) : List (Nat × Nat × Nat × Nat) := K.2.2.2.2.2.2.2
def kws (K : MK) : List Cond := Cond.code (ky K) (kc K) (kL K) (kr K) :: gtbl
abbrev QT : Type := List Frame → Array Value → State → State → Prop
def Cx (g : GT) (K : MK) (p : Program) (s : State) (m : MethodId) (args : Array Value) (meth : Method) (c : Code) : Prop :=
  p.tables.exec = Jvm.exec ∧ c.code = kc K ∧ meth.sig.returnType = kr K ∧ c.maxLocals = kL K ∧ s.vm.findClass (ko K) = some m.cls ∧ (∀ w ∈ gtbl, w.before args s = true) ∧ meth.locks = false ∧ c.exceptionTable.toList = tableOf (kh K) ∧ Sx g s
def V (g : GT) (K : MK) (R : Room) (Qf : QT) (kb nb nt : Nat) (h : Nat × Nat) (C M : St) (o : Int64) (pc : Nat) (lv : List (Nat × Value)) (st : List Value) : Prop :=
  ∀ (p : Program) (e : Env) (s : State) (m : MethodId) (args : Array Value) (below : List Frame) (meth : Method) (c : Code) (H : Heap) (locs : List Loc) (k n : Nat) (ls : Array Slot),
    Cx g K p s m args meth c → k ≤ kb → n ≤ nb → Rep g nt h C M o H → va_S (gA g) s.heap H locs → lv_has ls (kL K) lv → (∀ q ∈ lv, q.2.category = 1) →
    W p (gl g) e R s m args below meth c H locs k n (Qf below args s) (F0 m pc ls st)
-- locals by their numbers
def lvg : List (Nat × Value) → Nat → Option Value
  | [], _ => none
  | (j, v) :: l, i => bif Nat.beq j i then some v else lvg l i
theorem lvg_mem : ∀ {l : List (Nat × Value)} {i : Nat} {v : Value}, lvg l i = some v → (i, v) ∈ l
  | [], _, _, h => by simp [lvg] at h
  | (j, w) :: l, i, v, h => by
    unfold lvg at h
    cases e : Nat.beq j i with
    | true => rw [e] at h; rw [Nat.eq_of_beq_eq_true e]; cases h; exact List.mem_cons_self
    | false => rw [e] at h; exact List.mem_cons_of_mem _ (lvg_mem h)
def lvd : List (Nat × Value) → Nat → List (Nat × Value)
  | [], _ => []
  | (j, w) :: l, i => bif Nat.beq j i then lvd l i else (j, w) :: lvd l i
def lvs : List (Nat × Value) → Nat → Value → List (Nat × Value)
  | [], i, v => [(i, v)]
  | (j, w) :: l, i, v => bif Nat.beq j i then (i, v) :: lvd l i else (j, w) :: lvs l i v
theorem lvd_mem : ∀ {l : List (Nat × Value)} {i : Nat} {q : Nat × Value}, q ∈ lvd l i → q ∈ l ∧ q.1 ≠ i
  | [], _, _, h => by simp [lvd] at h
  | (j, w) :: l, i, q, h => by
    unfold lvd at h
    cases e : Nat.beq j i with
    | true => rw [e] at h; exact ⟨List.mem_cons_of_mem _ (lvd_mem h).1, (lvd_mem h).2⟩
    | false =>
      rw [e] at h
      rcases List.mem_cons.mp h with h | h
      · subst h
        exact ⟨List.mem_cons_self, fun z => Nat.ne_of_beq_eq_false e z⟩
      · exact ⟨List.mem_cons_of_mem _ (lvd_mem h).1, (lvd_mem h).2⟩
theorem lvs_mem : ∀ {l : List (Nat × Value)} {i : Nat} {v : Value} {q : Nat × Value}, q ∈ lvs l i v → q = (i, v) ∨ (q ∈ l ∧ q.1 ≠ i)
  | [], _, _, _, h => by simp [lvs] at h; exact Or.inl h
  | (j, w) :: l, i, v, q, h => by
    unfold lvs at h
    cases e : Nat.beq j i with
    | true =>
      rw [e] at h
      rcases List.mem_cons.mp h with h | h
      · exact Or.inl h
      · exact Or.inr ⟨List.mem_cons_of_mem _ (lvd_mem h).1, (lvd_mem h).2⟩
    | false =>
      rw [e] at h
      rcases List.mem_cons.mp h with h | h
      · subst h
        exact Or.inr ⟨List.mem_cons_self, fun z => Nat.ne_of_beq_eq_false e z⟩
      · rcases lvs_mem h with h | h
        · exact Or.inl h
        · exact Or.inr ⟨List.mem_cons_of_mem _ h.1, h.2⟩
theorem lvs_has {ls : Array Slot} {nL i : Nat} {lv : List (Nat × Value)} {v : Value} (h : lv_has ls nL ((i, v) :: lv.filter (fun q => !(q.1 == i) && !(q.1 + 1 == i && q.2.category == 2)))) (hc : ∀ q ∈ lv, q.2.category = 1) : lv_has ls nL (lvs lv i v) := by
  refine ⟨h.1, h.2.1, fun q hq => ?_⟩
  rcases lvs_mem hq with rfl | ⟨h1, h2⟩
  · exact h.2.2 _ List.mem_cons_self
  · refine h.2.2 q (List.mem_cons_of_mem _ (List.mem_filter.mpr ⟨h1, ?_⟩))
    have h3 := hc q h1
    simp [h2, h3]
theorem lvs_cat {lv : List (Nat × Value)} {i : Nat} {v : Value} (hv : v.category = 1) (hc : ∀ q ∈ lv, q.2.category = 1) : ∀ q ∈ lvs lv i v, q.2.category = 1 := by
  intro q hq
  rcases lvs_mem hq with rfl | ⟨h1, -⟩
  · exact hv
  · exact hc q h1
def lvp (lv : List (Nat × Value)) (ks : List Nat) : List (Nat × Value) := ks.filterMap (fun i => (lvg lv i).map (fun v => (i, v)))
theorem lvp_mem {lv : List (Nat × Value)} {ks : List Nat} {q : Nat × Value} (h : q ∈ lvp lv ks) : q ∈ lv := by
  obtain ⟨i, -, hi⟩ := List.mem_filterMap.mp h
  cases e : lvg lv i with
  | none => rw [e] at hi; cases hi
  | some v => rw [e] at hi; cases hi; exact lvg_mem e
theorem cat_rf (r : Option Nat) : (va_rf r).category = 1 := by cases r <;> rfl
theorem cat_int (x : Int32) : (Value.int x).category = 1 := rfl
theorem cat_ref (x : Nat) : (Value.ref x).category = 1 := rfl
section ROWS
variable {g : GT} {K : MK} {R : Room} {Qf : QT} {kb nb nt : Nat} {h : Nat × Nat} {C M : St} {o : Int64} {pc : Nat} {lv : List (Nat × Value)} {st : List Value}
theorem V_sub (ks : List Nat) {lv' : List (Nat × Value)} (e : lvp lv ks = lv') (k : V g K R Qf kb nb nt h C M o pc lv' st) : V g K R Qf kb nb nt h C M o pc lv st := by
  intro p e1 s m args below meth c H locs k1 n1 ls X h1 h2 hR hS hl hc
  subst e
  exact k p e1 s m args below meth c H locs k1 n1 ls X h1 h2 hR hS ⟨hl.1, hl.2.1, fun q hq => hl.2.2 q (lvp_mem hq)⟩ (fun q hq => hc q (lvp_mem hq))
theorem V_mono {kb' nb' : Nat} (e1 : kb ≤ kb') (e2 : nb ≤ nb') (k : V g K R Qf kb' nb' nt h C M o pc lv st) : V g K R Qf kb nb nt h C M o pc lv st := by
  intro p e s m args below meth c H locs k1 n1 ls X h1 h2
  exact k p e s m args below meth c H locs k1 n1 ls X (Nat.le_trans h1 e1) (Nat.le_trans h2 e2)
theorem V_iconst {n : Int} {v : Int32} (hd : decode (kc K) pc = .ok (.iconst n, 1)) (hv : Int32.ofInt n = v) (k : V g K R Qf kb nb nt h C M o (pc + 1) lv (.int v :: st)) : V g K R Qf kb nb nt h C M o pc lv (st) := by
  intro p e s m args below meth c H locs k1 n1 ls X h1 h2 hR hS hl hc
  exact lv_iconst X.1 X.2.1 hd hv (k p e s m args below meth c H locs k1 n1 ls X h1 h2 hR hS hl hc)
theorem V_bipush {n : Int} {v : Int32} (hd : decode (kc K) pc = .ok (.bipush n, 2)) (hv : (Int8.ofInt n).toInt32 = v) (k : V g K R Qf kb nb nt h C M o (pc + 2) lv (.int v :: st)) : V g K R Qf kb nb nt h C M o pc lv (st) := by
  intro p e s m args below meth c H locs k1 n1 ls X h1 h2 hR hS hl hc
  exact lv_bipush X.1 X.2.1 hd hv (k p e s m args below meth c H locs k1 n1 ls X h1 h2 hR hS hl hc)
theorem V_sipush {n : Int} {v : Int32} (hd : decode (kc K) pc = .ok (.sipush n, 3)) (hv : (Int16.ofInt n).toInt32 = v) (k : V g K R Qf kb nb nt h C M o (pc + 3) lv (.int v :: st)) : V g K R Qf kb nb nt h C M o pc lv (st) := by
  intro p e s m args below meth c H locs k1 n1 ls X h1 h2 hR hS hl hc
  exact lv_sipush X.1 X.2.1 hd hv (k p e s m args below meth c H locs k1 n1 ls X h1 h2 hR hS hl hc)
theorem V_iload_n {i : Fin 4} {x : Int32} (hd : decode (kc K) pc = .ok (.iload_n i, 1)) (hv : lvg lv i = some (.int x)) (k : V g K R Qf kb nb nt h C M o (pc + 1) lv (.int x :: st)) : V g K R Qf kb nb nt h C M o pc lv (st) := by
  intro p e s m args below meth c H locs k1 n1 ls X h1 h2 hR hS hl hc
  exact lv_iload_n X.1 X.2.1 hd rfl (hl.2.2 _ (lvg_mem hv)) (k p e s m args below meth c H locs k1 n1 ls X h1 h2 hR hS hl hc)
theorem V_iload {i : Nat} {x : Int32} (hd : decode (kc K) pc = .ok (.iload i, 2)) (hv : lvg lv i = some (.int x)) (k : V g K R Qf kb nb nt h C M o (pc + 2) lv (.int x :: st)) : V g K R Qf kb nb nt h C M o pc lv (st) := by
  intro p e s m args below meth c H locs k1 n1 ls X h1 h2 hR hS hl hc
  exact lv_iload X.1 X.2.1 hd (hl.2.2 _ (lvg_mem hv)) (k p e s m args below meth c H locs k1 n1 ls X h1 h2 hR hS hl hc)
theorem V_aload_n {i : Fin 4} {x : Nat} (hd : decode (kc K) pc = .ok (.aload_n i, 1)) (hv : lvg lv i = some (.ref x)) (k : V g K R Qf kb nb nt h C M o (pc + 1) lv (.ref x :: st)) : V g K R Qf kb nb nt h C M o pc lv (st) := by
  intro p e s m args below meth c H locs k1 n1 ls X h1 h2 hR hS hl hc
  exact lv_aload_n X.1 X.2.1 hd rfl (hl.2.2 _ (lvg_mem hv)) (k p e s m args below meth c H locs k1 n1 ls X h1 h2 hR hS hl hc)
theorem V_aload {i : Nat} {x : Nat} (hd : decode (kc K) pc = .ok (.aload i, 2)) (hv : lvg lv i = some (.ref x)) (k : V g K R Qf kb nb nt h C M o (pc + 2) lv (.ref x :: st)) : V g K R Qf kb nb nt h C M o pc lv (st) := by
  intro p e s m args below meth c H locs k1 n1 ls X h1 h2 hR hS hl hc
  exact lv_aload X.1 X.2.1 hd (hl.2.2 _ (lvg_mem hv)) (k p e s m args below meth c H locs k1 n1 ls X h1 h2 hR hS hl hc)
theorem V_aload_nt {i : Fin 4} {r : Option Nat} (hd : decode (kc K) pc = .ok (.aload_n i, 1)) (hv : lvg lv i = some (va_rf r)) (k : V g K R Qf kb nb nt h C M o (pc + 1) lv (va_rf r :: st)) : V g K R Qf kb nb nt h C M o pc lv st := by
  intro p e s m args below meth c H locs k1 n1 ls X h1 h2 hR hS hl hc
  cases r with
  | none => exact lv_aload_nN X.1 X.2.1 hd rfl (hl.2.2 _ (lvg_mem hv)) (k p e s m args below meth c H locs k1 n1 ls X h1 h2 hR hS hl hc)
  | some x => exact lv_aload_n X.1 X.2.1 hd rfl (hl.2.2 _ (lvg_mem hv)) (k p e s m args below meth c H locs k1 n1 ls X h1 h2 hR hS hl hc)
theorem V_aloadt {i : Nat} {r : Option Nat} (hd : decode (kc K) pc = .ok (.aload i, 2)) (hv : lvg lv i = some (va_rf r)) (k : V g K R Qf kb nb nt h C M o (pc + 2) lv (va_rf r :: st)) : V g K R Qf kb nb nt h C M o pc lv st := by
  intro p e s m args below meth c H locs k1 n1 ls X h1 h2 hR hS hl hc
  cases r with
  | none => exact lv_aloadN X.1 X.2.1 hd (hl.2.2 _ (lvg_mem hv)) (k p e s m args below meth c H locs k1 n1 ls X h1 h2 hR hS hl hc)
  | some x => exact lv_aload X.1 X.2.1 hd (hl.2.2 _ (lvg_mem hv)) (k p e s m args below meth c H locs k1 n1 ls X h1 h2 hR hS hl hc)
theorem V_istore_n {i : Fin 4} {x : Int32} (hd : decode (kc K) pc = .ok (.istore_n i, 1)) (hi : (i : Nat) < kL K) (k : V g K R Qf kb nb nt h C M o (pc + 1) (lvs lv (i : Nat) (.int x)) st) : V g K R Qf kb nb nt h C M o pc lv (.int x :: st) := by
  intro p e s m args below meth c H locs k1 n1 ls X h1 h2 hR hS hl hc
  exact lv_istore_n X.1 X.2.1 hd rfl hl hi rfl (fun ls1 hl1 => k p e s m args below meth c H locs k1 n1 ls1 X h1 h2 hR hS (lvs_has hl1 hc) (lvs_cat rfl hc))
theorem V_istore {i : Nat} {x : Int32} (hd : decode (kc K) pc = .ok (.istore i, 2)) (hi : i < kL K) (k : V g K R Qf kb nb nt h C M o (pc + 2) (lvs lv i (.int x)) st) : V g K R Qf kb nb nt h C M o pc lv (.int x :: st) := by
  intro p e s m args below meth c H locs k1 n1 ls X h1 h2 hR hS hl hc
  exact lv_istore X.1 X.2.1 hd hl hi rfl (fun ls1 hl1 => k p e s m args below meth c H locs k1 n1 ls1 X h1 h2 hR hS (lvs_has hl1 hc) (lvs_cat rfl hc))
theorem V_astore_n {i : Fin 4} {x : Nat} (hd : decode (kc K) pc = .ok (.astore_n i, 1)) (hi : (i : Nat) < kL K) (k : V g K R Qf kb nb nt h C M o (pc + 1) (lvs lv (i : Nat) (.ref x)) st) : V g K R Qf kb nb nt h C M o pc lv (.ref x :: st) := by
  intro p e s m args below meth c H locs k1 n1 ls X h1 h2 hR hS hl hc
  exact lv_astore_n X.1 X.2.1 hd rfl hl hi rfl (fun ls1 hl1 => k p e s m args below meth c H locs k1 n1 ls1 X h1 h2 hR hS (lvs_has hl1 hc) (lvs_cat rfl hc))
theorem V_astore {i x : Nat} (hd : decode (kc K) pc = .ok (.astore i, 2)) (hi : i < kL K) (k : V g K R Qf kb nb nt h C M o (pc + 2) (lvs lv i (.ref x)) st) : V g K R Qf kb nb nt h C M o pc lv (.ref x :: st) := by
  intro p e s m args below meth c H locs k1 n1 ls X h1 h2 hR hS hl hc
  exact lv_astore X.1 X.2.1 hd hl hi rfl (fun ls1 hl1 => k p e s m args below meth c H locs k1 n1 ls1 X h1 h2 hR hS (lvs_has hl1 hc) (lvs_cat rfl hc))
theorem V_astore_nt {i : Fin 4} {r : Option Nat} (hd : decode (kc K) pc = .ok (.astore_n i, 1)) (hi : (i : Nat) < kL K) (k : V g K R Qf kb nb nt h C M o (pc + 1) (lvs lv (i : Nat) (va_rf r)) st) : V g K R Qf kb nb nt h C M o pc lv (va_rf r :: st) := by
  intro p e s m args below meth c H locs k1 n1 ls X h1 h2 hR hS hl hc
  cases r with
  | none => exact lv_astore_nN X.1 X.2.1 hd rfl hl hi rfl (fun ls1 hl1 => k p e s m args below meth c H locs k1 n1 ls1 X h1 h2 hR hS (lvs_has hl1 hc) (lvs_cat rfl hc))
  | some x => exact lv_astore_n X.1 X.2.1 hd rfl hl hi rfl (fun ls1 hl1 => k p e s m args below meth c H locs k1 n1 ls1 X h1 h2 hR hS (lvs_has hl1 hc) (lvs_cat rfl hc))
theorem V_astoret {i : Nat} {r : Option Nat} (hd : decode (kc K) pc = .ok (.astore i, 2)) (hi : i < kL K) (k : V g K R Qf kb nb nt h C M o (pc + 2) (lvs lv i (va_rf r)) st) : V g K R Qf kb nb nt h C M o pc lv (va_rf r :: st) := by
  intro p e s m args below meth c H locs k1 n1 ls X h1 h2 hR hS hl hc
  cases r with
  | none => exact lv_astoreN X.1 X.2.1 hd hl hi rfl (fun ls1 hl1 => k p e s m args below meth c H locs k1 n1 ls1 X h1 h2 hR hS (lvs_has hl1 hc) (lvs_cat rfl hc))
  | some x => exact lv_astore X.1 X.2.1 hd hl hi rfl (fun ls1 hl1 => k p e s m args below meth c H locs k1 n1 ls1 X h1 h2 hR hS (lvs_has hl1 hc) (lvs_cat rfl hc))
theorem V_iinc {i : Nat} {n : Int} {x v : Int32} (hd : decode (kc K) pc = .ok (.iinc i n, 3)) (hv : lvg lv i = some (.int x)) (hx : x + Int32.ofInt n = v) (hi : i < kL K) (k : V g K R Qf kb nb nt h C M o (pc + 3) (lvs lv i (.int v)) st) : V g K R Qf kb nb nt h C M o pc lv st := by
  intro p e s m args below meth c H locs k1 n1 ls X h1 h2 hR hS hl hc
  obtain ⟨q, hq⟩ := List.getElem?_of_mem (lvg_mem hv)
  exact lv_iinc X.1 X.2.1 hd hl hq hx hi rfl (fun ls1 hl1 => k p e s m args below meth c H locs k1 n1 ls1 X h1 h2 hR hS (lvs_has hl1 hc) (lvs_cat rfl hc))
theorem V_iadd {x y : Int32} (hd : decode (kc K) pc = .ok (.iadd, 1)) (k : V g K R Qf kb nb nt h C M o (pc + 1) lv (.int (x + y) :: st)) : V g K R Qf kb nb nt h C M o pc lv (.int y :: .int x :: st) := by
  intro p e s m args below meth c H locs k1 n1 ls X h1 h2 hR hS hl hc
  exact lv_iadd X.1 X.2.1 hd (k p e s m args below meth c H locs k1 n1 ls X h1 h2 hR hS hl hc)
theorem V_isub {x y : Int32} (hd : decode (kc K) pc = .ok (.isub, 1)) (k : V g K R Qf kb nb nt h C M o (pc + 1) lv (.int (x - y) :: st)) : V g K R Qf kb nb nt h C M o pc lv (.int y :: .int x :: st) := by
  intro p e s m args below meth c H locs k1 n1 ls X h1 h2 hR hS hl hc
  exact lv_isub X.1 X.2.1 hd (k p e s m args below meth c H locs k1 n1 ls X h1 h2 hR hS hl hc)
theorem V_imul {x y : Int32} (hd : decode (kc K) pc = .ok (.imul, 1)) (k : V g K R Qf kb nb nt h C M o (pc + 1) lv (.int (x * y) :: st)) : V g K R Qf kb nb nt h C M o pc lv (.int y :: .int x :: st) := by
  intro p e s m args below meth c H locs k1 n1 ls X h1 h2 hR hS hl hc
  exact lv_imul X.1 X.2.1 hd (k p e s m args below meth c H locs k1 n1 ls X h1 h2 hR hS hl hc)
theorem V_iand {x y : Int32} (hd : decode (kc K) pc = .ok (.iand, 1)) (k : V g K R Qf kb nb nt h C M o (pc + 1) lv (.int (x &&& y) :: st)) : V g K R Qf kb nb nt h C M o pc lv (.int y :: .int x :: st) := by
  intro p e s m args below meth c H locs k1 n1 ls X h1 h2 hR hS hl hc
  exact lv_iand X.1 X.2.1 hd (k p e s m args below meth c H locs k1 n1 ls X h1 h2 hR hS hl hc)
theorem V_ior {x y : Int32} (hd : decode (kc K) pc = .ok (.ior, 1)) (k : V g K R Qf kb nb nt h C M o (pc + 1) lv (.int (x ||| y) :: st)) : V g K R Qf kb nb nt h C M o pc lv (.int y :: .int x :: st) := by
  intro p e s m args below meth c H locs k1 n1 ls X h1 h2 hR hS hl hc
  exact lv_ior X.1 X.2.1 hd (k p e s m args below meth c H locs k1 n1 ls X h1 h2 hR hS hl hc)
theorem V_ishl {x y : Int32} (hd : decode (kc K) pc = .ok (.ishl, 1)) (k : V g K R Qf kb nb nt h C M o (pc + 1) lv (.int (x <<< (y &&& 31)) :: st)) : V g K R Qf kb nb nt h C M o pc lv (.int y :: .int x :: st) := by
  intro p e s m args below meth c H locs k1 n1 ls X h1 h2 hR hS hl hc
  exact lv_ishl X.1 X.2.1 hd (k p e s m args below meth c H locs k1 n1 ls X h1 h2 hR hS hl hc)
theorem V_iushr {x y : Int32} (hd : decode (kc K) pc = .ok (.iushr, 1)) (k : V g K R Qf kb nb nt h C M o (pc + 1) lv (.int (x.toUInt32 >>> (y.toUInt32 &&& Int32.toUInt32 31)).toInt32 :: st)) : V g K R Qf kb nb nt h C M o pc lv (.int y :: .int x :: st) := by
  intro p e s m args below meth c H locs k1 n1 ls X h1 h2 hR hS hl hc
  exact lv_iushr X.1 X.2.1 hd rfl (k p e s m args below meth c H locs k1 n1 ls X h1 h2 hR hS hl hc)
theorem V_idiv {x y : Int32} (hd : decode (kc K) pc = .ok (.idiv, 1)) (hy : y ≠ 0) (k : V g K R Qf kb nb nt h C M o (pc + 1) lv (.int (x / y) :: st)) : V g K R Qf kb nb nt h C M o pc lv (.int y :: .int x :: st) := by
  intro p e s m args below meth c H locs k1 n1 ls X h1 h2 hR hS hl hc
  exact lv_idiv X.1 X.2.1 hd hy (k p e s m args below meth c H locs k1 n1 ls X h1 h2 hR hS hl hc)
theorem V_irem {x y : Int32} (hd : decode (kc K) pc = .ok (.irem, 1)) (hy : y ≠ 0) (k : V g K R Qf kb nb nt h C M o (pc + 1) lv (.int (x - x / y * y) :: st)) : V g K R Qf kb nb nt h C M o pc lv (.int y :: .int x :: st) := by
  intro p e s m args below meth c H locs k1 n1 ls X h1 h2 hR hS hl hc
  exact lv_irem X.1 X.2.1 hd hy (k p e s m args below meth c H locs k1 n1 ls X h1 h2 hR hS hl hc)
theorem V_i2l {x : Int32} (hd : decode (kc K) pc = .ok (.i2l, 1)) (k : V g K R Qf kb nb nt h C M o (pc + 1) lv (.long x.toInt64 :: st)) : V g K R Qf kb nb nt h C M o pc lv (.int x :: st) := by
  intro p e s m args below meth c H locs k1 n1 ls X h1 h2 hR hS hl hc
  exact lv_i2l X.1 X.2.1 hd rfl (k p e s m args below meth c H locs k1 n1 ls X h1 h2 hR hS hl hc)
theorem V_dup {v : Value} (hd : decode (kc K) pc = .ok (.dup, 1)) (hv : v.category = 1) (k : V g K R Qf kb nb nt h C M o (pc + 1) lv (v :: v :: st)) : V g K R Qf kb nb nt h C M o pc lv (v :: st) := by
  intro p e s m args below meth c H locs k1 n1 ls X h1 h2 hR hS hl hc
  exact lv_dup X.1 X.2.1 hd hv (k p e s m args below meth c H locs k1 n1 ls X h1 h2 hR hS hl hc)
theorem V_null (hd : decode (kc K) pc = .ok (.aconst_null, 1)) (k : V g K R Qf kb nb nt h C M o (pc + 1) lv (.null :: st)) : V g K R Qf kb nb nt h C M o pc lv (st) := by
  intro p e s m args below meth c H locs k1 n1 ls X h1 h2 hR hS hl hc
  exact lv_null X.1 X.2.1 hd (k p e s m args below meth c H locs k1 n1 ls X h1 h2 hR hS hl hc)
theorem V_icmp_eq {x y : Int32} {off : Int} {tgt : Nat} (hd : decode (kc K) pc = .ok (.if_icmp .eq off, 3)) (ht : (pc : Int) + off = (tgt : Int)) (k1 : x = y → V g K R Qf kb nb nt h C M o tgt lv st) (k2 : ¬ (x = y) → V g K R Qf kb nb nt h C M o (pc + 3) lv st) : V g K R Qf kb nb nt h C M o pc lv (.int y :: .int x :: st) := by
  intro p e s m args below meth c H locs k3 n1 ls X h1 h2 hR hS hl hc
  exact lv_icmp_eq X.1 X.2.1 hd ht (fun q => k1 q p e s m args below meth c H locs k3 n1 ls X h1 h2 hR hS hl hc) (fun q => k2 q p e s m args below meth c H locs k3 n1 ls X h1 h2 hR hS hl hc)
theorem V_icmp_ne {x y : Int32} {off : Int} {tgt : Nat} (hd : decode (kc K) pc = .ok (.if_icmp .ne off, 3)) (ht : (pc : Int) + off = (tgt : Int)) (k1 : ¬ x = y → V g K R Qf kb nb nt h C M o tgt lv st) (k2 : x = y → V g K R Qf kb nb nt h C M o (pc + 3) lv st) : V g K R Qf kb nb nt h C M o pc lv (.int y :: .int x :: st) := by
  intro p e s m args below meth c H locs k3 n1 ls X h1 h2 hR hS hl hc
  exact lv_icmp_ne X.1 X.2.1 hd ht (fun q => k1 q p e s m args below meth c H locs k3 n1 ls X h1 h2 hR hS hl hc) (fun q => k2 q p e s m args below meth c H locs k3 n1 ls X h1 h2 hR hS hl hc)
theorem V_icmp_lt {x y : Int32} {off : Int} {tgt : Nat} (hd : decode (kc K) pc = .ok (.if_icmp .lt off, 3)) (ht : (pc : Int) + off = (tgt : Int)) (k1 : x < y → V g K R Qf kb nb nt h C M o tgt lv st) (k2 : ¬ (x < y) → V g K R Qf kb nb nt h C M o (pc + 3) lv st) : V g K R Qf kb nb nt h C M o pc lv (.int y :: .int x :: st) := by
  intro p e s m args below meth c H locs k3 n1 ls X h1 h2 hR hS hl hc
  exact lv_icmp_lt X.1 X.2.1 hd ht (fun q => k1 q p e s m args below meth c H locs k3 n1 ls X h1 h2 hR hS hl hc) (fun q => k2 q p e s m args below meth c H locs k3 n1 ls X h1 h2 hR hS hl hc)
theorem V_icmp_ge {x y : Int32} {off : Int} {tgt : Nat} (hd : decode (kc K) pc = .ok (.if_icmp .ge off, 3)) (ht : (pc : Int) + off = (tgt : Int)) (k1 : y ≤ x → V g K R Qf kb nb nt h C M o tgt lv st) (k2 : ¬ (y ≤ x) → V g K R Qf kb nb nt h C M o (pc + 3) lv st) : V g K R Qf kb nb nt h C M o pc lv (.int y :: .int x :: st) := by
  intro p e s m args below meth c H locs k3 n1 ls X h1 h2 hR hS hl hc
  exact lv_icmp_ge X.1 X.2.1 hd ht (fun q => k1 q p e s m args below meth c H locs k3 n1 ls X h1 h2 hR hS hl hc) (fun q => k2 q p e s m args below meth c H locs k3 n1 ls X h1 h2 hR hS hl hc)
theorem V_icmp_gt {x y : Int32} {off : Int} {tgt : Nat} (hd : decode (kc K) pc = .ok (.if_icmp .gt off, 3)) (ht : (pc : Int) + off = (tgt : Int)) (k1 : y < x → V g K R Qf kb nb nt h C M o tgt lv st) (k2 : ¬ (y < x) → V g K R Qf kb nb nt h C M o (pc + 3) lv st) : V g K R Qf kb nb nt h C M o pc lv (.int y :: .int x :: st) := by
  intro p e s m args below meth c H locs k3 n1 ls X h1 h2 hR hS hl hc
  exact lv_icmp_gt X.1 X.2.1 hd ht (fun q => k1 q p e s m args below meth c H locs k3 n1 ls X h1 h2 hR hS hl hc) (fun q => k2 q p e s m args below meth c H locs k3 n1 ls X h1 h2 hR hS hl hc)
theorem V_icmp_le {x y : Int32} {off : Int} {tgt : Nat} (hd : decode (kc K) pc = .ok (.if_icmp .le off, 3)) (ht : (pc : Int) + off = (tgt : Int)) (k1 : x ≤ y → V g K R Qf kb nb nt h C M o tgt lv st) (k2 : ¬ (x ≤ y) → V g K R Qf kb nb nt h C M o (pc + 3) lv st) : V g K R Qf kb nb nt h C M o pc lv (.int y :: .int x :: st) := by
  intro p e s m args below meth c H locs k3 n1 ls X h1 h2 hR hS hl hc
  exact lv_icmp_le X.1 X.2.1 hd ht (fun q => k1 q p e s m args below meth c H locs k3 n1 ls X h1 h2 hR hS hl hc) (fun q => k2 q p e s m args below meth c H locs k3 n1 ls X h1 h2 hR hS hl hc)
theorem V_if_eq {x : Int32} {off : Int} {tgt : Nat} (hd : decode (kc K) pc = .ok (.ifCond .eq off, 3)) (ht : (pc : Int) + off = (tgt : Int)) (k1 : x = 0 → V g K R Qf kb nb nt h C M o tgt lv st) (k2 : ¬ (x = 0) → V g K R Qf kb nb nt h C M o (pc + 3) lv st) : V g K R Qf kb nb nt h C M o pc lv (.int x :: st) := by
  intro p e s m args below meth c H locs k3 n1 ls X h1 h2 hR hS hl hc
  exact lv_if_eq X.1 X.2.1 hd ht (fun q => k1 q p e s m args below meth c H locs k3 n1 ls X h1 h2 hR hS hl hc) (fun q => k2 q p e s m args below meth c H locs k3 n1 ls X h1 h2 hR hS hl hc)
theorem V_if_ne {x : Int32} {off : Int} {tgt : Nat} (hd : decode (kc K) pc = .ok (.ifCond .ne off, 3)) (ht : (pc : Int) + off = (tgt : Int)) (k1 : ¬ x = 0 → V g K R Qf kb nb nt h C M o tgt lv st) (k2 : x = 0 → V g K R Qf kb nb nt h C M o (pc + 3) lv st) : V g K R Qf kb nb nt h C M o pc lv (.int x :: st) := by
  intro p e s m args below meth c H locs k3 n1 ls X h1 h2 hR hS hl hc
  exact lv_if_ne X.1 X.2.1 hd ht (fun q => k1 q p e s m args below meth c H locs k3 n1 ls X h1 h2 hR hS hl hc) (fun q => k2 q p e s m args below meth c H locs k3 n1 ls X h1 h2 hR hS hl hc)
theorem V_if_lt {x : Int32} {off : Int} {tgt : Nat} (hd : decode (kc K) pc = .ok (.ifCond .lt off, 3)) (ht : (pc : Int) + off = (tgt : Int)) (k1 : x < 0 → V g K R Qf kb nb nt h C M o tgt lv st) (k2 : ¬ (x < 0) → V g K R Qf kb nb nt h C M o (pc + 3) lv st) : V g K R Qf kb nb nt h C M o pc lv (.int x :: st) := by
  intro p e s m args below meth c H locs k3 n1 ls X h1 h2 hR hS hl hc
  exact lv_if_lt X.1 X.2.1 hd ht (fun q => k1 q p e s m args below meth c H locs k3 n1 ls X h1 h2 hR hS hl hc) (fun q => k2 q p e s m args below meth c H locs k3 n1 ls X h1 h2 hR hS hl hc)
theorem V_if_ge {x : Int32} {off : Int} {tgt : Nat} (hd : decode (kc K) pc = .ok (.ifCond .ge off, 3)) (ht : (pc : Int) + off = (tgt : Int)) (k1 : 0 ≤ x → V g K R Qf kb nb nt h C M o tgt lv st) (k2 : ¬ (0 ≤ x) → V g K R Qf kb nb nt h C M o (pc + 3) lv st) : V g K R Qf kb nb nt h C M o pc lv (.int x :: st) := by
  intro p e s m args below meth c H locs k3 n1 ls X h1 h2 hR hS hl hc
  exact lv_if_ge X.1 X.2.1 hd ht (fun q => k1 q p e s m args below meth c H locs k3 n1 ls X h1 h2 hR hS hl hc) (fun q => k2 q p e s m args below meth c H locs k3 n1 ls X h1 h2 hR hS hl hc)
theorem V_if_gt {x : Int32} {off : Int} {tgt : Nat} (hd : decode (kc K) pc = .ok (.ifCond .gt off, 3)) (ht : (pc : Int) + off = (tgt : Int)) (k1 : 0 < x → V g K R Qf kb nb nt h C M o tgt lv st) (k2 : ¬ (0 < x) → V g K R Qf kb nb nt h C M o (pc + 3) lv st) : V g K R Qf kb nb nt h C M o pc lv (.int x :: st) := by
  intro p e s m args below meth c H locs k3 n1 ls X h1 h2 hR hS hl hc
  exact lv_if_gt X.1 X.2.1 hd ht (fun q => k1 q p e s m args below meth c H locs k3 n1 ls X h1 h2 hR hS hl hc) (fun q => k2 q p e s m args below meth c H locs k3 n1 ls X h1 h2 hR hS hl hc)
theorem V_if_le {x : Int32} {off : Int} {tgt : Nat} (hd : decode (kc K) pc = .ok (.ifCond .le off, 3)) (ht : (pc : Int) + off = (tgt : Int)) (k1 : x ≤ 0 → V g K R Qf kb nb nt h C M o tgt lv st) (k2 : ¬ (x ≤ 0) → V g K R Qf kb nb nt h C M o (pc + 3) lv st) : V g K R Qf kb nb nt h C M o pc lv (.int x :: st) := by
  intro p e s m args below meth c H locs k3 n1 ls X h1 h2 hR hS hl hc
  exact lv_if_le X.1 X.2.1 hd ht (fun q => k1 q p e s m args below meth c H locs k3 n1 ls X h1 h2 hR hS hl hc) (fun q => k2 q p e s m args below meth c H locs k3 n1 ls X h1 h2 hR hS hl hc)
theorem V_goto {off : Int} {tgt : Nat} (hd : decode (kc K) pc = .ok (.goto off, 3)) (ht : (pc : Int) + off = (tgt : Int)) (k : V g K R Qf kb nb nt h C M o tgt lv st) : V g K R Qf kb nb nt h C M o pc lv st := by
  intro p e s m args below meth c H locs k1 n1 ls X h1 h2 hR hS hl hc
  exact lv_goto X.1 X.2.1 hd ht (k p e s m args below meth c H locs k1 n1 ls X h1 h2 hR hS hl hc)
theorem V_ifnull {r : Option Nat} {off : Int} {tgt : Nat} (hd : decode (kc K) pc = .ok (.ifnull off, 3)) (ht : (pc : Int) + off = (tgt : Int)) (k1 : r = none → V g K R Qf kb nb nt h C M o tgt lv st) (k2 : r ≠ none → V g K R Qf kb nb nt h C M o (pc + 3) lv st) : V g K R Qf kb nb nt h C M o pc lv (va_rf r :: st) := by
  intro p e s m args below meth c H locs k3 n1 ls X h1 h2 hR hS hl hc
  cases r with
  | none => exact lv_ifnullN X.1 X.2.1 hd ht (k1 rfl p e s m args below meth c H locs k3 n1 ls X h1 h2 hR hS hl hc)
  | some x => exact lv_ifnull X.1 X.2.1 hd (k2 (fun q => by cases q) p e s m args below meth c H locs k3 n1 ls X h1 h2 hR hS hl hc)
theorem V_ifnonnull {r : Option Nat} {off : Int} {tgt : Nat} (hd : decode (kc K) pc = .ok (.ifnonnull off, 3)) (ht : (pc : Int) + off = (tgt : Int)) (k1 : r ≠ none → V g K R Qf kb nb nt h C M o tgt lv st) (k2 : r = none → V g K R Qf kb nb nt h C M o (pc + 3) lv st) : V g K R Qf kb nb nt h C M o pc lv (va_rf r :: st) := by
  intro p e s m args below meth c H locs k3 n1 ls X h1 h2 hR hS hl hc
  cases r with
  | none => exact lv_ifnonnullN X.1 X.2.1 hd (k2 rfl p e s m args below meth c H locs k3 n1 ls X h1 h2 hR hS hl hc)
  | some x => exact lv_ifnonnull X.1 X.2.1 hd ht (k1 (fun q => by cases q) p e s m args below meth c H locs k3 n1 ls X h1 h2 hR hS hl hc)
theorem V_acmp_eq {rx ry : Option Nat} {off : Int} {tgt : Nat} (hd : decode (kc K) pc = .ok (.if_acmp .eq off, 3)) (ht : (pc : Int) + off = (tgt : Int)) (k1 : rx = ry → V g K R Qf kb nb nt h C M o tgt lv st) (k2 : ¬ rx = ry → V g K R Qf kb nb nt h C M o (pc + 3) lv st) : V g K R Qf kb nb nt h C M o pc lv (va_rf ry :: va_rf rx :: st) := by
  intro p e s m args below meth c H locs k3 n1 ls X h1 h2 hR hS hl hc
  exact lv_acmp_eq X.1 X.2.1 hd ht (fun q => k1 q p e s m args below meth c H locs k3 n1 ls X h1 h2 hR hS hl hc) (fun q => k2 q p e s m args below meth c H locs k3 n1 ls X h1 h2 hR hS hl hc)
theorem V_acmp_ne {rx ry : Option Nat} {off : Int} {tgt : Nat} (hd : decode (kc K) pc = .ok (.if_acmp .ne off, 3)) (ht : (pc : Int) + off = (tgt : Int)) (k1 : ¬ rx = ry → V g K R Qf kb nb nt h C M o tgt lv st) (k2 : rx = ry → V g K R Qf kb nb nt h C M o (pc + 3) lv st) : V g K R Qf kb nb nt h C M o pc lv (va_rf ry :: va_rf rx :: st) := by
  intro p e s m args below meth c H locs k3 n1 ls X h1 h2 hR hS hl hc
  exact lv_acmp_ne X.1 X.2.1 hd ht (fun q => k1 q p e s m args below meth c H locs k3 n1 ls X h1 h2 hR hS hl hc) (fun q => k2 q p e s m args below meth c H locs k3 n1 ls X h1 h2 hR hS hl hc)
theorem V_ldc {index : Nat} {v : Int32} (hd : decode (kc K) pc = .ok (.ldc index, 2)) (hw : Cond.constant (ko K) index v ∈ gtbl) (k : V g K R Qf kb nb nt h C M o (pc + 2) lv (.int v :: st)) : V g K R Qf kb nb nt h C M o pc lv st := by
  intro p e s m args below meth c H locs k1 n1 ls X h1 h2 hR hS hl hc
  exact lv_ldc X.1 X.2.1 X.2.2.2.2.1 (X.2.2.2.2.2.1 _ hw) hd (k p e s m args below meth c H locs k1 n1 ls X h1 h2 hR hS hl hc)
theorem V_ldcw {index : Nat} {v : Int32} (hd : decode (kc K) pc = .ok (.ldc_w index, 3)) (hw : Cond.constant (ko K) index v ∈ gtbl) (k : V g K R Qf kb nb nt h C M o (pc + 3) lv (.int v :: st)) : V g K R Qf kb nb nt h C M o pc lv st := by
  intro p e s m args below meth c H locs k1 n1 ls X h1 h2 hR hS hl hc
  exact lv_ldcw X.1 X.2.1 X.2.2.2.2.1 (X.2.2.2.2.2.1 _ hw) hd (k p e s m args below meth c H locs k1 n1 ls X h1 h2 hR hS hl hc)
theorem V_lcmp {x y : Int64} (hd : decode (kc K) pc = .ok (.lcmp, 1)) (k : V g K R Qf kb nb nt h C M o (pc + 1) lv (.int (lg_cmp x y) :: st)) : V g K R Qf kb nb nt h C M o pc lv (.long y :: .long x :: st) := by
  intro p e s m args below meth c H locs k1 n1 ls X h1 h2 hR hS hl hc
  exact W.lcmp X.1 X.2.1 hd (k p e s m args below meth c H locs k1 n1 ls X h1 h2 hR hS hl hc)
end ROWS
