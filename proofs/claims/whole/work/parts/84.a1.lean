/-! the judgement VL: as V, over any list of cells; its plain rows; what makes cells -/
def VL (g : GT) (A : Nat → Prop) (E : State → Method → Prop) (K : MK) (R : Room) (Qf : QT) (kb nb : Nat) (ws : va_W) (pc : Nat) (lv : List (Nat × Value)) (st : List Value) : Prop :=
  ∀ (p : Program) (e : Env) (s : State) (m : MethodId) (args : Array Value) (below : List Frame) (meth : Method) (c : Code) (H : Heap) (locs : List Loc) (k n : Nat) (ls : Array Slot),
    Cx g K p s m args meth c → E s meth → k ≤ kb → n ≤ nb → (va_P (gD g) vwCl ws H ∧ va_D A ws) → va_S A s.heap H locs → lv_has ls (kL K) lv → (∀ q ∈ lv, q.2.category = 1) →
    W p (gl g) e R s m args below meth c H locs k n (Qf below args s) (F0 m pc ls st)
section LROWS
variable {g : GT} {A : Nat → Prop} {E : State → Method → Prop} {K : MK} {R : Room} {Qf : QT} {kb nb : Nat} {ws : va_W} {pc : Nat} {lv : List (Nat × Value)} {st : List Value}
theorem L_sub (ks : List Nat) {lv' : List (Nat × Value)} (e : lvp lv ks = lv') (k : VL g A E K R Qf kb nb ws pc lv' st) : VL g A E K R Qf kb nb ws pc lv st := by
  intro p e1 s m args below meth c H locs k1 n1 ls X hE h1 h2 hR hS hl hc
  subst e
  exact k p e1 s m args below meth c H locs k1 n1 ls X hE h1 h2 hR hS ⟨hl.1, hl.2.1, fun q hq => hl.2.2 q (lvp_mem hq)⟩ (fun q hq => hc q (lvp_mem hq))
theorem L_mono {kb' nb' : Nat} (e1 : kb ≤ kb') (e2 : nb ≤ nb') (k : VL g A E K R Qf kb' nb' ws pc lv st) : VL g A E K R Qf kb nb ws pc lv st := by
  intro p e s m args below meth c H locs k1 n1 ls X hE h1 h2
  exact k p e s m args below meth c H locs k1 n1 ls X hE (Nat.le_trans h1 e1) (Nat.le_trans h2 e2)
theorem L_iconst {n : Int} {v : Int32} (hd : decode (kc K) pc = .ok (.iconst n, 1)) (hv : Int32.ofInt n = v) (k : VL g A E K R Qf kb nb ws (pc + 1) lv (.int v :: st)) : VL g A E K R Qf kb nb ws pc lv (st) := by
  intro p e s m args below meth c H locs k1 n1 ls X hE h1 h2 hR hS hl hc
  exact lv_iconst X.1 X.2.1 hd hv (k p e s m args below meth c H locs k1 n1 ls X hE h1 h2 hR hS hl hc)
theorem L_bipush {n : Int} {v : Int32} (hd : decode (kc K) pc = .ok (.bipush n, 2)) (hv : (Int8.ofInt n).toInt32 = v) (k : VL g A E K R Qf kb nb ws (pc + 2) lv (.int v :: st)) : VL g A E K R Qf kb nb ws pc lv (st) := by
  intro p e s m args below meth c H locs k1 n1 ls X hE h1 h2 hR hS hl hc
  exact lv_bipush X.1 X.2.1 hd hv (k p e s m args below meth c H locs k1 n1 ls X hE h1 h2 hR hS hl hc)
theorem L_sipush {n : Int} {v : Int32} (hd : decode (kc K) pc = .ok (.sipush n, 3)) (hv : (Int16.ofInt n).toInt32 = v) (k : VL g A E K R Qf kb nb ws (pc + 3) lv (.int v :: st)) : VL g A E K R Qf kb nb ws pc lv (st) := by
  intro p e s m args below meth c H locs k1 n1 ls X hE h1 h2 hR hS hl hc
  exact lv_sipush X.1 X.2.1 hd hv (k p e s m args below meth c H locs k1 n1 ls X hE h1 h2 hR hS hl hc)
theorem L_iload_n {i : Fin 4} {x : Int32} (hd : decode (kc K) pc = .ok (.iload_n i, 1)) (hv : lvg lv i = some (.int x)) (k : VL g A E K R Qf kb nb ws (pc + 1) lv (.int x :: st)) : VL g A E K R Qf kb nb ws pc lv (st) := by
  intro p e s m args below meth c H locs k1 n1 ls X hE h1 h2 hR hS hl hc
  exact lv_iload_n X.1 X.2.1 hd rfl (hl.2.2 _ (lvg_mem hv)) (k p e s m args below meth c H locs k1 n1 ls X hE h1 h2 hR hS hl hc)
theorem L_iload {i : Nat} {x : Int32} (hd : decode (kc K) pc = .ok (.iload i, 2)) (hv : lvg lv i = some (.int x)) (k : VL g A E K R Qf kb nb ws (pc + 2) lv (.int x :: st)) : VL g A E K R Qf kb nb ws pc lv (st) := by
  intro p e s m args below meth c H locs k1 n1 ls X hE h1 h2 hR hS hl hc
  exact lv_iload X.1 X.2.1 hd (hl.2.2 _ (lvg_mem hv)) (k p e s m args below meth c H locs k1 n1 ls X hE h1 h2 hR hS hl hc)
theorem L_aload_n {i : Fin 4} {x : Nat} (hd : decode (kc K) pc = .ok (.aload_n i, 1)) (hv : lvg lv i = some (.ref x)) (k : VL g A E K R Qf kb nb ws (pc + 1) lv (.ref x :: st)) : VL g A E K R Qf kb nb ws pc lv (st) := by
  intro p e s m args below meth c H locs k1 n1 ls X hE h1 h2 hR hS hl hc
  exact lv_aload_n X.1 X.2.1 hd rfl (hl.2.2 _ (lvg_mem hv)) (k p e s m args below meth c H locs k1 n1 ls X hE h1 h2 hR hS hl hc)
theorem L_aload {i : Nat} {x : Nat} (hd : decode (kc K) pc = .ok (.aload i, 2)) (hv : lvg lv i = some (.ref x)) (k : VL g A E K R Qf kb nb ws (pc + 2) lv (.ref x :: st)) : VL g A E K R Qf kb nb ws pc lv (st) := by
  intro p e s m args below meth c H locs k1 n1 ls X hE h1 h2 hR hS hl hc
  exact lv_aload X.1 X.2.1 hd (hl.2.2 _ (lvg_mem hv)) (k p e s m args below meth c H locs k1 n1 ls X hE h1 h2 hR hS hl hc)
theorem L_istore_n {i : Fin 4} {x : Int32} (hd : decode (kc K) pc = .ok (.istore_n i, 1)) (hi : (i : Nat) < kL K) (k : VL g A E K R Qf kb nb ws (pc + 1) (lvs lv (i : Nat) (.int x)) st) : VL g A E K R Qf kb nb ws pc lv (.int x :: st) := by
  intro p e s m args below meth c H locs k1 n1 ls X hE h1 h2 hR hS hl hc
  exact lv_istore_n X.1 X.2.1 hd rfl hl hi rfl (fun ls1 hl1 => k p e s m args below meth c H locs k1 n1 ls1 X hE h1 h2 hR hS (lvs_has hl1 hc) (lvs_cat rfl hc))
theorem L_istore {i : Nat} {x : Int32} (hd : decode (kc K) pc = .ok (.istore i, 2)) (hi : i < kL K) (k : VL g A E K R Qf kb nb ws (pc + 2) (lvs lv i (.int x)) st) : VL g A E K R Qf kb nb ws pc lv (.int x :: st) := by
  intro p e s m args below meth c H locs k1 n1 ls X hE h1 h2 hR hS hl hc
  exact lv_istore X.1 X.2.1 hd hl hi rfl (fun ls1 hl1 => k p e s m args below meth c H locs k1 n1 ls1 X hE h1 h2 hR hS (lvs_has hl1 hc) (lvs_cat rfl hc))
theorem L_astore_n {i : Fin 4} {x : Nat} (hd : decode (kc K) pc = .ok (.astore_n i, 1)) (hi : (i : Nat) < kL K) (k : VL g A E K R Qf kb nb ws (pc + 1) (lvs lv (i : Nat) (.ref x)) st) : VL g A E K R Qf kb nb ws pc lv (.ref x :: st) := by
  intro p e s m args below meth c H locs k1 n1 ls X hE h1 h2 hR hS hl hc
  exact lv_astore_n X.1 X.2.1 hd rfl hl hi rfl (fun ls1 hl1 => k p e s m args below meth c H locs k1 n1 ls1 X hE h1 h2 hR hS (lvs_has hl1 hc) (lvs_cat rfl hc))
theorem L_iinc {i : Nat} {n : Int} {x v : Int32} (hd : decode (kc K) pc = .ok (.iinc i n, 3)) (hv : lvg lv i = some (.int x)) (hx : x + Int32.ofInt n = v) (hi : i < kL K) (k : VL g A E K R Qf kb nb ws (pc + 3) (lvs lv i (.int v)) st) : VL g A E K R Qf kb nb ws pc lv st := by
  intro p e s m args below meth c H locs k1 n1 ls X hE h1 h2 hR hS hl hc
  obtain ⟨q, hq⟩ := List.getElem?_of_mem (lvg_mem hv)
  exact lv_iinc X.1 X.2.1 hd hl hq hx hi rfl (fun ls1 hl1 => k p e s m args below meth c H locs k1 n1 ls1 X hE h1 h2 hR hS (lvs_has hl1 hc) (lvs_cat rfl hc))
theorem L_iadd {x y : Int32} (hd : decode (kc K) pc = .ok (.iadd, 1)) (k : VL g A E K R Qf kb nb ws (pc + 1) lv (.int (x + y) :: st)) : VL g A E K R Qf kb nb ws pc lv (.int y :: .int x :: st) := by
  intro p e s m args below meth c H locs k1 n1 ls X hE h1 h2 hR hS hl hc
  exact lv_iadd X.1 X.2.1 hd (k p e s m args below meth c H locs k1 n1 ls X hE h1 h2 hR hS hl hc)
theorem L_isub {x y : Int32} (hd : decode (kc K) pc = .ok (.isub, 1)) (k : VL g A E K R Qf kb nb ws (pc + 1) lv (.int (x - y) :: st)) : VL g A E K R Qf kb nb ws pc lv (.int y :: .int x :: st) := by
  intro p e s m args below meth c H locs k1 n1 ls X hE h1 h2 hR hS hl hc
  exact lv_isub X.1 X.2.1 hd (k p e s m args below meth c H locs k1 n1 ls X hE h1 h2 hR hS hl hc)
theorem L_imul {x y : Int32} (hd : decode (kc K) pc = .ok (.imul, 1)) (k : VL g A E K R Qf kb nb ws (pc + 1) lv (.int (x * y) :: st)) : VL g A E K R Qf kb nb ws pc lv (.int y :: .int x :: st) := by
  intro p e s m args below meth c H locs k1 n1 ls X hE h1 h2 hR hS hl hc
  exact lv_imul X.1 X.2.1 hd (k p e s m args below meth c H locs k1 n1 ls X hE h1 h2 hR hS hl hc)
theorem L_dup {v : Value} (hd : decode (kc K) pc = .ok (.dup, 1)) (hv : v.category = 1) (k : VL g A E K R Qf kb nb ws (pc + 1) lv (v :: v :: st)) : VL g A E K R Qf kb nb ws pc lv (v :: st) := by
  intro p e s m args below meth c H locs k1 n1 ls X hE h1 h2 hR hS hl hc
  exact lv_dup X.1 X.2.1 hd hv (k p e s m args below meth c H locs k1 n1 ls X hE h1 h2 hR hS hl hc)
theorem L_null (hd : decode (kc K) pc = .ok (.aconst_null, 1)) (k : VL g A E K R Qf kb nb ws (pc + 1) lv (.null :: st)) : VL g A E K R Qf kb nb ws pc lv (st) := by
  intro p e s m args below meth c H locs k1 n1 ls X hE h1 h2 hR hS hl hc
  exact lv_null X.1 X.2.1 hd (k p e s m args below meth c H locs k1 n1 ls X hE h1 h2 hR hS hl hc)
theorem L_icmp_lt {x y : Int32} {off : Int} {tgt : Nat} (hd : decode (kc K) pc = .ok (.if_icmp .lt off, 3)) (ht : (pc : Int) + off = (tgt : Int)) (k1 : x < y → VL g A E K R Qf kb nb ws tgt lv st) (k2 : ¬ (x < y) → VL g A E K R Qf kb nb ws (pc + 3) lv st) : VL g A E K R Qf kb nb ws pc lv (.int y :: .int x :: st) := by
  intro p e s m args below meth c H locs k3 n1 ls X hE h1 h2 hR hS hl hc
  exact lv_icmp_lt X.1 X.2.1 hd ht (fun q => k1 q p e s m args below meth c H locs k3 n1 ls X hE h1 h2 hR hS hl hc) (fun q => k2 q p e s m args below meth c H locs k3 n1 ls X hE h1 h2 hR hS hl hc)
theorem L_icmp_ge {x y : Int32} {off : Int} {tgt : Nat} (hd : decode (kc K) pc = .ok (.if_icmp .ge off, 3)) (ht : (pc : Int) + off = (tgt : Int)) (k1 : y ≤ x → VL g A E K R Qf kb nb ws tgt lv st) (k2 : ¬ (y ≤ x) → VL g A E K R Qf kb nb ws (pc + 3) lv st) : VL g A E K R Qf kb nb ws pc lv (.int y :: .int x :: st) := by
  intro p e s m args below meth c H locs k3 n1 ls X hE h1 h2 hR hS hl hc
  exact lv_icmp_ge X.1 X.2.1 hd ht (fun q => k1 q p e s m args below meth c H locs k3 n1 ls X hE h1 h2 hR hS hl hc) (fun q => k2 q p e s m args below meth c H locs k3 n1 ls X hE h1 h2 hR hS hl hc)
theorem L_goto {off : Int} {tgt : Nat} (hd : decode (kc K) pc = .ok (.goto off, 3)) (ht : (pc : Int) + off = (tgt : Int)) (k : VL g A E K R Qf kb nb ws tgt lv st) : VL g A E K R Qf kb nb ws pc lv st := by
  intro p e s m args below meth c H locs k1 n1 ls X hE h1 h2 hR hS hl hc
  exact lv_goto X.1 X.2.1 hd ht (k p e s m args below meth c H locs k1 n1 ls X hE h1 h2 hR hS hl hc)
end LROWS
