/-! the law: its judgement's end, its script -/
def R_law : String := "TwinphaseLaw"
def lw_P (b : Addr) (xs : List Int32) (args : Array Value) (s : State) : Prop := args = #[.ref b] ∧ s.IntsAt b xs ∧ xs.length ≤ 2048 ∧ (Jvm.Cond.and given_1 narrow_1).before args s = true
def lw_Q (_ : Array Value) (s : State) (o : Outcome) (t : State) : Prop := o = .returned (some (.int 1)) ∧ Framed s o t [] 601024 7293034
def lw_Z (below : List Frame) (a : Array Value) (s : State) : State → Prop := fun t => ∃ o, t.status = .running ∧ Ended t below o ∧ lw_Q a s o t
/-- the law's own end, with 1 on the stack, nothing written that was there before, its room as the claim has it -/
theorem lw_ret {p : Program} {l : Launch} {e : Env} {s : State} {m : MethodId} {below : List Frame} {meth : Method} {c : Code} {b : Nat} (hx : p.tables.exec = Jvm.exec) (hb : c.code = code) (hr : meth.sig.returnType = ret) (hlocks : meth.locks = false) {pc : Nat} {H : Heap} {ls : Array Slot} (hdg : decode code pc = .ok (.ireturn, 1)) : W p l e room_1 s m #[Value.ref b] below meth c H [] 601024 7293034 (lw_Z below #[Value.ref b] s) (F0 m pc ls [.int 1]) := by
  intro T hT X
  obtain ⟨fs, hret, hrun, hended, hW, hframe⟩ := X.leave (v := some (.int 1)) (hlocks := hlocks) (fun h => by rw [hr] at h; cases h)
  have hmeth' : T.vm.method? m = some meth := X.method'
  refine ⟨T.setFrames fs, ?_, .returned (some (.int 1)), hrun, hended, rfl, ⟨_, rfl⟩, hW, hframe⟩
  jvm_step X.here [X.here.top, hx, hb, hdg, hmeth', hr, ret, narrow_b1]
  (try refine ⟨rfl, ?_⟩); (try refine ⟨rfl, ?_⟩)
  first | (intro acts; rw [hret _ acts rfl rfl rfl]) | rw [hret _ _ rfl rfl rfl]
  exact Steps.refl _
def K_law : MK := (RL, x, cL_law, 7, ret, 11, 430, [])
/-- what the law's walk may use of its start beside the world -/
def lawE (g : GT) (b L : Nat) (xs : Nat → Int32) (args : Array Value) (s : State) : Prop := args = #[.ref b] ∧ va_X b L xs s s.heap ∧ b < s.heap.size ∧ gN g = s.heap.size
def lawQ (g : GT) (b L : Nat) (xs : Nat → Int32) : QT := fun below args s t => lawE g b L xs args s → lw_Z below args s t
section LAW
variable {g : GT} {K : MK} {R : Room} {kb nb nt : Nat} {h : Nat × Nat} {C M : St} {o : Int64} {pc : Nat} {lv : List (Nat × Value)} {st : List Value} {b L : Nat} {xs : Nat → Int32}
theorem law_triv {p : Program} {e : Env} {s : State} {m : MethodId} {args : Array Value} {below : List Frame} {meth : Method} {c : Code} {H : Heap} {locs : List Loc} {k n : Nat} {F : JFrame} (hE : ¬ lawE g b L xs args s) : W p (gl g) e R s m args below meth c H locs k n (lawQ g b L xs below args s) F := by
  intro T hT X
  exact ⟨_, Steps.refl _, fun z => absurd z hE⟩
theorem V_sld {i : Int32} {j : Nat} (hd : decode (kc K) pc = .ok (.iaload, 1)) (hi : inr i L j) (k : V g K R (lawQ g b L xs) kb nb nt h C M o (pc + 1) lv (.int (xs j) :: st)) : V g K R (lawQ g b L xs) kb nb nt h C M o pc lv (.int i :: .ref b :: st) := by
  intro p e s m args below meth c H locs k1 n1 ls X h1 h2 hR hS hl hc
  by_cases hE : lawE g b L xs args s
  · obtain ⟨x1, x2, x3, x4, x5, x6, x7, x8, x9⟩ := id X
    have q := k p e s m args below meth c H locs k1 n1 ls X h1 h2 hR hS hl hc
    rw [← hi.2] at q
    exact va_sld x1 x2 hE.2.1 hE.2.2.1 (fun z => by have := hE.2.2.2; have := hE.2.2.1; have z2 : gN g ≤ b := z; omega) hS hi.1 hd q
  · exact law_triv hE
theorem V_slen (hd : decode (kc K) pc = .ok (.arraylength, 1)) (k : V g K R (lawQ g b L xs) kb nb nt h C M o (pc + 1) lv (.int (nI L) :: st)) : V g K R (lawQ g b L xs) kb nb nt h C M o pc lv (.ref b :: st) := by
  intro p e s m args below meth c H locs k1 n1 ls X h1 h2 hR hS hl hc
  by_cases hE : lawE g b L xs args s
  · obtain ⟨x1, x2, x3, x4, x5, x6, x7, x8, x9⟩ := id X
    exact va_slen x1 x2 hE.2.1 hE.2.2.1 (fun z => by have := hE.2.2.2; have := hE.2.2.1; have z2 : gN g ≤ b := z; omega) hS hd (k p e s m args below meth c H locs k1 n1 ls X h1 h2 hR hS hl hc)
  · exact law_triv hE
theorem V_lawret (hd : decode (kc K_law) pc = .ok (.ireturn, 1)) (hk : kb ≤ 601024) (hn : nb ≤ 7293034) : V g K_law room_1 (lawQ g b L xs) kb nb nt h C M o pc lv [.int 1] := by
  intro p e s m args below meth c H locs k1 n1 ls X h1 h2 hR hS hl hc
  by_cases hE : lawE g b L xs args s
  · obtain ⟨x1, x2, x3, x4, x5, x6, hlocks, x8, x9⟩ := id X
    obtain ⟨rfl, -, -, e4⟩ := hE
    have q : W p (gl g) e room_1 s m #[Value.ref b] below meth c H locs k1 n1 (lw_Z below #[Value.ref b] s) (F0 m pc ls [.int 1]) := by
      refine va_forget (fun q hq => by rw [← e4]; exact hS.2.2 q hq) ?_
      refine W.widen (Nat.le_trans h1 hk) (Nat.le_trans h2 hn) ?_
      exact lw_ret x1 x2 x3 hlocks hd
    intro T hT X0
    obtain ⟨t, a1, a2⟩ := q T hT X0
    exact ⟨t, a1, fun _ => a2⟩
  · exact law_triv hE
end LAW
theorem lg_self (x : Int64) : lg_cmp x x = 0 := by
  unfold lg_cmp
  rw [if_neg (fun z => by have z2 : x < x := z; rw [Int64.lt_iff_toInt_lt] at z2; omega), if_pos rfl]
theorem Inv.cap25 {nt B R : Nat} {C M : St} (h : Inv nt B R C M) : cap C ≤ 2560 := by
  obtain ⟨c, kk, q1, q2, q3, q4, q5, q6, q7, q8, q9⟩ := h.wf.hi
  exact q8
