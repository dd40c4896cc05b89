/-! methods with handlers: contract, call, catch; the law's own row of longs -/
def kwsH (K : MK) : List Cond := Cond.codeWith (ky K) (kc K) (kL K) (kr K) (kh K) :: gtbl
theorem good_kwsH {K : MK} (hc : Cond.codeWith (ky K) (kc K) (kL K) (kr K) (kh K) ∈ gtbl) : GoodIn gtbl (kwsH K) := by
  intro w hw
  rcases List.mem_cons.mp hw with rfl | hw
  · exact ⟨hc, good_of_word (gtbl_good hc)⟩
  · exact ⟨hw, good_of_word (gtbl_good hw)⟩
def MTH (g : GT) (K : MK) (mc ms : Nat) (av : List Value) (nt : Nat) (C M : St) (o : Int64) (Po : PT) (Px : XT) : Prop := ∀ h, vx_Met (gl g) (ky K) (kwsH K) (kR K mc ms) (va_Pc av (World g nt h C M o)) (vQ g nt Po) (vX g nt Px) mc ms (gA g)
theorem MTH_of {g : GT} {K : MK} {mc ms : Nat} {av : List Value} {nt : Nat} {C M : St} {o : Int64} {Po : PT} {Px : XT} (hy : plainName (ky K).cls = true) (hown : ko K = (ky K).cls) (hlen : av.length ≤ kL K) (hcat : ∀ v ∈ av, v.category = 1) (body : ∀ h, V g K (kR K mc ms) (qM g mc ms nt Po Px) 0 0 nt h C M o 0 (larg 0 av) []) : MTH g K mc ms av nt C M o Po Px := by
  intro h
  refine vx_ofWH (cc := kc K) (maxL := kL K) (ret := kr K) (hh := kh K) hy rfl ?_
  intro p e s m args below meth c s₁ B hml hv
  obtain ⟨rfl, hR, hSx⟩ := hv
  have hts := atoms_spec (ws := kwsH K) B.pre
  have hown' : s.vm.findClass (ko K) = some m.cls := by rw [hown]; exact findClass_of_methodNamed B.named
  have hl := lv_entry av (n := kL K) (by rw [lg_sl1 hcat, List.length_map]; exact hlen)
  rw [lv_args1 hcat] at hl
  rw [lg_entry_eq]
  have htab : c.exceptionTable.toList = tableOf (kh K) := vx_table (x := ky K) B (hts _ List.mem_cons_self)
  exact body h p e s m _ below meth c s.heap [] 0 0 _ ⟨B.exec, B.bytes, B.returns, hml, hown', fun w hw => hts w (List.mem_cons_of_mem _ hw), B.notSynchronized, htab, hSx⟩ (Nat.le_refl _) (Nat.le_refl _) hR va_S.rf hl (larg_cat hcat)
def LSH (own : String) (idx : Nat) (K : MK) (n : Nat) : Prop := Cond.methodLink own idx (ky K) ∈ gtbl ∧ Cond.static (ky K) ∈ gtbl ∧ Cond.initialized (ky K).cls ∈ gtbl ∧ Cond.codeWith (ky K) (kc K) (kL K) (kr K) (kh K) ∈ gtbl ∧ ((ky K).cls ≠ "java/lang/invoke/MethodHandle" ∧ (ky K).cls ≠ "java/lang/invoke/VarHandle" ∧ (parseMethodDescriptor (ky K).desc).map (fun d => d.parameters.length) = some n)
/-- returns x, the cells behind as C1, M1, o1 (a method with handlers) -/
def RETH (g : GT) (Y : MK) (mc ms : Nat) (av : List Value) (nt : Nat) (C M : St) (o : Int64) (v : Option Value) (C1 M1 : St) (o1 : Int64) : Prop := MTH g Y mc ms av nt C M o (fun v' C' M' o' => v' = v ∧ C' = C1 ∧ M' = M1 ∧ o' = o1) (fun _ _ _ _ => False)
section WRP
variable {g : GT} {K : MK} {R : Room} {Qf : QT} {kb nb nt : Nat} {h : Nat × Nat} {C M : St} {o : Int64} {pc : Nat} {lv : List (Nat × Value)} {st : List Value} {Y : MK} {mc ms : Nat} {Po : PT} {Px : XT}
theorem V_callSH {idx n : Nat} {As : List Value} (hM : MTH g Y mc ms As nt C M o Po Px) (hL : LSH (ko K) idx Y n) (hd : decode (kc K) pc = .ok (.invokestatic idx, 3)) (hn : As.length = n) (hro : kf Y + 1 ≤ R.frames ∧ 8 + (kL Y + 11) + klo Y ≤ R.locals) (hcs : kb + mc ≤ R.cells ∧ nb + ms ≤ R.slots) (hcat : (st.map fun v => v.category).sum ≤ 8)
    (kk : ∀ v h' C' M' o', Po v C' M' o' → V g K R Qf (kb + mc) (nb + ms) nt h' C' M' o' (pc + 3) lv (v.toList ++ st)) (kx : ∀ E h' C' M' o', Px E C' M' o' → VX g K R Qf (kb + mc) (nb + ms) nt h' C' M' o' pc lv st E) {st0 : List Value} (hst : st0 = As.reverse ++ st) : V g K R Qf kb nb nt h C M o pc lv st0 := by
  intro p e s m args below meth c H locs k1 n1 ls X h1 h2 hR hS hl hc
  subst hst
  obtain ⟨x1, x2, x3, x4, x5, x6, x7, x8, x9⟩ := id X
  obtain ⟨l1, l3, l4, l5, l6⟩ := hL
  have hcb : vx_CSW R s args (ko K) idx (ky Y) (kc Y) (kL Y) (kr Y) (kh Y) (kwsH Y) (kR Y mc ms) mc ms n := ⟨⟨rfl, rfl, hro.1, hro.2, pay_in x6 (good_kwsH l5), List.mem_cons_self⟩, x6 _ l5, x6 _ l4, ⟨l6.1, l6.2.1⟩, fun sig h => by
    have h2 := l6.2.2
    rw [h] at h2
    exact (Option.some.inj h2).symm, x6 _ l1, x6 _ l3⟩
  exact V_run (vx_runSX ⟨x1, x2, x4, x5, x6⟩ (hM h) hcb ⟨blindW, fun U hU hW => ⟨rfl, by rw [hU]; exact hR, x9.to hW (fun a ha hna => by rw [hU]; exact hS.2.1 a ha hna)⟩⟩ rfl hn hl.1 rfl (lv_room hcat) hd ⟨by omega, by omega⟩) X h1 h2 hS hl hc kk kx
theorem RH_call {idx n : Nat} {As : List Value} {w : Value} {C1 M1 : St} {o1 : Int64} {st0 : List Value} (hM : RETH g Y mc ms As nt C M o (some w) C1 M1 o1) (hL : LSH (ko K) idx Y n) (hd : decode (kc K) pc = .ok (.invokestatic idx, 3)) (hn : As.length = n) (hro : kf Y + 1 ≤ R.frames ∧ 8 + (kL Y + 11) + klo Y ≤ R.locals) (hcs : kb + mc ≤ R.cells ∧ nb + ms ≤ R.slots) (hcat : (st.map fun v => v.category).sum ≤ 8) (kk : ∀ h1, V g K R Qf (kb + mc) (nb + ms) nt h1 C1 M1 o1 (pc + 3) lv (w :: st)) (hst : st0 = As.reverse ++ st) : V g K R Qf kb nb nt h C M o pc lv st0 :=
  V_callSH hM hL hd hn hro hcs hcat (fun v h2 C2 M2 o2 q => by obtain ⟨rfl, rfl, rfl, rfl⟩ := q; exact kk h2) (fun _ _ _ _ _ q => q.elim) hst
/-- a handler takes it -/
theorem V_catch {E : String} (hp : List (Nat × Nat × Nat × Nat)) (x : Nat × Nat × Nat × Nat) (hs : List (Nat × Nat × Nat × Nat)) (hh : kh K = hp ++ x :: hs)
    (hpass : ∀ z ∈ hp, z.2.2.2 ≠ 0 ∧ ∃ nm : String, Cond.classLink (ko K) z.2.2.2 nm ∈ gtbl ∧ (E, nm) ∈ ncT) (hx : covers ⟨x.1, x.2.1, x.2.2.1, x.2.2.2⟩ pc = true) (h0 : x.2.2.2 ≠ 0) (hlink : Cond.classLink (ko K) x.2.2.2 E ∈ gtbl) (hcast : (E, E) ∈ castT)
    (k : ∀ q9 : Nat, V g K R Qf kb nb nt h C M o x.2.2.1 lv [.ref q9]) : VX g K R Qf kb nb nt h C M o pc lv st E := by
  intro p e s m args below meth c H locs k1 n1 ls q9 ce X h1 h2 hR hS hl hc hce hv hcl
  obtain ⟨x1, x2, x3, x4, x5, x6, x7, x8, x9⟩ := id X
  refine vx_catch (own := ko K) (name := E) x5 (tableOf hp) ⟨x.1, x.2.1, x.2.2.1, x.2.2.2⟩ (tableOf hs) ?_ (fun z hz => ?_) hx h0 (x6 _ hlink) (cast_moved (Vm.Alike.refl s.vm) (x9.2.2.2.2.1.1 _ hcast)) hce hv hcl (k q9 p e s m args below meth c H locs k1 n1 ls X h1 h2 hR hS hl hc)
  · rw [x8, hh]
    unfold tableOf
    rw [List.map_append, List.map_cons]
  · right
    unfold tableOf at hz
    obtain ⟨z0, hz0, rfl⟩ := List.mem_map.mp hz
    obtain ⟨a1, nm, a2, a3⟩ := hpass z0 hz0
    exact ⟨a1, nm, x6 _ a2, x9.2.2.2.2.1.2.1 _ a3⟩
theorem va_P_cg {D : va_G} {cl : List vw_C} {ws : va_W} {H : Heap} {p a : Nat} {e1 e2 : ClassId × vp_A} (hP : va_P D cl (ws.set p (a, .inl e1)) H) (he : vp_cell e1.1 e1.2 = vp_cell e2.1 e2.2) : va_P D cl (ws.set p (a, .inl e2)) H := by
  intro k q hk
  by_cases e : k = p
  · subst e
    have hl : k < ws.length := by
      have := (List.getElem?_eq_some_iff.mp hk).1
      rw [List.length_set] at this
      exact this
    rw [List.getElem?_set_self hl] at hk
    cases hk
    have h1 := hP k (a, .inl e1) (List.getElem?_set_self hl)
    have h2 : H[a]? = some (vp_cell e1.1 e1.2) := h1
    show H[a]? = some (vp_cell e2.1 e2.2)
    rw [h2, he]
  · rw [List.getElem?_set_ne (fun q => e q.symm)] at hk
    exact hP k q (by rw [List.getElem?_set_ne (fun q => e q.symm)]; exact hk)
theorem ent_9 : ent g h C M o 9 = .inl (gc g 2, 1, .inr (.inl (fun _ => o))) := ent_fix (by decide)
theorem in01 : vp_in 0 1 := by
  intro z
  exact z.elim (by decide) (by decide)
theorem V_last0 {x : Int64} (hd : decode (kc K) pc = .ok (.lastore, 1)) (k : V g K R Qf kb nb nt h C M x (pc + 1) lv st) : V g K R Qf kb nb nt h C M o pc lv (.long x :: .int 0 :: .ref (ad g 9) :: st) := by
  rw [← hp_ad (g := g) (h := h) (n := 9) (by decide) (by decide)]
  intro p e s m args below meth c H locs k1 n1 ls X h1 h2 hR hS hl hc
  obtain ⟨x1, x2, x3, x4, x5, x6, x7, x8, x9⟩ := id X
  refine va_last x1 x2 x9.1 hR.1 hR.2 hS 9 2 ((wld_at (by omega)).trans (by rw [ent_9])) rfl in01 hd (fun H1 locs1 hP hD hS1 => ?_)
  have key : (wld g nt h C M o).set 9 (hp g h 9, .inl (gc g 2, 1, .inr (.inl (fun _ => x)))) = wld g nt h C M x := wld_set (by omega) ent_9 (fun m hm => eo_9 hm)
  have hP2 := va_P_cg hP (e2 := (gc g 2, 1, .inr (.inl (fun _ => x)))) (by
    rw [vp_cell_l, vp_cell_l]
    unfold arrV
    congr 1)
  rw [key] at hP2
  have hD2 : va_D (gA g) (wld g nt h C M x) := by
    rw [← key]
    exact hR.2.set (wld_at (by omega))
  exact k p e s m args below meth c H1 locs1 k1 n1 ls X h1 h2 ⟨hP2, hD2⟩ hS1 hl hc
theorem V_lald0 (hd : decode (kc K) pc = .ok (.laload, 1)) (k : V g K R Qf kb nb nt h C M o (pc + 1) lv (.long o :: st)) : V g K R Qf kb nb nt h C M o pc lv (.int 0 :: .ref (ad g 9) :: st) := by
  rw [← hp_ad (g := g) (h := h) (n := 9) (by decide) (by decide)]
  intro p e s m args below meth c H locs k1 n1 ls X h1 h2 hR hS hl hc
  obtain ⟨x1, x2, x3, x4, x5, x6, x7, x8, x9⟩ := id X
  exact va_lald x1 x2 x9.1 hR.1 9 2 ((wld_at (by omega)).trans (by rw [ent_9])) rfl in01 hd (k p e s m args below meth c H locs k1 n1 ls X h1 h2 hR hS hl hc)
end WRP
