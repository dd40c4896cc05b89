/-! calls of what leaves a transaction more; the law's call of begin -/
section RB
variable {g : GT} {K : MK} {R : Room} {Qf : QT} {kb nb nt : Nat} {h : Nat × Nat} {C M : St} {o : Int64} {pc : Nat} {lv : List (Nat × Value)} {st : List Value} {Y : MK} {mc ms : Nat} {w : Value} {C1 M1 : St} {o1 : Int64}
theorem V_runB {As st0 : List Value} {p : Program} {e : Env} {s : State} {m : MethodId} {args : Array Value} {below : List Frame} {meth : Method} {c : Code} {H : Heap} {locs : List Loc} {k n : Nat} {ls : Array Slot}
    (hr : vx_Run p (gl g) e R s m args below meth c H locs k n mc ms (F0 m pc ls st0) st (bQ g nt (some w) C1 M1 o1 As.toArray) (vX g nt (fun _ _ _ _ => False)) (gA g)) (X : Cx g K p s m args meth c) (h1 : k ≤ kb) (h2 : n ≤ nb) (hS : va_S (gA g) s.heap H locs) (hl : lv_has ls (kL K) lv) (hc : ∀ q ∈ lv, q.2.category = 1)
    (kk : ∀ a' h', (∀ n, n < 73 + 4 * nt → a' n = ad g n) → V (gw g a') K R Qf (kb + mc) (nb + ms) (nt + 1) h' C1 M1 o1 (pc + 3) lv (w :: st)) : W p (gl g) e R s m args below meth c H locs k n (Qf below args s) (F0 m pc ls st0) := by
  intro T hT X0
  rcases hr T hT X0 with ⟨v, st₀, t, T', L, h0, X', hL, e1, e2, ⟨a', h', hv, hag, hR', hF⟩, stp⟩ | ⟨q, st₀, t, T', L, E, ce, h0, X', hL, e1, e2, ⟨h', C', M', o', hp, hR', hF⟩, hce, hcv, hcl, stp⟩
  · cases hv
    obtain ⟨k1, k2, k3⟩ := vx_keep h0 e1 hS (fun q _ z => z) (fun q z => z) hL hF
    obtain ⟨t2, a1, b1⟩ := kk a' h' hag p e s m args below meth c T'.heap (locs ++ L) (k + mc) (n + ms) ls X (by omega) (by omega) (by rw [e1]; exact hR') k3 hl hc T' rfl X'
    exact ⟨t2, stp t2 a1, b1⟩
  · exact hp.elim
theorem RB_callV {idx n b : Nat} {Cn : String} {As : List Value} (hM : RETB g Y mc ms (.ref b :: As) nt C M o (some w) C1 M1 o1) (hL : LV (ko K) idx Cn Y n) (hd : decode (kc K) pc = .ok (.invokevirtual idx, 3)) (hn : As.length = n) (hrc : rcv g nt h C M o b Cn) (hro : kf Y + 1 ≤ R.frames ∧ 8 + (kL Y + 11) + klo Y ≤ R.locals) (hcs : kb + mc ≤ R.cells ∧ nb + ms ≤ R.slots) (hcat : (st.map fun v => v.category).sum ≤ 8)
    (kk : ∀ a' h', (∀ n, n < 73 + 4 * nt → a' n = ad g n) → V (gw g a') K R Qf (kb + mc) (nb + ms) (nt + 1) h' C1 M1 o1 (pc + 3) lv (w :: st)) {st0 : List Value} (hst : st0 = As.reverse ++ .ref b :: st) : V g K R Qf kb nb nt h C M o pc lv st0 := by
  intro p e s m args below meth c H locs k1 n1 ls X h1 h2 hR hS hl hc
  subst hst
  obtain ⟨x1, x2, x3, x4, x5, x6, x7, x8, x9⟩ := id X
  obtain ⟨l1, l2, l3, l4, l5, l6⟩ := hL
  obtain ⟨n0, ci, q, fs, r1, r2, r3, r4, r5⟩ := hrc
  have hrecv := va_recv x9.1 hR.1 r4 (q0 := n0) (fs := fs) ((wld_at r1).trans (by rw [r3]))
  rw [r5, ← r2] at hrecv
  have hcb := callB_of (R := R) (own := ko K) (index := idx) (rm := kR Y mc ms) (mc := mc) (ms := ms) n x6 (good_kws l5) rfl rfl rfl (x6 _ l4) (x6 _ l1) l6 hro
  exact V_runB (vx_runV ⟨x1, x2, x4, x5, x6⟩ (hM h) ⟨hcb, x6 _ l2, x6 _ l3⟩ ⟨blindW, hrecv, fun U hU hW => ⟨rfl, by rw [hU]; exact hR, x9.to hW (fun a ha hna => by rw [hU]; exact hS.2.1 a ha hna)⟩⟩ rfl hn hl.1 rfl (lv_room hcat) hd ⟨by omega, by omega⟩) X h1 h2 hS hl hc kk
theorem RB_callSH {idx n : Nat} {As : List Value} (hM : RETBH g Y mc ms As nt C M o (some w) C1 M1 o1) (hL : LSH (ko K) idx Y n) (hd : decode (kc K) pc = .ok (.invokestatic idx, 3)) (hn : As.length = n) (hro : kf Y + 1 ≤ R.frames ∧ 8 + (kL Y + 11) + klo Y ≤ R.locals) (hcs : kb + mc ≤ R.cells ∧ nb + ms ≤ R.slots) (hcat : (st.map fun v => v.category).sum ≤ 8)
    (kk : ∀ a' h', (∀ n, n < 73 + 4 * nt → a' n = ad g n) → V (gw g a') K R Qf (kb + mc) (nb + ms) (nt + 1) h' C1 M1 o1 (pc + 3) lv (w :: st)) {st0 : List Value} (hst : st0 = As.reverse ++ st) : V g K R Qf kb nb nt h C M o pc lv st0 := by
  intro p e s m args below meth c H locs k1 n1 ls X h1 h2 hR hS hl hc
  subst hst
  obtain ⟨x1, x2, x3, x4, x5, x6, x7, x8, x9⟩ := id X
  obtain ⟨l1, l3, l4, l5, l6⟩ := hL
  have hcb : vx_CSW R s args (ko K) idx (ky Y) (kc Y) (kL Y) (kr Y) (kh Y) (kwsH Y) (kR Y mc ms) mc ms n := ⟨⟨rfl, rfl, hro.1, hro.2, pay_in x6 (good_kwsH l5), List.mem_cons_self⟩, x6 _ l5, x6 _ l4, ⟨l6.1, l6.2.1⟩, fun sig h => by
    have h2 := l6.2.2
    rw [h] at h2
    exact (Option.some.inj h2).symm, x6 _ l1, x6 _ l3⟩
  exact V_runB (vx_runSX ⟨x1, x2, x4, x5, x6⟩ (hM h) hcb ⟨blindW, fun U hU hW => ⟨rfl, by rw [hU]; exact hR, x9.to hW (fun a ha hna => by rw [hU]; exact hS.2.1 a ha hna)⟩⟩ rfl hn hl.1 rfl (lv_room hcat) hd ⟨by omega, by omega⟩) X h1 h2 hS hl hc kk
theorem RB_vb2 {idx b : Nat} {Cn : String} {x y : Value} (hM : RETB g Y mc ms [.ref b, x, y] nt C M o (some w) C1 M1 o1) (hL : LV (ko K) idx Cn Y 2) (hd : decode (kc K) pc = .ok (.invokevirtual idx, 3)) (hrc : rcv g nt h C M o b Cn) (hro : kf Y + 1 ≤ R.frames ∧ 8 + (kL Y + 11) + klo Y ≤ R.locals) (hcs : kb + mc ≤ R.cells ∧ nb + ms ≤ R.slots) (hcat : (st.map fun v => v.category).sum ≤ 8)
    (kk : ∀ a' h', (∀ n, n < 73 + 4 * nt → a' n = ad g n) → V (gw g a') K R Qf (kb + mc) (nb + ms) (nt + 1) h' C1 M1 o1 (pc + 3) lv (w :: st)) : V g K R Qf kb nb nt h C M o pc lv (y :: x :: .ref b :: st) := RB_callV (As := [x, y]) hM hL hd rfl hrc hro hcs hcat kk rfl
theorem RB_vs4 {idx : Nat} {x y z t : Value} (hM : RETBH g Y mc ms [x, y, z, t] nt C M o (some w) C1 M1 o1) (hL : LSH (ko K) idx Y 4) (hd : decode (kc K) pc = .ok (.invokestatic idx, 3)) (hro : kf Y + 1 ≤ R.frames ∧ 8 + (kL Y + 11) + klo Y ≤ R.locals) (hcs : kb + mc ≤ R.cells ∧ nb + ms ≤ R.slots) (hcat : (st.map fun v => v.category).sum ≤ 8)
    (kk : ∀ a' h', (∀ n, n < 73 + 4 * nt → a' n = ad g n) → V (gw g a') K R Qf (kb + mc) (nb + ms) (nt + 1) h' C1 M1 o1 (pc + 3) lv (w :: st)) : V g K R Qf kb nb nt h C M o pc lv (t :: z :: y :: x :: st) := RB_callSH (As := [x, y, z, t]) hM hL hd rfl hro hcs hcat kk rfl
end RB
theorem wr_begin {g : GT} {nt : Nat} {C M C1 : St} {o : Int64} {x y v : Int32} {mc ms : Nat} (hO : RETB g K_X4_begin mc ms [.ref (ad g 0), .int x, .int y] nt C M o (some (.int v)) C1 M o) : RETBH g K_L_begin mc ms [.ref (ad g 0), .int x, .int y, .ref (ad g 9)] nt C M o (some (.int 0)) C1 M v.toInt64 := by
  refine RETBH_of (by decide +kernel) rfl (Nat.le_of_ble_eq_true rfl) (by simp [cat_int, cat_ref]) (fun h => ?_)
  refine V_aload_n (dG D_L_begin 0 rfl) rfl ?_
  refine V_iconst (v := 0) (dG D_L_begin 1 rfl) (by decide) ?_
  refine V_aload_n (dG D_L_begin 2 rfl) rfl ?_
  refine V_iload_n (dG D_L_begin 3 rfl) rfl ?_
  refine V_iload_n (dG D_L_begin 4 rfl) rfl ?_
  refine RB_vb2 hO lk_L_44 (dG D_L_begin 5 rfl) rcv_4 ⟨Nat.le_of_ble_eq_true rfl, Nat.le_of_ble_eq_true rfl⟩ ⟨by show 0 + mc ≤ mc; omega, by show 0 + ms ≤ ms; omega⟩ (by simp [cat_int, cat_ref]) (fun a' h1 hag => ?_)
  rw [show ad g 0 = ad (gw g a') 0 from (hag 0 (by omega)).symm, show ad g 9 = ad (gw g a') 9 from (hag 9 (by omega)).symm]
  refine V_i2l (dG D_L_begin 6 rfl) ?_
  refine V_last0 (dG D_L_begin 7 rfl) ?_
  refine V_goto (tgt := 25) (dG D_L_begin 8 rfl) (by decide) ?_
  refine V_iconst (v := 0) (dG D_L_begin 18 rfl) (by decide) ?_
  exact V_iretB hag (dG D_L_begin 19 rfl) rfl (by omega) (by omega)
theorem wt_begin_1 {g : GT} {nt : Nat} {C M : St} {o : Int64} {x y : Int32} (hO : THR g K_X4_begin 1 6 [.ref (ad g 0), .int x, .int y] nt C M o IOE) : RETH g K_L_begin 1 6 [.ref (ad g 0), .int x, .int y, .ref (ad g 9)] nt C M o (some (.int 1)) C M o := by
  refine MTH_of (by decide +kernel) rfl (Nat.le_of_ble_eq_true rfl) (by simp [cat_int, cat_ref]) (fun h => ?_)
  refine V_aload_n (dG D_L_begin 0 rfl) rfl ?_
  refine V_iconst (v := 0) (dG D_L_begin 1 rfl) (by decide) ?_
  refine V_aload_n (dG D_L_begin 2 rfl) rfl ?_
  refine V_iload_n (dG D_L_begin 3 rfl) rfl ?_
  refine V_iload_n (dG D_L_begin 4 rfl) rfl ?_
  refine T_b2 hO lk_L_44 (dG D_L_begin 5 rfl) rcv_4 ⟨Nat.le_of_ble_eq_true rfl, Nat.le_of_ble_eq_true rfl⟩ ⟨by show 0 + 1 ≤ 1; omega, by show 0 + 6 ≤ 6; omega⟩ (by simp [cat_int, cat_ref]) (fun h => ?_)
  refine V_catch (E := IOE) [] (0, 10, 13, 21) [(0, 10, 17, 13), (0, 10, 21, 15)] rfl (fun z hz => by cases hz) (by decide) (by decide) w_260 (by decide +kernel) (fun q9 => ?_)
  refine V_astore (dG D_L_begin 9 rfl) (by decide) ?_
  refine V_iconst (v := 1) (dG D_L_begin 10 rfl) (by decide) ?_
  exact V_iret (dG D_L_begin 11 rfl) rfl (by omega) (by omega) ⟨rfl, rfl, rfl, rfl⟩
theorem wt_begin_2 {g : GT} {nt : Nat} {C M : St} {o : Int64} {x y : Int32} (hO : THR g K_X4_begin 1 6 [.ref (ad g 0), .int x, .int y] nt C M o IAE) : RETH g K_L_begin 1 6 [.ref (ad g 0), .int x, .int y, .ref (ad g 9)] nt C M o (some (.int 2)) C M o := by
  refine MTH_of (by decide +kernel) rfl (Nat.le_of_ble_eq_true rfl) (by simp [cat_int, cat_ref]) (fun h => ?_)
  refine V_aload_n (dG D_L_begin 0 rfl) rfl ?_
  refine V_iconst (v := 0) (dG D_L_begin 1 rfl) (by decide) ?_
  refine V_aload_n (dG D_L_begin 2 rfl) rfl ?_
  refine V_iload_n (dG D_L_begin 3 rfl) rfl ?_
  refine V_iload_n (dG D_L_begin 4 rfl) rfl ?_
  refine T_b2 hO lk_L_44 (dG D_L_begin 5 rfl) rcv_4 ⟨Nat.le_of_ble_eq_true rfl, Nat.le_of_ble_eq_true rfl⟩ ⟨by show 0 + 1 ≤ 1; omega, by show 0 + 6 ≤ 6; omega⟩ (by simp [cat_int, cat_ref]) (fun h => ?_)
  refine V_catch (E := IAE) [(0, 10, 13, 21)] (0, 10, 17, 13) [(0, 10, 21, 15)] rfl (fun z hz => by
    simp only [List.mem_cons, List.not_mem_nil, or_false] at hz
    rcases hz with rfl
    · exact ⟨by decide, IOE, w_260, by decide +kernel⟩) (by decide) (by decide) w_167 (by decide +kernel) (fun q9 => ?_)
  refine V_astore (dG D_L_begin 12 rfl) (by decide) ?_
  refine V_iconst (v := 2) (dG D_L_begin 13 rfl) (by decide) ?_
  exact V_iret (dG D_L_begin 14 rfl) rfl (by omega) (by omega) ⟨rfl, rfl, rfl, rfl⟩
theorem wt_begin_3 {g : GT} {nt : Nat} {C M : St} {o : Int64} {x y : Int32} (hO : THR g K_X4_begin 1 6 [.ref (ad g 0), .int x, .int y] nt C M o ISE) : RETH g K_L_begin 1 6 [.ref (ad g 0), .int x, .int y, .ref (ad g 9)] nt C M o (some (.int 3)) C M o := by
  refine MTH_of (by decide +kernel) rfl (Nat.le_of_ble_eq_true rfl) (by simp [cat_int, cat_ref]) (fun h => ?_)
  refine V_aload_n (dG D_L_begin 0 rfl) rfl ?_
  refine V_iconst (v := 0) (dG D_L_begin 1 rfl) (by decide) ?_
  refine V_aload_n (dG D_L_begin 2 rfl) rfl ?_
  refine V_iload_n (dG D_L_begin 3 rfl) rfl ?_
  refine V_iload_n (dG D_L_begin 4 rfl) rfl ?_
  refine T_b2 hO lk_L_44 (dG D_L_begin 5 rfl) rcv_4 ⟨Nat.le_of_ble_eq_true rfl, Nat.le_of_ble_eq_true rfl⟩ ⟨by show 0 + 1 ≤ 1; omega, by show 0 + 6 ≤ 6; omega⟩ (by simp [cat_int, cat_ref]) (fun h => ?_)
  refine V_catch (E := ISE) [(0, 10, 13, 21), (0, 10, 17, 13)] (0, 10, 21, 15) [] rfl (fun z hz => by
    simp only [List.mem_cons, List.not_mem_nil, or_false] at hz
    rcases hz with rfl | rfl
    · exact ⟨by decide, IOE, w_260, by decide +kernel⟩
    · exact ⟨by decide, IAE, w_167, by decide +kernel⟩) (by decide) (by decide) w_168 (by decide +kernel) (fun q9 => ?_)
  refine V_astore (dG D_L_begin 15 rfl) (by decide) ?_
  refine V_iconst (v := 3) (dG D_L_begin 16 rfl) (by decide) ?_
  exact V_iret (dG D_L_begin 17 rfl) rfl (by omega) (by omega) ⟨rfl, rfl, rfl, rfl⟩
