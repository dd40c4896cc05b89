/-! class: begin (the world behind it has a transaction more) -/
def bQ (g : GT) (nt : Nat) (v : Option Value) (C1 M1 : St) (o1 : Int64) : Array Value → State → Outcome → State → Prop := fun _ st oc t => ∃ (a' : Nat → Nat) (h : Nat × Nat), oc = .returned v ∧ (∀ n, n < 73 + 4 * nt → a' n = ad g n) ∧ Rep (gw g a') (nt + 1) h C1 M1 o1 t.heap ∧ va_F (gA g) st t
def qB (g : GT) (mc ms nt : Nat) (v : Option Value) (C1 M1 : St) (o1 : Int64) : QT := fun below args s => vx_MQ below (bQ g nt v C1 M1 o1) (vX g nt (fun _ _ _ _ => False)) args s mc ms (gA g)
def RETB (g : GT) (Y : MK) (mc ms : Nat) (av : List Value) (nt : Nat) (C M : St) (o : Int64) (v : Option Value) (C1 M1 : St) (o1 : Int64) : Prop := ∀ h, vx_Met (gl g) (ky Y) (kws Y) (kR Y mc ms) (va_Pc av (World g nt h C M o)) (bQ g nt v C1 M1 o1) (vX g nt (fun _ _ _ _ => False)) mc ms (gA g)
def RETBH (g : GT) (Y : MK) (mc ms : Nat) (av : List Value) (nt : Nat) (C M : St) (o : Int64) (v : Option Value) (C1 M1 : St) (o1 : Int64) : Prop := ∀ h, vx_Met (gl g) (ky Y) (kwsH Y) (kR Y mc ms) (va_Pc av (World g nt h C M o)) (bQ g nt v C1 M1 o1) (vX g nt (fun _ _ _ _ => False)) mc ms (gA g)
theorem RETB_of {g : GT} {K : MK} {mc ms : Nat} {av : List Value} {nt : Nat} {C M : St} {o : Int64} {v1 : Option Value} {C1 M1 : St} {o1 : Int64} (hy : plainName (ky K).cls = true) (hown : ko K = (ky K).cls) (hh : kh K = []) (hlen : av.length ≤ kL K) (hcat : ∀ v ∈ av, v.category = 1) (body : ∀ h, V g K (kR K mc ms) (qB g mc ms nt v1 C1 M1 o1) 0 0 nt h C M o 0 (larg 0 av) []) : RETB g K mc ms av nt C M o v1 C1 M1 o1 := by
  intro h
  refine vx_ofW (cc := kc K) (maxL := kL K) (ret := kr K) hy rfl ?_
  intro p e s m args below meth c s₁ B hml ht hv
  obtain ⟨rfl, hR, hSx⟩ := hv
  have hts := atoms_spec (ws := kws K) B.pre
  have hown' : s.vm.findClass (ko K) = some m.cls := by rw [hown]; exact findClass_of_methodNamed B.named
  have hl := lv_entry av (n := kL K) (by rw [lg_sl1 hcat, List.length_map]; exact hlen)
  rw [lv_args1 hcat] at hl
  rw [lg_entry_eq]
  have htab : c.exceptionTable.toList = tableOf (kh K) := by
    rw [hh]
    exact List.eq_nil_iff_forall_not_mem.mpr (fun x hx => ht x hx)
  exact body h p e s m _ below meth c s.heap [] 0 0 _ ⟨B.exec, B.bytes, B.returns, hml, hown', fun w hw => hts w (List.mem_cons_of_mem _ hw), B.notSynchronized, htab, hSx⟩ (Nat.le_refl _) (Nat.le_refl _) hR va_S.rf hl (larg_cat hcat)
theorem RETBH_of {g : GT} {K : MK} {mc ms : Nat} {av : List Value} {nt : Nat} {C M : St} {o : Int64} {v1 : Option Value} {C1 M1 : St} {o1 : Int64} (hy : plainName (ky K).cls = true) (hown : ko K = (ky K).cls) (hlen : av.length ≤ kL K) (hcat : ∀ v ∈ av, v.category = 1) (body : ∀ h, V g K (kR K mc ms) (qB g mc ms nt v1 C1 M1 o1) 0 0 nt h C M o 0 (larg 0 av) []) : RETBH g K mc ms av nt C M o v1 C1 M1 o1 := by
  intro h
  refine vx_ofWH (cc := kc K) (maxL := kL K) (ret := kr K) (hh := kh K) hy rfl ?_
  intro p e s m args below meth c s₁ B hml hv
  obtain ⟨rfl, hR, hSx⟩ := hv
  have hts := atoms_spec (ws := kwsH K) B.pre
  have hown' : s.vm.findClass (ko K) = some m.cls := by rw [hown]; exact findClass_of_methodNamed B.named
  have hl := lv_entry av (n := kL K) (by rw [lg_sl1 hcat, List.length_map]; exact hlen)
  rw [lv_args1 hcat] at hl
  rw [lg_entry_eq]
  have htab : c.exceptionTable.toList = tableOf (kh K) := vx_table (x := ky K) B (hts _ List.mem_cons_self)
  exact body h p e s m _ below meth c s.heap [] 0 0 _ ⟨B.exec, B.bytes, B.returns, hml, hown', fun w hw => hts w (List.mem_cons_of_mem _ hw), B.notSynchronized, htab, hSx⟩ (Nat.le_refl _) (Nat.le_refl _) hR va_S.rf hl (larg_cat hcat)
theorem V_iretB {g : GT} {a' : Nat → Nat} {K : MK} {mc ms kb nb nt : Nat} {h : Nat × Nat} {C M : St} {o : Int64} {pc : Nat} {lv : List (Nat × Value)} {x : Int32} (ha : ∀ n, n < 73 + 4 * nt → a' n = ad g n) (hd : decode (kc K) pc = .ok (.ireturn, 1)) (hr : kr K = some .int) (hk : kb ≤ mc) (hn : nb ≤ ms) : V (gw g a') K (kR K mc ms) (qB g mc ms nt (some (.int x)) C M o) kb nb (nt + 1) h C M o pc lv [.int x] := by
  intro p e s m args below meth c H locs k1 n1 ls X h1 h2 hR hS hl hc
  obtain ⟨x1, x2, x3, x4, x5, x6, hlocks, x8, x9⟩ := id X
  refine vx_ret ?_
  refine W.widen (k := mc) (n := ms) (Nat.le_trans h1 hk) (Nat.le_trans h2 hn) ?_
  exact W.iret x1 x2 (x3.trans hr) (fun t ht hW => ⟨a', h, rfl, ha, by rw [ht]; exact hR, hS.F ht⟩) hS.2.2 hd
theorem wl_ad {g : GT} {nt : Nat} {h : Nat × Nat} {C M : St} {o : Int64} {n : Nat} {tl : va_W} (hn : n < 73 + 4 * nt) (h5 : n ≠ 5) (h6 : n ≠ 6) {e : va_E} (he : ent g h C M o n = e) : (wld g nt h C M o ++ tl)[n]? = some (ad g n, e) := by
  rw [wl_at hn, hp_ad h5 h6, he]
theorem tell_set {g : GT} {nt : Nat} {h : Nat × Nat} {C M : St} {o : Int64} {c : Nat} (hc : c < 4) : (wld g nt h C M o).set (37 + c) (ad g (37 + c), .inr (2, [.int (C 1 c), .int (mx (C 2 c) (mx (10 * (C 0 0 + C 1 c)) (C 2 c + 1))), .int (C 3 c)])) = wld g nt h (tellS C c (C 0 0)) M o := by
  rw [← hp_ad (g := g) (h := h) (n := 37 + c) (by omega) (by omega)]
  refine wld_set (by omega) ?_ (fun m hm => eC_2 hm)
  rw [ent_node hc]
  unfold nodeE
  rw [tell_row (w := 1) (by decide), tell_row (w := 3) (by decide), show tellS C c (C 0 0) 2 c = mx (C 2 c) (mx (10 * (C 0 0 + C 1 c)) (C 2 c + 1)) from up_eq]
section BEGIN
variable {g : GT} {nt : Nat} {C M : St} {o : Int64}
theorem th_begin1 {x y : Int32} (h0 : x < 0 ∨ ¬ x < 4) : THR g K_X4_begin 1 6 [.ref (ad g 0), .int x, .int y] nt C M o "java/lang/IndexOutOfBoundsException" := by
  refine MT_of (by decide +kernel) rfl rfl (Nat.le_of_ble_eq_true rfl) (by simp [cat_rf, cat_int, cat_ref]) (fun h => ?_)
  refine V_aload_n (dG D_X4_begin 0 rfl) rfl ?_
  refine V_iload_n (dG D_X4_begin 1 rfl) rfl ?_
  exact T_b1 (th_needNode h0) lk_X4_56 (dG D_X4_begin 2 rfl) rcv_4 ⟨Nat.le_of_ble_eq_true rfl, Nat.le_of_ble_eq_true rfl⟩ ⟨(Nat.le_of_ble_eq_true rfl), (Nat.le_of_ble_eq_true rfl)⟩ (by first | exact Nat.le_of_ble_eq_true rfl | simp [cat_rf, cat_int, cat_ref]) (fun h => VX_out rfl (Nat.le_of_ble_eq_true rfl) (Nat.le_of_ble_eq_true rfl) ⟨rfl, rfl, rfl, rfl⟩)
theorem th_begin2 {n : Nat} (hn : n < 4) {x : Int32} (h1 : x < 0 ∨ ¬ x ≤ 9) : THR g K_X4_begin 1 6 [.ref (ad g 0), .int (nI n), .int x] nt C M o "java/lang/IllegalArgumentException" := by
  refine MT_of (by decide +kernel) rfl rfl (Nat.le_of_ble_eq_true rfl) (by simp [cat_rf, cat_int, cat_ref]) (fun h => ?_)
  refine V_aload_n (dG D_X4_begin 0 rfl) rfl ?_
  refine V_iload_n (dG D_X4_begin 1 rfl) rfl ?_
  refine R_nb1 (okN hn) lk_X4_56 (dG D_X4_begin 2 rfl) rcv_4 ⟨Nat.le_of_ble_eq_true rfl, Nat.le_of_ble_eq_true rfl⟩ ⟨(Nat.le_of_ble_eq_true rfl), (Nat.le_of_ble_eq_true rfl)⟩ (by first | exact Nat.le_of_ble_eq_true rfl | simp [cat_rf, cat_int, cat_ref]) (fun h => ?_)
  refine V_iload_n (dG D_X4_begin 3 rfl) rfl ?_
  refine V_if_lt (tgt := 15) (dG D_X4_begin 4 rfl) (by decide) (fun c_6 => ?_) (fun c_6 => ?_)
  · skip
    exact V_th44 (text := "a rank is 0 to 9") rfl rfl (by decide +kernel) (dG D_X4_begin 8 rfl) (dG D_X4_begin 9 rfl) (dG D_X4_begin 10 rfl) (dG D_X4_begin 11 rfl) (dG D_X4_begin 12 rfl) (Nat.le_of_ble_eq_true rfl) (Nat.le_of_ble_eq_true rfl) (Nat.le_of_ble_eq_true rfl) (Nat.le_of_ble_eq_true rfl) ⟨rfl, rfl, rfl, rfl⟩
  · skip
    refine V_iload_n (dG D_X4_begin 5 rfl) rfl ?_
    refine V_bipush (v := 9) (dG D_X4_begin 6 rfl) (by decide) ?_
    refine V_icmp_le (tgt := 25) (dG D_X4_begin 7 rfl) (by decide) (fun c_12 => absurd c_12 (h1.resolve_left c_6)) (fun c_12 => ?_)
    exact V_th44 (text := "a rank is 0 to 9") rfl rfl (by decide +kernel) (dG D_X4_begin 8 rfl) (dG D_X4_begin 9 rfl) (dG D_X4_begin 10 rfl) (dG D_X4_begin 11 rfl) (dG D_X4_begin 12 rfl) (Nat.le_of_ble_eq_true rfl) (Nat.le_of_ble_eq_true rfl) (Nat.le_of_ble_eq_true rfl) (Nat.le_of_ble_eq_true rfl) ⟨rfl, rfl, rfl, rfl⟩
theorem th_begin3 {n : Nat} (hn : n < 4) {x : Int32} (h0 : ¬ x < 0) (h9 : x ≤ 9) (hd : ¬ C 3 n = 0) : THR g K_X4_begin 1 6 [.ref (ad g 0), .int (nI n), .int x] nt C M o "java/lang/IllegalStateException" := by
  refine MT_of (by decide +kernel) rfl rfl (Nat.le_of_ble_eq_true rfl) (by simp [cat_rf, cat_int, cat_ref]) (fun h => ?_)
  refine V_aload_n (dG D_X4_begin 0 rfl) rfl ?_
  refine V_iload_n (dG D_X4_begin 1 rfl) rfl ?_
  refine R_nb1 (okN hn) lk_X4_56 (dG D_X4_begin 2 rfl) rcv_4 ⟨Nat.le_of_ble_eq_true rfl, Nat.le_of_ble_eq_true rfl⟩ ⟨(Nat.le_of_ble_eq_true rfl), (Nat.le_of_ble_eq_true rfl)⟩ (by first | exact Nat.le_of_ble_eq_true rfl | simp [cat_rf, cat_int, cat_ref]) (fun h => ?_)
  refine V_iload_n (dG D_X4_begin 3 rfl) rfl ?_
  refine V_if_lt (tgt := 15) (dG D_X4_begin 4 rfl) (by decide) (fun c_6 => absurd c_6 h0) (fun c_6 => ?_)
  refine V_iload_n (dG D_X4_begin 5 rfl) rfl ?_
  refine V_bipush (v := 9) (dG D_X4_begin 6 rfl) (by decide) ?_
  refine V_icmp_le (tgt := 25) (dG D_X4_begin 7 rfl) (by decide) (fun c_12 => ?_) (fun c_12 => absurd h9 c_12)
  refine V_aload_n (dG D_X4_begin 13 rfl) rfl ?_
  refine V_iload_n (dG D_X4_begin 14 rfl) rfl ?_
  exact T_b1 (th_needUp hn hd) lk_X4_65 (dG D_X4_begin 15 rfl) rcv_4 ⟨Nat.le_of_ble_eq_true rfl, Nat.le_of_ble_eq_true rfl⟩ ⟨(Nat.le_of_ble_eq_true rfl), (Nat.le_of_ble_eq_true rfl)⟩ (by first | exact Nat.le_of_ble_eq_true rfl | simp [cat_rf, cat_int, cat_ref]) (fun h => VX_out rfl (Nat.le_of_ble_eq_true rfl) (Nat.le_of_ble_eq_true rfl) ⟨rfl, rfl, rfl, rfl⟩)
theorem th_begin4 {n : Nat} (hn : n < 4) {x : Int32} (h0 : ¬ x < 0) (h9 : x ≤ 9) (hd : C 3 n = 0) (h40 : ¬ C 10 0 < 40) : THR g K_X4_begin 1 6 [.ref (ad g 0), .int (nI n), .int x] nt C M o "java/lang/IllegalStateException" := by
  refine MT_of (by decide +kernel) rfl rfl (Nat.le_of_ble_eq_true rfl) (by simp [cat_rf, cat_int, cat_ref]) (fun h => ?_)
  refine V_aload_n (dG D_X4_begin 0 rfl) rfl ?_
  refine V_iload_n (dG D_X4_begin 1 rfl) rfl ?_
  refine R_nb1 (okN hn) lk_X4_56 (dG D_X4_begin 2 rfl) rcv_4 ⟨Nat.le_of_ble_eq_true rfl, Nat.le_of_ble_eq_true rfl⟩ ⟨(Nat.le_of_ble_eq_true rfl), (Nat.le_of_ble_eq_true rfl)⟩ (by first | exact Nat.le_of_ble_eq_true rfl | simp [cat_rf, cat_int, cat_ref]) (fun h => ?_)
  refine V_iload_n (dG D_X4_begin 3 rfl) rfl ?_
  refine V_if_lt (tgt := 15) (dG D_X4_begin 4 rfl) (by decide) (fun c_6 => absurd c_6 h0) (fun c_6 => ?_)
  refine V_iload_n (dG D_X4_begin 5 rfl) rfl ?_
  refine V_bipush (v := 9) (dG D_X4_begin 6 rfl) (by decide) ?_
  refine V_icmp_le (tgt := 25) (dG D_X4_begin 7 rfl) (by decide) (fun c_12 => ?_) (fun c_12 => absurd h9 c_12)
  refine V_aload_n (dG D_X4_begin 13 rfl) rfl ?_
  refine V_iload_n (dG D_X4_begin 14 rfl) rfl ?_
  refine R_nb1 (ok_needUp hn hd) lk_X4_65 (dG D_X4_begin 15 rfl) rcv_4 ⟨Nat.le_of_ble_eq_true rfl, Nat.le_of_ble_eq_true rfl⟩ ⟨(Nat.le_of_ble_eq_true rfl), (Nat.le_of_ble_eq_true rfl)⟩ (by first | exact Nat.le_of_ble_eq_true rfl | simp [cat_rf, cat_int, cat_ref]) (fun h => ?_)
  refine V_aload_n (dG D_X4_begin 16 rfl) rfl ?_
  refine gf_X4_115 rfl (dG D_X4_begin 17 rfl) ?_
  refine V_bipush (v := 40) (dG D_X4_begin 18 rfl) (by decide) ?_
  refine V_icmp_lt (tgt := 49) (dG D_X4_begin 19 rfl) (by decide) (fun c_36 => absurd c_36 h40) (fun c_36 => ?_)
  exact V_th55 (text := "there were 40 transactions") rfl rfl (by decide +kernel) (dG D_X4_begin 20 rfl) (dG D_X4_begin 21 rfl) (dG D_X4_begin 22 rfl) (dG D_X4_begin 23 rfl) (dG D_X4_begin 24 rfl) (Nat.le_of_ble_eq_true rfl) (Nat.le_of_ble_eq_true rfl) (Nat.le_of_ble_eq_true rfl) (Nat.le_of_ble_eq_true rfl) ⟨rfl, rfl, rfl, rfl⟩
theorem ok_begin {n : Nat} (hn : n < 4) {x : Int32} (h0 : ¬ x < 0) (h9 : x ≤ 9) (hd : C 3 n = 0) (hlt : nt < 40) (hb : C 10 0 = nI nt) (h6 : ∀ k, k < 32 → trv nt (C 6 k)) (h19 : ∀ i, i < nt → trv nt (C 19 i)) : RETB g K_X4_begin 4 83 [.ref (ad g 0), .int (nI n), .int x] nt C M o (some (.int (nI nt))) (up (bg0 C nt n x) 10 0 (nI (nt + 1))) M o := by
  refine RETB_of (by decide +kernel) rfl rfl (Nat.le_of_ble_eq_true rfl) (by simp [cat_rf, cat_int, cat_ref]) (fun h => ?_)
  refine V_aload_n (dG D_X4_begin 0 rfl) rfl ?_
  refine V_iload_n (dG D_X4_begin 1 rfl) rfl ?_
  refine R_nb1 (okN hn) lk_X4_56 (dG D_X4_begin 2 rfl) rcv_4 ⟨Nat.le_of_ble_eq_true rfl, Nat.le_of_ble_eq_true rfl⟩ ⟨(Nat.le_of_ble_eq_true rfl), (Nat.le_of_ble_eq_true rfl)⟩ (by first | exact Nat.le_of_ble_eq_true rfl | simp [cat_rf, cat_int, cat_ref]) (fun h => ?_)
  refine V_iload_n (dG D_X4_begin 3 rfl) rfl ?_
  refine V_if_lt (tgt := 15) (dG D_X4_begin 4 rfl) (by decide) (fun c_6 => absurd c_6 h0) (fun c_6 => ?_)
  refine V_iload_n (dG D_X4_begin 5 rfl) rfl ?_
  refine V_bipush (v := 9) (dG D_X4_begin 6 rfl) (by decide) ?_
  refine V_icmp_le (tgt := 25) (dG D_X4_begin 7 rfl) (by decide) (fun c_12 => ?_) (fun c_12 => absurd h9 c_12)
  refine V_aload_n (dG D_X4_begin 13 rfl) rfl ?_
  refine V_iload_n (dG D_X4_begin 14 rfl) rfl ?_
  refine R_nb1 (ok_needUp hn hd) lk_X4_65 (dG D_X4_begin 15 rfl) rcv_4 ⟨Nat.le_of_ble_eq_true rfl, Nat.le_of_ble_eq_true rfl⟩ ⟨(Nat.le_of_ble_eq_true rfl), (Nat.le_of_ble_eq_true rfl)⟩ (by first | exact Nat.le_of_ble_eq_true rfl | simp [cat_rf, cat_int, cat_ref]) (fun h => ?_)
  refine V_aload_n (dG D_X4_begin 16 rfl) rfl ?_
  refine gf_X4_115 rfl (dG D_X4_begin 17 rfl) ?_
  refine V_bipush (v := 40) (dG D_X4_begin 18 rfl) (by decide) ?_
  refine V_icmp_lt (tgt := 49) (dG D_X4_begin 19 rfl) (by decide) (fun c_36 => ?_) (fun c_36 => absurd (by rw [hb]; exact nI_lt (b := 40) hlt (by decide)) c_36)
  refine V_aload_n (dG D_X4_begin 25 rfl) rfl ?_
  refine gf_X4_115 rfl (dG D_X4_begin 26 rfl) ?_
  refine V_istore_n (dG D_X4_begin 27 rfl) (Nat.le_of_ble_eq_true rfl) ?_
  refine V_aload_n (dG D_X4_begin 28 rfl) rfl ?_
  refine gf_X4_23 rfl (dG D_X4_begin 29 rfl) ?_
  refine V_iload_n (dG D_X4_begin 30 rfl) rfl ?_
  rw [hb]
  refine V_toL ?_
  refine L_new (ci := 3) (T := TX3) (fs := f30) (dG D_X4_begin 31 rfl) uin_3 tyX3_ok ⟨w_29, w_376, w_13⟩ rfl (by decide) ⟨Nat.le_of_ble_eq_true rfl, Nat.le_of_ble_eq_true rfl⟩ (fun a0 => ?_)
  refine L_dup (dG D_X4_begin 32 rfl) rfl ?_
  refine L_iload_n (dG D_X4_begin 33 rfl) rfl ?_
  refine L_iload_n (dG D_X4_begin 34 rfl) rfl ?_
  refine L_iload_n (dG D_X4_begin 35 rfl) rfl ?_
  refine L_aload_n (dG D_X4_begin 36 rfl) rfl ?_
  refine L_get (T := TX4) (kf := 1) (n := 0) (dG D_X4_begin 37 rfl) w_101 uin_4 rfl (by decide) (wl_ad (by omega) (by decide) (by decide) (e := .inr (4, [.int (C 0 0), .ref (ad g 1), .ref (ad g 2), .ref (ad g 3), .int (C 10 0), .ref (ad g 4)])) (ent_fix (by decide))) rfl ?_
  refine L_iload_n (dG D_X4_begin 38 rfl) rfl ?_
  refine L_aald (n := 1) (t0 := 3) (N := 4) (j := n) (f := fun k => some (ad g (37 + k))) (dG D_X4_begin 39 rfl) (wl_ad (by omega) (by decide) (by decide)  (ent_fix (by decide))) rfl (inr_nI hn (by decide)) ?_
  refine L_aload_n (dG D_X4_begin 40 rfl) rfl ?_
  refine L_get (T := TX4) (kf := 0) (n := 0) (dG D_X4_begin 41 rfl) w_100 uin_4 rfl (by decide) (wl_ad (by omega) (by decide) (by decide) (e := .inr (4, [.int (C 0 0), .ref (ad g 1), .ref (ad g 2), .ref (ad g 3), .int (C 10 0), .ref (ad g 4)])) (ent_fix (by decide))) rfl ?_
  refine L_mi (Y := K_X2_tellStamp) (Cn := RX2) (j := 37 + n) (As := [.int (C 0 0)]) im_tellStamp (fun _ z => z) (dG D_X4_begin 42 rfl) rfl (wl_ad (by omega) (by omega) (by omega) (ent_node hn)) (fun z => by cases z) lk_X4_68 ⟨rfl, rfl⟩ ⟨Nat.le_of_ble_eq_true rfl, Nat.le_of_ble_eq_true rfl⟩ ⟨Nat.le_of_ble_eq_true rfl, Nat.le_of_ble_eq_true rfl⟩ (Nat.le_of_ble_eq_true rfl) rfl (fun rr e0 tl0 he0 => ?_)
  obtain ⟨rfl, he1⟩ := he0
  cases he1
  rw [List.append_nil, List.set_append_left _ _ (by rw [wl_len]; omega), tell_set hn]
  rw [show mx (C 2 n) (mx (10 * (C 0 0 + C 1 n)) (C 2 n + 1)) = tellS C n (C 0 0) 2 n from up_eq.symm]
  refine L_aload_n (dG D_X4_begin 43 rfl) rfl ?_
  refine L_get (T := TX4) (kf := 0) (n := 0) (dG D_X4_begin 44 rfl) w_100 uin_4 rfl (by decide) (wl_ad (by omega) (by decide) (by decide) (e := .inr (4, [.int (C 0 0), .ref (ad g 1), .ref (ad g 2), .ref (ad g 3), .int (C 10 0), .ref (ad g 4)])) (by rw [ent_fix (by decide), tell_row (w := 0) (by decide), tell_row (w := 10) (by decide)]; rfl)) rfl ?_
  refine L_ctor (Y := K_X3_init) (n := 5) (j := 73 + 4 * nt) (As := [.int (nI nt), .int (nI n), .int x, .int (tellS C n (C 0 0) 2 n), .int (C 0 0)]) init_3 (fun _ z => z) (dG D_X4_begin 45 rfl) rfl ?_ (fun z => by cases z) ⟨w_377, w_378, w_13, w_379, rfl, rfl, by decide +kernel⟩ ⟨Nat.le_of_ble_eq_true rfl, Nat.le_of_ble_eq_true rfl⟩ ⟨Nat.le_of_ble_eq_true rfl, Nat.le_of_ble_eq_true rfl⟩ (Nat.le_of_ble_eq_true rfl) rfl (fun e0 tl0 he0 => ?_)
  · rw [List.getElem?_append_right (by rw [wl_len]; omega), wl_len, Nat.sub_self]
    rfl
  obtain ⟨a1, a2, a3, he1⟩ := he0
  cases he1
  rw [set_last wl_len, List.append_assoc]
  refine L_aast (n := 3) (t0 := 5) (N := 40) (j := nt) (qk := 73 + 4 * nt) (ci := 3) (vs := [.int (nI nt), .int (nI n), .int x, .int (tellS C n (C 0 0) 2 n + 100), .int 0, .int (tellS C n (C 0 0) 2 n), .int (tellS C n (C 0 0) 2 n), .int (C 0 0), .null, .int 0, .int 0, .int 0, .ref a1, .ref a2, .ref a3]) (f := fun k => trO g (C 33 k)) (dG D_X4_begin 46 rfl) (wl_ad (by omega) (by decide) (by decide) (by rw [ent_fix (by decide), tell_row (w := 33) (by decide)]; rfl)) ?_ rfl rfl (inr_nI hlt (by decide)) ?_
  · rw [List.getElem?_append_right (by rw [wl_len]; omega), wl_len, Nat.sub_self]
    rfl
  refine L_begun hlt hn h6 h19 ?_
  have hag : ∀ n, n < 73 + 4 * nt → adB g C nt a0 a1 a2 a3 n = ad g n := fun n hn => adB_lo hn
  generalize adB g C nt a0 a1 a2 a3 = a' at hag ⊢
  rw [show ad g 0 = ad (gw g a') 0 from (hag 0 (by omega)).symm]
  refine V_aload_n (dG D_X4_begin 47 rfl) rfl ?_
  refine V_dup (dG D_X4_begin 48 rfl) rfl ?_
  refine gf_X4_115 rfl (dG D_X4_begin 49 rfl) ?_
  refine V_iconst (v := 1) (dG D_X4_begin 50 rfl) (by decide) ?_
  refine V_iadd (dG D_X4_begin 51 rfl) ?_
  refine pf_X4_115 rfl (dG D_X4_begin 52 rfl) ?_
  rw [show bg0 C nt n x 10 0 + 1 = nI (nt + 1) by rw [bg0_row (by omega) (by decide) (by decide) (by decide) (by decide), hb, nI_1]]
  refine V_iload_n (dG D_X4_begin 53 rfl) rfl ?_
  exact V_iretB hag (dG D_X4_begin 54 rfl) rfl (Nat.le_of_ble_eq_true rfl) (Nat.le_of_ble_eq_true rfl)
end BEGIN
