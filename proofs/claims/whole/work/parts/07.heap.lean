/-! rows that read and write the cells of our world -/
theorem uin_0 : ∀ w ∈ u_ws RX0 TX0 6, w ∈ gtbl := fun w h => List.mem_filter.mpr ⟨(goodIn_r (big := lw_tbl) (u_ws RX0 TX0 6) [136, 138, 140, 142, 144, 146] (by decide +kernel) (by decide +kernel) w h).1, List.all_eq_true.mp (show (u_ws RX0 TX0 6).all goodWord = true by decide +kernel) w h⟩
theorem uin_1 : ∀ w ∈ u_ws RX1 TX1 6, w ∈ gtbl := fun w h => List.mem_filter.mpr ⟨(goodIn_r (big := lw_tbl) (u_ws RX1 TX1 6) [93, 95, 97, 99, 101, 103] (by decide +kernel) (by decide +kernel) w h).1, List.all_eq_true.mp (show (u_ws RX1 TX1 6).all goodWord = true by decide +kernel) w h⟩
theorem uin_2 : ∀ w ∈ u_ws RX2 TX2 3, w ∈ gtbl := fun w h => List.mem_filter.mpr ⟨(goodIn_r (big := lw_tbl) (u_ws RX2 TX2 3) [116, 118, 120] (by decide +kernel) (by decide +kernel) w h).1, List.all_eq_true.mp (show (u_ws RX2 TX2 3).all goodWord = true by decide +kernel) w h⟩
theorem uin_3 : ∀ w ∈ u_ws RX3 TX3 15, w ∈ gtbl := fun w h => List.mem_filter.mpr ⟨(goodIn_r (big := lw_tbl) (u_ws RX3 TX3 15) [460, 462, 464, 466, 468, 470, 472, 474, 476, 478, 480, 482, 484, 486, 488] (by decide +kernel) (by decide +kernel) w h).1, List.all_eq_true.mp (show (u_ws RX3 TX3 15).all goodWord = true by decide +kernel) w h⟩
theorem uin_4 : ∀ w ∈ u_ws RX4 TX4 6, w ∈ gtbl := fun w h => List.mem_filter.mpr ⟨(goodIn_r (big := lw_tbl) (u_ws RX4 TX4 6) [155, 157, 159, 161, 163, 165] (by decide +kernel) (by decide +kernel) w h).1, List.all_eq_true.mp (show (u_ws RX4 TX4 6).all goodWord = true by decide +kernel) w h⟩
theorem uin_5 : ∀ w ∈ u_ws RX5 TX5 32, w ∈ gtbl := fun w h => List.mem_filter.mpr ⟨(goodIn_r (big := lw_tbl) (u_ws RX5 TX5 32) [775, 777, 779, 781, 783, 785, 787, 789, 791, 793, 795, 797, 799, 801, 803, 805, 807, 809, 811, 813, 815, 817, 819, 821, 823, 825, 827, 829, 831, 833, 835, 837] (by decide +kernel) (by decide +kernel) w h).1, List.all_eq_true.mp (show (u_ws RX5 TX5 32).all goodWord = true by decide +kernel) w h⟩
def inr (i : Int32) (n j : Nat) : Prop := vp_in i n ∧ i.toNatClampNeg = j
theorem inr_nI {n j : Nat} (hj : j < n) (hn : n < 2 ^ 31) : inr (nI j) n j := ⟨vp_in_nI hj hn, nI_clamp (Nat.lt_trans hj hn)⟩
theorem inr_lt {i : Int32} {n j : Nat} (h : inr i n j) : j < n := by
  obtain ⟨h1, h2⟩ := h
  rw [← h2]
  exact Nat.not_le.mp fun q => h1 (Or.inr q)
theorem inr_of {i : Int32} {n : Nat} (h : vp_in i n) : inr i n i.toNatClampNeg := ⟨h, rfl⟩
section HEAP
variable {g : GT} {K : MK} {R : Room} {Qf : QT} {kb nb nt : Nat} {h : Nat × Nat} {C M : St} {o : Int64} {pc : Nat} {lv : List (Nat × Value)} {st : List Value}
theorem V_getf {ci kf index n N : Nat} {T : u_T} {Cn : String} {fs : List Value} {v : Value} (hd : decode (kc K) pc = .ok (.getfield index, 3)) (hw : Cond.fieldLink (ko K) index (T kf).1 (T kf).2.1 (T kf).2.2.1 ∈ gtbl) (hu : ∀ w ∈ u_ws Cn T N, w ∈ gtbl) (hcl : vwCl[ci]? = some (Cn, T, N)) (hk : kf < N) (hn : n < 73 + 4 * nt) (he : ent g h C M o n = .inr (ci, fs)) (hv : fs[kf]? = some v) (k : V g K R Qf kb nb nt h C M o (pc + 3) lv (v :: st)) : V g K R Qf kb nb nt h C M o pc lv (.ref (hp g h n) :: st) := by
  intro p e s m args below meth c H locs k1 n1 ls X h1 h2 hR hS hl hc
  obtain ⟨x1, x2, x3, x4, x5, x6, x7, x8, x9⟩ := id X
  exact va_get x1 x2 x6 hu x5 x9.1 hR.1 n ((wld_at hn).trans (by rw [he])) hcl kf hk (x6 _ hw) (fun _ q => q) hv hd (k p e s m args below meth c H locs k1 n1 ls X h1 h2 hR hS hl hc)
theorem V_putf {ci kf index n N : Nat} {T : u_T} {Cn : String} {fs : List Value} {v : Value} {ty : FieldType} {ty0 : Nat → FieldType} {C' M' : St} {o' : Int64} (hd : decode (kc K) pc = .ok (.putfield index, 3)) (hw : Cond.fieldLink (ko K) index (T kf).1 (T kf).2.1 (T kf).2.2.1 ∈ gtbl) (hu : ∀ w ∈ u_ws Cn T N, w ∈ gtbl) (hty : ∀ k, k < N → parseFieldDescriptor (T k).2.2.1 = some (ty0 k)) (hnm : ∀ a, a < N → ∀ b, b < N → a ≠ b → (T a).2.1 ≠ (T b).2.1) (hcl : vwCl[ci]? = some (Cn, T, N)) (hk : kf < N) (hfin : (T kf).2.2.2 = false) (hdt : parseFieldDescriptor (T kf).2.2.1 = some ty) (hnar : narrow ty v = v) (hfit : fits ty v = true) (hlen : kf < fs.length) (hn : n < 73 + 4 * nt) (he : ent g h C M o n = .inr (ci, fs)) (e1 : ent g h C' M' o' n = .inr (ci, fs.set kf v)) (e2 : ∀ m, m ≠ n → ent g h C' M' o' m = ent g h C M o m) (k : V g K R Qf kb nb nt h C' M' o' (pc + 3) lv st) : V g K R Qf kb nb nt h C M o pc lv (v :: .ref (hp g h n) :: st) := by
  intro p e s m args below meth c H locs k1 n1 ls X h1 h2 hR hS hl hc
  obtain ⟨x1, x2, x3, x4, x5, x6, x7, x8, x9⟩ := id X
  refine va_put x1 x2 x6 hu ty0 hty hnm x5 x9.1 hR.1 hR.2 hS n ((wld_at hn).trans (by rw [he])) hcl kf hk (x6 _ hw) (fun _ q => q) hfin hdt hnar hfit hlen hd (fun H1 locs1 hP hD hS1 => ?_)
  rw [wld_set hn e1 e2] at hP hD
  exact k p e s m args below meth c H1 locs1 k1 n1 ls X h1 h2 ⟨hP, hD⟩ hS1 hl hc
theorem V_iald {n nn t0 : Nat} {f : Nat → Int32} {i : Int32} {j : Nat} (hd : decode (kc K) pc = .ok (.iaload, 1)) (hn : n < 73 + 4 * nt) (he : ent g h C M o n = iA g 0 nn f) (hi : inr i nn j) (k : V g K R Qf kb nb nt h C M o (pc + 1) lv (.int (f j) :: st)) : V g K R Qf kb nb nt h C M o pc lv (.int i :: .ref (hp g h n) :: st) := by
  intro p e s m args below meth c H locs k1 n1 ls X h1 h2 hR hS hl hc
  obtain ⟨x1, x2, x3, x4, x5, x6, x7, x8, x9⟩ := id X
  have q := k p e s m args below meth c H locs k1 n1 ls X h1 h2 hR hS hl hc
  rw [← hi.2] at q
  exact va_iald x1 x2 x9.1 hR.1 n 0 ((wld_at hn).trans (by rw [he]; rfl)) rfl hi.1 hd q
theorem V_iast {n nn : Nat} {f : Nat → Int32} {i x : Int32} {j : Nat} {C' M' : St} {o' : Int64} (hd : decode (kc K) pc = .ok (.iastore, 1)) (hn : n < 73 + 4 * nt) (he : ent g h C M o n = iA g 0 nn f) (hi : inr i nn j) (e1 : ent g h C' M' o' n = iA g 0 nn (upd f j x)) (e2 : ∀ m, m ≠ n → ent g h C' M' o' m = ent g h C M o m) (k : V g K R Qf kb nb nt h C' M' o' (pc + 1) lv st) : V g K R Qf kb nb nt h C M o pc lv (.int x :: .int i :: .ref (hp g h n) :: st) := by
  intro p e s m args below meth c H locs k1 n1 ls X h1 h2 hR hS hl hc
  obtain ⟨x1, x2, x3, x4, x5, x6, x7, x8, x9⟩ := id X
  rw [← hi.2] at e1
  refine va_iast x1 x2 x9.1 hR.1 hR.2 hS n 0 ((wld_at hn).trans (by rw [he]; rfl)) rfl hi.1 hd (fun H1 locs1 hP hD hS1 => ?_)
  rw [show (Sum.inl (gc g 0, nn, Sum.inl (upd f i.toNatClampNeg x)) : va_E) = iA g 0 nn (upd f i.toNatClampNeg x) from rfl, wld_set hn e1 e2] at hP hD
  exact k p e s m args below meth c H1 locs1 k1 n1 ls X h1 h2 ⟨hP, hD⟩ hS1 hl hc
theorem V_zald {n nn : Nat} {f : Nat → Int32} {i : Int32} {j : Nat} (hd : decode (kc K) pc = .ok (.baload, 1)) (hn : n < 73 + 4 * nt) (he : ent g h C M o n = iA g 1 nn f) (hi : inr i nn j) (k : V g K R Qf kb nb nt h C M o (pc + 1) lv (.int (f j) :: st)) : V g K R Qf kb nb nt h C M o pc lv (.int i :: .ref (hp g h n) :: st) := by
  intro p e s m args below meth c H locs k1 n1 ls X h1 h2 hR hS hl hc
  obtain ⟨x1, x2, x3, x4, x5, x6, x7, x8, x9⟩ := id X
  have q := k p e s m args below meth c H locs k1 n1 ls X h1 h2 hR hS hl hc
  rw [← hi.2] at q
  exact va_zald x1 x2 x9.1 hR.1 n 1 ((wld_at hn).trans (by rw [he]; rfl)) rfl hi.1 hd q
theorem V_zast {n nn : Nat} {f : Nat → Int32} {i x : Int32} {j : Nat} {C' M' : St} {o' : Int64} (hd : decode (kc K) pc = .ok (.bastore, 1)) (hn : n < 73 + 4 * nt) (he : ent g h C M o n = iA g 1 nn f) (hi : inr i nn j) (hb : vp_nar .boolean x = x) (e1 : ent g h C' M' o' n = iA g 1 nn (upd f j x)) (e2 : ∀ m, m ≠ n → ent g h C' M' o' m = ent g h C M o m) (k : V g K R Qf kb nb nt h C' M' o' (pc + 1) lv st) : V g K R Qf kb nb nt h C M o pc lv (.int x :: .int i :: .ref (hp g h n) :: st) := by
  intro p e s m args below meth c H locs k1 n1 ls X h1 h2 hR hS hl hc
  obtain ⟨x1, x2, x3, x4, x5, x6, x7, x8, x9⟩ := id X
  rw [← hi.2] at e1
  refine va_zast x1 x2 x9.1 hR.1 hR.2 hS n 1 ((wld_at hn).trans (by rw [he]; rfl)) rfl hi.1 hd (fun H1 locs1 hP hD hS1 => ?_)
  rw [hb, show (Sum.inl (gc g 1, nn, Sum.inl (upd f i.toNatClampNeg x)) : va_E) = iA g 1 nn (upd f i.toNatClampNeg x) from rfl, wld_set hn e1 e2] at hP hD
  exact k p e s m args below meth c H1 locs1 k1 n1 ls X h1 h2 ⟨hP, hD⟩ hS1 hl hc
theorem V_aald {n nn t0 : Nat} {Cn : String} {f : Nat → Option Nat} {i : Int32} {j : Nat} (hd : decode (kc K) pc = .ok (.aaload, 1)) (hn : n < 73 + 4 * nt) (he : ent g h C M o n = rA g t0 nn f) (ht : (gtys g)[t0]? = some (gc g t0, .object Cn)) (hi : inr i nn j) (k : V g K R Qf kb nb nt h C M o (pc + 1) lv (va_rf (f j) :: st)) : V g K R Qf kb nb nt h C M o pc lv (.int i :: .ref (hp g h n) :: st) := by
  intro p e s m args below meth c H locs k1 n1 ls X h1 h2 hR hS hl hc
  obtain ⟨x1, x2, x3, x4, x5, x6, x7, x8, x9⟩ := id X
  have q := k p e s m args below meth c H locs k1 n1 ls X h1 h2 hR hS hl hc
  rw [← hi.2] at q
  exact va_aldq x1 x2 x9.1 hR.1 n t0 ((wld_at hn).trans (by rw [he]; rfl)) ht hi.1 hd q
theorem V_alen {n nn : Nat} {f : Nat → Int32} {v : Int32} (hd : decode (kc K) pc = .ok (.arraylength, 1)) (hn : n < 73 + 4 * nt) (he : ent g h C M o n = iA g 0 nn f) (hv : Int32.ofNat nn = v) (k : V g K R Qf kb nb nt h C M o (pc + 1) lv (.int v :: st)) : V g K R Qf kb nb nt h C M o pc lv (.ref (hp g h n) :: st) := by
  intro p e s m args below meth c H locs k1 n1 ls X h1 h2 hR hS hl hc
  obtain ⟨x1, x2, x3, x4, x5, x6, x7, x8, x9⟩ := id X
  exact va_alen x1 x2 x9.1 hR.1 n 0 ((wld_at hn).trans (by rw [he]; rfl)) rfl hv hd (k p e s m args below meth c H locs k1 n1 ls X h1 h2 hR hS hl hc)
theorem V_alenR {n nn t0 : Nat} {Cn : String} {f : Nat → Option Nat} {v : Int32} (hd : decode (kc K) pc = .ok (.arraylength, 1)) (hn : n < 73 + 4 * nt) (he : ent g h C M o n = rA g t0 nn f) (ht : (gtys g)[t0]? = some (gc g t0, .object Cn)) (hv : Int32.ofNat nn = v) (k : V g K R Qf kb nb nt h C M o (pc + 1) lv (.int v :: st)) : V g K R Qf kb nb nt h C M o pc lv (.ref (hp g h n) :: st) := by
  intro p e s m args below meth c H locs k1 n1 ls X h1 h2 hR hS hl hc
  obtain ⟨x1, x2, x3, x4, x5, x6, x7, x8, x9⟩ := id X
  exact va_alen x1 x2 x9.1 hR.1 n t0 ((wld_at hn).trans (by rw [he]; rfl)) ht hv hd (k p e s m args below meth c H locs k1 n1 ls X h1 h2 hR hS hl hc)
/-- a transaction that is there -/
def tok (nt : Nat) (t : Int32) : Prop := ¬ t < 0 ∧ t.toNatClampNeg < nt
theorem tok_rf {g : GT} {nt : Nat} {t : Int32} (ht : tok nt t) : va_rf (trO g t) = .ref (hp g h (73 + 4 * t.toNatClampNeg)) := by
  unfold trO
  rw [if_neg ht.1, hp_ad (by omega) (by omega)]
  rfl
theorem tr_null {g : GT} : va_rf (trO g (-1)) = .null := by
  unfold trO
  rw [if_pos (by decide)]
  rfl
theorem V_nullt (hd : decode (kc K) pc = .ok (.aconst_null, 1)) (k : V g K R Qf kb nb nt h C M o (pc + 1) lv (va_rf (trO g (-1)) :: st)) : V g K R Qf kb nb nt h C M o pc lv st := by
  rw [tr_null] at k
  exact V_null hd k
theorem gf_X4_11 (ho : ko K = RX4) (hd : decode (kc K) pc = .ok (.getfield 11, 3)) (k : V g K R Qf kb nb nt h C M o (pc + 3) lv (.ref (ad g 1) :: st)) : V g K R Qf kb nb nt h C M o pc lv (.ref (ad g 0) :: st) := by
  rw [← hp_ad (g := g) (h := h) (n := 0) (by decide) (by decide)]
  exact V_getf (ci := 4) (kf := 1) (T := TX4) (N := 6) (Cn := RX4) (n := 0) hd (by rw [ho]; exact w_101) uin_4 rfl (by decide) (by omega) (ent_fix (by decide)) rfl k
theorem gf_X4_17 (ho : ko K = RX4) (hd : decode (kc K) pc = .ok (.getfield 17, 3)) (k : V g K R Qf kb nb nt h C M o (pc + 3) lv (.ref (ad g 2) :: st)) : V g K R Qf kb nb nt h C M o pc lv (.ref (ad g 0) :: st) := by
  rw [← hp_ad (g := g) (h := h) (n := 0) (by decide) (by decide)]
  exact V_getf (ci := 4) (kf := 2) (T := TX4) (N := 6) (Cn := RX4) (n := 0) hd (by rw [ho]; exact w_102) uin_4 rfl (by decide) (by omega) (ent_fix (by decide)) rfl k
theorem gf_X4_23 (ho : ko K = RX4) (hd : decode (kc K) pc = .ok (.getfield 23, 3)) (k : V g K R Qf kb nb nt h C M o (pc + 3) lv (.ref (ad g 3) :: st)) : V g K R Qf kb nb nt h C M o pc lv (.ref (ad g 0) :: st) := by
  rw [← hp_ad (g := g) (h := h) (n := 0) (by decide) (by decide)]
  exact V_getf (ci := 4) (kf := 3) (T := TX4) (N := 6) (Cn := RX4) (n := 0) hd (by rw [ho]; exact w_103) uin_4 rfl (by decide) (by omega) (ent_fix (by decide)) rfl k
theorem gf_X4_30 (ho : ko K = RX4) (hd : decode (kc K) pc = .ok (.getfield 30, 3)) (k : V g K R Qf kb nb nt h C M o (pc + 3) lv (.ref (ad g 4) :: st)) : V g K R Qf kb nb nt h C M o pc lv (.ref (ad g 0) :: st) := by
  rw [← hp_ad (g := g) (h := h) (n := 0) (by decide) (by decide)]
  exact V_getf (ci := 4) (kf := 5) (T := TX4) (N := 6) (Cn := RX4) (n := 0) hd (by rw [ho]; exact w_105) uin_4 rfl (by decide) (by omega) (ent_fix (by decide)) rfl k
theorem gf_X4_36 {i : Nat} (ho : ko K = RX4) (hd : decode (kc K) pc = .ok (.getfield 36, 3)) (hi : i < 32) (k : V g K R Qf kb nb nt h C M o (pc + 3) lv (.int (C 5 i) :: st)) : V g K R Qf kb nb nt h C M o pc lv (.ref (ad g (41 + i)) :: st) := by
  rw [← hp_ad (g := g) (h := h) (n := 41 + i) (by omega) (by omega)]
  exact V_getf (ci := 0) (kf := 1) (T := TX0) (N := 6) (Cn := RX0) (n := (41 + i)) hd (by rw [ho]; exact w_80) uin_0 rfl (by decide) (by omega) (ent_cell hi) rfl k
theorem pf_X4_36 {i : Nat} {x : Int32} (ho : ko K = RX4) (hd : decode (kc K) pc = .ok (.putfield 36, 3)) (hi : i < 32) (hb : narrow .boolean (.int x) = .int x) (hf : fits .boolean (.int x) = true) (k : V g K R Qf kb nb nt h (up C 5 i x) M o (pc + 3) lv st) : V g K R Qf kb nb nt h C M o pc lv (.int x :: .ref (ad g (41 + i)) :: st) := by
  rw [← hp_ad (g := g) (h := h) (n := 41 + i) (by omega) (by omega)]
  exact V_putf (ci := 0) (kf := 1) (T := TX0) (N := 6) (Cn := RX0) (n := (41 + i)) (ty := .boolean) hd (by rw [ho]; exact w_80) uin_0 tyX0_ok nmX0 rfl (by decide) rfl (by decide +kernel) hb hf (Nat.le_of_ble_eq_true rfl) (by omega) (ent_cell hi) (by rw [ent_cell hi]; unfold cellE; simp [up]) (fun m q => eC_5 q) k
theorem gf_X4_47 (ho : ko K = RX4) (hd : decode (kc K) pc = .ok (.getfield 47, 3)) (k : V g K R Qf kb nb nt h C M o (pc + 3) lv (.int (C 0 0) :: st)) : V g K R Qf kb nb nt h C M o pc lv (.ref (ad g 0) :: st) := by
  rw [← hp_ad (g := g) (h := h) (n := 0) (by decide) (by decide)]
  exact V_getf (ci := 4) (kf := 0) (T := TX4) (N := 6) (Cn := RX4) (n := 0) hd (by rw [ho]; exact w_100) uin_4 rfl (by decide) (by omega) (ent_fix (by decide)) rfl k
theorem pf_X4_47 {x : Int32} (ho : ko K = RX4) (hd : decode (kc K) pc = .ok (.putfield 47, 3)) (k : V g K R Qf kb nb nt h (up C 0 0 x) M o (pc + 3) lv st) : V g K R Qf kb nb nt h C M o pc lv (.int x :: .ref (ad g 0) :: st) := by
  rw [← hp_ad (g := g) (h := h) (n := 0) (by decide) (by decide)]
  exact V_putf (ci := 4) (kf := 0) (T := TX4) (N := 6) (Cn := RX4) (n := 0) (ty := .int) hd (by rw [ho]; exact w_100) uin_4 tyX4_ok nmX4 rfl (by decide) rfl (by decide +kernel) rfl rfl (Nat.le_of_ble_eq_true rfl) (by omega) (ent_fix (by decide)) (by rw [ent_fix (by decide)]; unfold fixE; simp [up]) (fun m q => eC_0 q) k
theorem gf_X4_62 {i : Nat} (ho : ko K = RX4) (hd : decode (kc K) pc = .ok (.getfield 62, 3)) (hi : i < 4) (k : V g K R Qf kb nb nt h C M o (pc + 3) lv (.int (C 1 i) :: st)) : V g K R Qf kb nb nt h C M o pc lv (.ref (ad g (37 + i)) :: st) := by
  rw [← hp_ad (g := g) (h := h) (n := 37 + i) (by omega) (by omega)]
  exact V_getf (ci := 2) (kf := 0) (T := TX2) (N := 3) (Cn := RX2) (n := (37 + i)) hd (by rw [ho]; exact w_64) uin_2 rfl (by decide) (by omega) (ent_node hi) rfl k
theorem pf_X4_62 {i : Nat} {x : Int32} (ho : ko K = RX4) (hd : decode (kc K) pc = .ok (.putfield 62, 3)) (hi : i < 4) (k : V g K R Qf kb nb nt h (up C 1 i x) M o (pc + 3) lv st) : V g K R Qf kb nb nt h C M o pc lv (.int x :: .ref (ad g (37 + i)) :: st) := by
  rw [← hp_ad (g := g) (h := h) (n := 37 + i) (by omega) (by omega)]
  exact V_putf (ci := 2) (kf := 0) (T := TX2) (N := 3) (Cn := RX2) (n := (37 + i)) (ty := .int) hd (by rw [ho]; exact w_64) uin_2 tyX2_ok nmX2 rfl (by decide) rfl (by decide +kernel) rfl rfl (Nat.le_of_ble_eq_true rfl) (by omega) (ent_node hi) (by rw [ent_node hi]; unfold nodeE; simp [up]) (fun m q => eC_1 q) k
theorem gf_X4_76 {i : Nat} (ho : ko K = RX4) (hd : decode (kc K) pc = .ok (.getfield 76, 3)) (hi : i < 4) (k : V g K R Qf kb nb nt h C M o (pc + 3) lv (.int (C 3 i) :: st)) : V g K R Qf kb nb nt h C M o pc lv (.ref (ad g (37 + i)) :: st) := by
  rw [← hp_ad (g := g) (h := h) (n := 37 + i) (by omega) (by omega)]
  exact V_getf (ci := 2) (kf := 2) (T := TX2) (N := 3) (Cn := RX2) (n := (37 + i)) hd (by rw [ho]; exact w_66) uin_2 rfl (by decide) (by omega) (ent_node hi) rfl k
theorem pf_X4_76 {i : Nat} {x : Int32} (ho : ko K = RX4) (hd : decode (kc K) pc = .ok (.putfield 76, 3)) (hi : i < 4) (hb : narrow .boolean (.int x) = .int x) (hf : fits .boolean (.int x) = true) (k : V g K R Qf kb nb nt h (up C 3 i x) M o (pc + 3) lv st) : V g K R Qf kb nb nt h C M o pc lv (.int x :: .ref (ad g (37 + i)) :: st) := by
  rw [← hp_ad (g := g) (h := h) (n := 37 + i) (by omega) (by omega)]
  exact V_putf (ci := 2) (kf := 2) (T := TX2) (N := 3) (Cn := RX2) (n := (37 + i)) (ty := .boolean) hd (by rw [ho]; exact w_66) uin_2 tyX2_ok nmX2 rfl (by decide) rfl (by decide +kernel) hb hf (Nat.le_of_ble_eq_true rfl) (by omega) (ent_node hi) (by rw [ent_node hi]; unfold nodeE; simp [up]) (fun m q => eC_3 q) k
theorem gf_X4_79 {i : Nat} (ho : ko K = RX4) (hd : decode (kc K) pc = .ok (.getfield 79, 3)) (hi : i < 32) (k : V g K R Qf kb nb nt h C M o (pc + 3) lv (.int (C 4 i) :: st)) : V g K R Qf kb nb nt h C M o pc lv (.ref (ad g (41 + i)) :: st) := by
  rw [← hp_ad (g := g) (h := h) (n := 41 + i) (by omega) (by omega)]
  exact V_getf (ci := 0) (kf := 0) (T := TX0) (N := 6) (Cn := RX0) (n := (41 + i)) hd (by rw [ho]; exact w_79) uin_0 rfl (by decide) (by omega) (ent_cell hi) rfl k
theorem pf_X4_79 {i : Nat} {x : Int32} (ho : ko K = RX4) (hd : decode (kc K) pc = .ok (.putfield 79, 3)) (hi : i < 32) (k : V g K R Qf kb nb nt h (up C 4 i x) M o (pc + 3) lv st) : V g K R Qf kb nb nt h C M o pc lv (.int x :: .ref (ad g (41 + i)) :: st) := by
  rw [← hp_ad (g := g) (h := h) (n := 41 + i) (by omega) (by omega)]
  exact V_putf (ci := 0) (kf := 0) (T := TX0) (N := 6) (Cn := RX0) (n := (41 + i)) (ty := .int) hd (by rw [ho]; exact w_79) uin_0 tyX0_ok nmX0 rfl (by decide) rfl (by decide +kernel) rfl rfl (Nat.le_of_ble_eq_true rfl) (by omega) (ent_cell hi) (by rw [ent_cell hi]; unfold cellE; simp [up]) (fun m q => eC_4 q) k
theorem gf_X4_82 {i : Nat} (ho : ko K = RX4) (hd : decode (kc K) pc = .ok (.getfield 82, 3)) (hi : i < 32) (k : V g K R Qf kb nb nt h C M o (pc + 3) lv (va_rf (trO g (C 6 i)) :: st)) : V g K R Qf kb nb nt h C M o pc lv (.ref (ad g (41 + i)) :: st) := by
  rw [← hp_ad (g := g) (h := h) (n := 41 + i) (by omega) (by omega)]
  exact V_getf (ci := 0) (kf := 2) (T := TX0) (N := 6) (Cn := RX0) (n := (41 + i)) hd (by rw [ho]; exact w_81) uin_0 rfl (by decide) (by omega) (ent_cell hi) rfl k
theorem pf_X4_82 {i : Nat} {x : Int32} (ho : ko K = RX4) (hd : decode (kc K) pc = .ok (.putfield 82, 3)) (hi : i < 32) (k : V g K R Qf kb nb nt h (up C 6 i x) M o (pc + 3) lv st) : V g K R Qf kb nb nt h C M o pc lv (va_rf (trO g x) :: .ref (ad g (41 + i)) :: st) := by
  rw [← hp_ad (g := g) (h := h) (n := 41 + i) (by omega) (by omega)]
  exact V_putf (ci := 0) (kf := 2) (T := TX0) (N := 6) (Cn := RX0) (n := (41 + i)) (ty := .object "Twinphase$Transaction") hd (by rw [ho]; exact w_81) uin_0 tyX0_ok nmX0 rfl (by decide) rfl (by decide +kernel) (by cases trO g x <;> rfl) (by cases trO g x <;> rfl) (Nat.le_of_ble_eq_true rfl) (by omega) (ent_cell hi) (by rw [ent_cell hi]; unfold cellE; simp [up]) (fun m q => eC_6 q) k
theorem gf_X4_86 {i : Nat} (ho : ko K = RX4) (hd : decode (kc K) pc = .ok (.getfield 86, 3)) (hi : i < 32) (k : V g K R Qf kb nb nt h C M o (pc + 3) lv (.int (C 7 i) :: st)) : V g K R Qf kb nb nt h C M o pc lv (.ref (ad g (41 + i)) :: st) := by
  rw [← hp_ad (g := g) (h := h) (n := 41 + i) (by omega) (by omega)]
  exact V_getf (ci := 0) (kf := 3) (T := TX0) (N := 6) (Cn := RX0) (n := (41 + i)) hd (by rw [ho]; exact w_82) uin_0 rfl (by decide) (by omega) (ent_cell hi) rfl k
theorem pf_X4_86 {i : Nat} {x : Int32} (ho : ko K = RX4) (hd : decode (kc K) pc = .ok (.putfield 86, 3)) (hi : i < 32) (hb : narrow .boolean (.int x) = .int x) (hf : fits .boolean (.int x) = true) (k : V g K R Qf kb nb nt h (up C 7 i x) M o (pc + 3) lv st) : V g K R Qf kb nb nt h C M o pc lv (.int x :: .ref (ad g (41 + i)) :: st) := by
  rw [← hp_ad (g := g) (h := h) (n := 41 + i) (by omega) (by omega)]
  exact V_putf (ci := 0) (kf := 3) (T := TX0) (N := 6) (Cn := RX0) (n := (41 + i)) (ty := .boolean) hd (by rw [ho]; exact w_82) uin_0 tyX0_ok nmX0 rfl (by decide) rfl (by decide +kernel) hb hf (Nat.le_of_ble_eq_true rfl) (by omega) (ent_cell hi) (by rw [ent_cell hi]; unfold cellE; simp [up]) (fun m q => eC_7 q) k
theorem gf_X4_115 (ho : ko K = RX4) (hd : decode (kc K) pc = .ok (.getfield 115, 3)) (k : V g K R Qf kb nb nt h C M o (pc + 3) lv (.int (C 10 0) :: st)) : V g K R Qf kb nb nt h C M o pc lv (.ref (ad g 0) :: st) := by
  rw [← hp_ad (g := g) (h := h) (n := 0) (by decide) (by decide)]
  exact V_getf (ci := 4) (kf := 4) (T := TX4) (N := 6) (Cn := RX4) (n := 0) hd (by rw [ho]; exact w_104) uin_4 rfl (by decide) (by omega) (ent_fix (by decide)) rfl k
theorem pf_X4_115 {x : Int32} (ho : ko K = RX4) (hd : decode (kc K) pc = .ok (.putfield 115, 3)) (k : V g K R Qf kb nb nt h (up C 10 0 x) M o (pc + 3) lv st) : V g K R Qf kb nb nt h C M o pc lv (.int x :: .ref (ad g 0) :: st) := by
  rw [← hp_ad (g := g) (h := h) (n := 0) (by decide) (by decide)]
  exact V_putf (ci := 4) (kf := 4) (T := TX4) (N := 6) (Cn := RX4) (n := 0) (ty := .int) hd (by rw [ho]; exact w_104) uin_4 tyX4_ok nmX4 rfl (by decide) rfl (by decide +kernel) rfl rfl (Nat.le_of_ble_eq_true rfl) (by omega) (ent_fix (by decide)) (by rw [ent_fix (by decide)]; unfold fixE; simp [up]) (fun m q => eC_10 q) k
theorem gf_X4_147 {t : Int32} (ho : ko K = RX4) (hd : decode (kc K) pc = .ok (.getfield 147, 3)) (ht : tok nt t) (k : V g K R Qf kb nb nt h C M o (pc + 3) lv (.int (C 15 t.toNatClampNeg) :: st)) : V g K R Qf kb nb nt h C M o pc lv (va_rf (trO g t) :: st) := by
  rw [tok_rf (h := h) ht]
  exact V_getf (ci := 3) (kf := 4) (T := TX3) (N := 15) (Cn := RX3) (n := (73 + 4 * t.toNatClampNeg)) hd (by rw [ho]; exact w_389) uin_3 rfl (by decide) (by have := ht.2; omega) ent_txO rfl k
theorem pf_X4_147 {t : Int32} {x : Int32} (ho : ko K = RX4) (hd : decode (kc K) pc = .ok (.putfield 147, 3)) (ht : tok nt t) (k : V g K R Qf kb nb nt h (up C 15 t.toNatClampNeg x) M o (pc + 3) lv st) : V g K R Qf kb nb nt h C M o pc lv (.int x :: va_rf (trO g t) :: st) := by
  rw [tok_rf (h := h) ht]
  exact V_putf (ci := 3) (kf := 4) (T := TX3) (N := 15) (Cn := RX3) (n := (73 + 4 * t.toNatClampNeg)) (ty := .int) hd (by rw [ho]; exact w_389) uin_3 tyX3_ok nmX3 rfl (by decide) rfl (by decide +kernel) rfl rfl (Nat.le_of_ble_eq_true rfl) (by have := ht.2; omega) ent_txO (by rw [ent_txO]; unfold txO; simp [up]) (fun m q => eC_15 q) k
theorem gf_X4_150 {t : Int32} (ho : ko K = RX4) (hd : decode (kc K) pc = .ok (.getfield 150, 3)) (ht : tok nt t) (k : V g K R Qf kb nb nt h C M o (pc + 3) lv (.int (C 12 t.toNatClampNeg) :: st)) : V g K R Qf kb nb nt h C M o pc lv (va_rf (trO g t) :: st) := by
  rw [tok_rf (h := h) ht]
  exact V_getf (ci := 3) (kf := 1) (T := TX3) (N := 15) (Cn := RX3) (n := (73 + 4 * t.toNatClampNeg)) hd (by rw [ho]; exact w_384) uin_3 rfl (by decide) (by have := ht.2; omega) ent_txO rfl k
theorem gf_X4_157 {t : Int32} (ho : ko K = RX4) (hd : decode (kc K) pc = .ok (.getfield 157, 3)) (ht : tok nt t) (k : V g K R Qf kb nb nt h C M o (pc + 3) lv (va_rf (trO g (C 19 t.toNatClampNeg)) :: st)) : V g K R Qf kb nb nt h C M o pc lv (va_rf (trO g t) :: st) := by
  rw [tok_rf (h := h) ht]
  exact V_getf (ci := 3) (kf := 8) (T := TX3) (N := 15) (Cn := RX3) (n := (73 + 4 * t.toNatClampNeg)) hd (by rw [ho]; exact w_398) uin_3 rfl (by decide) (by have := ht.2; omega) ent_txO rfl k
theorem pf_X4_157 {t : Int32} {x : Int32} (ho : ko K = RX4) (hd : decode (kc K) pc = .ok (.putfield 157, 3)) (ht : tok nt t) (k : V g K R Qf kb nb nt h (up C 19 t.toNatClampNeg x) M o (pc + 3) lv st) : V g K R Qf kb nb nt h C M o pc lv (va_rf (trO g x) :: va_rf (trO g t) :: st) := by
  rw [tok_rf (h := h) ht]
  exact V_putf (ci := 3) (kf := 8) (T := TX3) (N := 15) (Cn := RX3) (n := (73 + 4 * t.toNatClampNeg)) (ty := .object "Twinphase$Transaction") hd (by rw [ho]; exact w_398) uin_3 tyX3_ok nmX3 rfl (by decide) rfl (by decide +kernel) (by cases trO g x <;> rfl) (by cases trO g x <;> rfl) (Nat.le_of_ble_eq_true rfl) (by have := ht.2; omega) ent_txO (by rw [ent_txO]; unfold txO; simp [up]) (fun m q => eC_19 q) k
theorem gf_X4_160 {t : Int32} (ho : ko K = RX4) (hd : decode (kc K) pc = .ok (.getfield 160, 3)) (ht : tok nt t) (k : V g K R Qf kb nb nt h C M o (pc + 3) lv (.int (C 21 t.toNatClampNeg) :: st)) : V g K R Qf kb nb nt h C M o pc lv (va_rf (trO g t) :: st) := by
  rw [tok_rf (h := h) ht]
  exact V_getf (ci := 3) (kf := 10) (T := TX3) (N := 15) (Cn := RX3) (n := (73 + 4 * t.toNatClampNeg)) hd (by rw [ho]; exact w_402) uin_3 rfl (by decide) (by have := ht.2; omega) ent_txO rfl k
theorem pf_X4_160 {t : Int32} {x : Int32} (ho : ko K = RX4) (hd : decode (kc K) pc = .ok (.putfield 160, 3)) (ht : tok nt t) (k : V g K R Qf kb nb nt h (up C 21 t.toNatClampNeg x) M o (pc + 3) lv st) : V g K R Qf kb nb nt h C M o pc lv (.int x :: va_rf (trO g t) :: st) := by
  rw [tok_rf (h := h) ht]
  exact V_putf (ci := 3) (kf := 10) (T := TX3) (N := 15) (Cn := RX3) (n := (73 + 4 * t.toNatClampNeg)) (ty := .int) hd (by rw [ho]; exact w_402) uin_3 tyX3_ok nmX3 rfl (by decide) rfl (by decide +kernel) rfl rfl (Nat.le_of_ble_eq_true rfl) (by have := ht.2; omega) ent_txO (by rw [ent_txO]; unfold txO; simp [up]) (fun m q => eC_21 q) k
theorem gf_X4_163 {t : Int32} (ho : ko K = RX4) (hd : decode (kc K) pc = .ok (.getfield 163, 3)) (ht : tok nt t) (k : V g K R Qf kb nb nt h C M o (pc + 3) lv (.int (C 17 t.toNatClampNeg) :: st)) : V g K R Qf kb nb nt h C M o pc lv (va_rf (trO g t) :: st) := by
  rw [tok_rf (h := h) ht]
  exact V_getf (ci := 3) (kf := 6) (T := TX3) (N := 15) (Cn := RX3) (n := (73 + 4 * t.toNatClampNeg)) hd (by rw [ho]; exact w_394) uin_3 rfl (by decide) (by have := ht.2; omega) ent_txO rfl k
theorem pf_X4_163 {t : Int32} {x : Int32} (ho : ko K = RX4) (hd : decode (kc K) pc = .ok (.putfield 163, 3)) (ht : tok nt t) (k : V g K R Qf kb nb nt h (up C 17 t.toNatClampNeg x) M o (pc + 3) lv st) : V g K R Qf kb nb nt h C M o pc lv (.int x :: va_rf (trO g t) :: st) := by
  rw [tok_rf (h := h) ht]
  exact V_putf (ci := 3) (kf := 6) (T := TX3) (N := 15) (Cn := RX3) (n := (73 + 4 * t.toNatClampNeg)) (ty := .int) hd (by rw [ho]; exact w_394) uin_3 tyX3_ok nmX3 rfl (by decide) rfl (by decide +kernel) rfl rfl (Nat.le_of_ble_eq_true rfl) (by have := ht.2; omega) ent_txO (by rw [ent_txO]; unfold txO; simp [up]) (fun m q => eC_17 q) k
theorem gf_X4_172 {t : Int32} (ho : ko K = RX4) (hd : decode (kc K) pc = .ok (.getfield 172, 3)) (ht : tok nt t) (k : V g K R Qf kb nb nt h C M o (pc + 3) lv (.int (C 16 t.toNatClampNeg) :: st)) : V g K R Qf kb nb nt h C M o pc lv (va_rf (trO g t) :: st) := by
  rw [tok_rf (h := h) ht]
  exact V_getf (ci := 3) (kf := 5) (T := TX3) (N := 15) (Cn := RX3) (n := (73 + 4 * t.toNatClampNeg)) hd (by rw [ho]; exact w_391) uin_3 rfl (by decide) (by have := ht.2; omega) ent_txO rfl k
theorem pf_X4_172 {t : Int32} {x : Int32} (ho : ko K = RX4) (hd : decode (kc K) pc = .ok (.putfield 172, 3)) (ht : tok nt t) (k : V g K R Qf kb nb nt h (up C 16 t.toNatClampNeg x) M o (pc + 3) lv st) : V g K R Qf kb nb nt h C M o pc lv (.int x :: va_rf (trO g t) :: st) := by
  rw [tok_rf (h := h) ht]
  exact V_putf (ci := 3) (kf := 5) (T := TX3) (N := 15) (Cn := RX3) (n := (73 + 4 * t.toNatClampNeg)) (ty := .int) hd (by rw [ho]; exact w_391) uin_3 tyX3_ok nmX3 rfl (by decide) rfl (by decide +kernel) rfl rfl (Nat.le_of_ble_eq_true rfl) (by have := ht.2; omega) ent_txO (by rw [ent_txO]; unfold txO; simp [up]) (fun m q => eC_16 q) k
theorem gf_X4_189 {t : Int32} (ho : ko K = RX4) (hd : decode (kc K) pc = .ok (.getfield 189, 3)) (ht : tok nt t) (k : V g K R Qf kb nb nt h C M o (pc + 3) lv (.int (C 18 t.toNatClampNeg) :: st)) : V g K R Qf kb nb nt h C M o pc lv (va_rf (trO g t) :: st) := by
  rw [tok_rf (h := h) ht]
  exact V_getf (ci := 3) (kf := 7) (T := TX3) (N := 15) (Cn := RX3) (n := (73 + 4 * t.toNatClampNeg)) hd (by rw [ho]; exact w_396) uin_3 rfl (by decide) (by have := ht.2; omega) ent_txO rfl k
theorem pf_X4_189 {t : Int32} {x : Int32} (ho : ko K = RX4) (hd : decode (kc K) pc = .ok (.putfield 189, 3)) (ht : tok nt t) (k : V g K R Qf kb nb nt h (up C 18 t.toNatClampNeg x) M o (pc + 3) lv st) : V g K R Qf kb nb nt h C M o pc lv (.int x :: va_rf (trO g t) :: st) := by
  rw [tok_rf (h := h) ht]
  exact V_putf (ci := 3) (kf := 7) (T := TX3) (N := 15) (Cn := RX3) (n := (73 + 4 * t.toNatClampNeg)) (ty := .int) hd (by rw [ho]; exact w_396) uin_3 tyX3_ok nmX3 rfl (by decide) rfl (by decide +kernel) rfl rfl (Nat.le_of_ble_eq_true rfl) (by have := ht.2; omega) ent_txO (by rw [ent_txO]; unfold txO; simp [up]) (fun m q => eC_18 q) k
theorem gf_X4_199 {t : Int32} (ho : ko K = RX4) (hd : decode (kc K) pc = .ok (.getfield 199, 3)) (ht : tok nt t) (k : V g K R Qf kb nb nt h C M o (pc + 3) lv (.int (C 11 t.toNatClampNeg) :: st)) : V g K R Qf kb nb nt h C M o pc lv (va_rf (trO g t) :: st) := by
  rw [tok_rf (h := h) ht]
  exact V_getf (ci := 3) (kf := 0) (T := TX3) (N := 15) (Cn := RX3) (n := (73 + 4 * t.toNatClampNeg)) hd (by rw [ho]; exact w_382) uin_3 rfl (by decide) (by have := ht.2; omega) ent_txO rfl k
theorem gf_X4_202 {t : Int32} (ho : ko K = RX4) (hd : decode (kc K) pc = .ok (.getfield 202, 3)) (ht : tok nt t) (k : V g K R Qf kb nb nt h C M o (pc + 3) lv (.int (C 20 t.toNatClampNeg) :: st)) : V g K R Qf kb nb nt h C M o pc lv (va_rf (trO g t) :: st) := by
  rw [tok_rf (h := h) ht]
  exact V_getf (ci := 3) (kf := 9) (T := TX3) (N := 15) (Cn := RX3) (n := (73 + 4 * t.toNatClampNeg)) hd (by rw [ho]; exact w_400) uin_3 rfl (by decide) (by have := ht.2; omega) ent_txO rfl k
theorem pf_X4_202 {t : Int32} {x : Int32} (ho : ko K = RX4) (hd : decode (kc K) pc = .ok (.putfield 202, 3)) (ht : tok nt t) (k : V g K R Qf kb nb nt h (up C 20 t.toNatClampNeg x) M o (pc + 3) lv st) : V g K R Qf kb nb nt h C M o pc lv (.int x :: va_rf (trO g t) :: st) := by
  rw [tok_rf (h := h) ht]
  exact V_putf (ci := 3) (kf := 9) (T := TX3) (N := 15) (Cn := RX3) (n := (73 + 4 * t.toNatClampNeg)) (ty := .int) hd (by rw [ho]; exact w_400) uin_3 tyX3_ok nmX3 rfl (by decide) rfl (by decide +kernel) rfl rfl (Nat.le_of_ble_eq_true rfl) (by have := ht.2; omega) ent_txO (by rw [ent_txO]; unfold txO; simp [up]) (fun m q => eC_20 q) k
theorem gf_X4_217 {i : Nat} (ho : ko K = RX4) (hd : decode (kc K) pc = .ok (.getfield 217, 3)) (hi : i < 32) (k : V g K R Qf kb nb nt h C M o (pc + 3) lv (.int (C 8 i) :: st)) : V g K R Qf kb nb nt h C M o pc lv (.ref (ad g (41 + i)) :: st) := by
  rw [← hp_ad (g := g) (h := h) (n := 41 + i) (by omega) (by omega)]
  exact V_getf (ci := 0) (kf := 4) (T := TX0) (N := 6) (Cn := RX0) (n := (41 + i)) hd (by rw [ho]; exact w_84) uin_0 rfl (by decide) (by omega) (ent_cell hi) rfl k
theorem pf_X4_217 {i : Nat} {x : Int32} (ho : ko K = RX4) (hd : decode (kc K) pc = .ok (.putfield 217, 3)) (hi : i < 32) (k : V g K R Qf kb nb nt h (up C 8 i x) M o (pc + 3) lv st) : V g K R Qf kb nb nt h C M o pc lv (.int x :: .ref (ad g (41 + i)) :: st) := by
  rw [← hp_ad (g := g) (h := h) (n := 41 + i) (by omega) (by omega)]
  exact V_putf (ci := 0) (kf := 4) (T := TX0) (N := 6) (Cn := RX0) (n := (41 + i)) (ty := .int) hd (by rw [ho]; exact w_84) uin_0 tyX0_ok nmX0 rfl (by decide) rfl (by decide +kernel) rfl rfl (Nat.le_of_ble_eq_true rfl) (by omega) (ent_cell hi) (by rw [ent_cell hi]; unfold cellE; simp [up]) (fun m q => eC_8 q) k
theorem gf_X4_218 {i : Nat} (ho : ko K = RX4) (hd : decode (kc K) pc = .ok (.getfield 218, 3)) (hi : i < 32) (k : V g K R Qf kb nb nt h C M o (pc + 3) lv (.int (C 9 i) :: st)) : V g K R Qf kb nb nt h C M o pc lv (.ref (ad g (41 + i)) :: st) := by
  rw [← hp_ad (g := g) (h := h) (n := 41 + i) (by omega) (by omega)]
  exact V_getf (ci := 0) (kf := 5) (T := TX0) (N := 6) (Cn := RX0) (n := (41 + i)) hd (by rw [ho]; exact w_86) uin_0 rfl (by decide) (by omega) (ent_cell hi) rfl k
theorem pf_X4_218 {i : Nat} {x : Int32} (ho : ko K = RX4) (hd : decode (kc K) pc = .ok (.putfield 218, 3)) (hi : i < 32) (k : V g K R Qf kb nb nt h (up C 9 i x) M o (pc + 3) lv st) : V g K R Qf kb nb nt h C M o pc lv (.int x :: .ref (ad g (41 + i)) :: st) := by
  rw [← hp_ad (g := g) (h := h) (n := 41 + i) (by omega) (by omega)]
  exact V_putf (ci := 0) (kf := 5) (T := TX0) (N := 6) (Cn := RX0) (n := (41 + i)) (ty := .int) hd (by rw [ho]; exact w_86) uin_0 tyX0_ok nmX0 rfl (by decide) rfl (by decide +kernel) rfl rfl (Nat.le_of_ble_eq_true rfl) (by omega) (ent_cell hi) (by rw [ent_cell hi]; unfold cellE; simp [up]) (fun m q => eC_9 q) k
theorem gf_X4_277 {t : Int32} (ho : ko K = RX4) (hd : decode (kc K) pc = .ok (.getfield 277, 3)) (ht : tok nt t) (k : V g K R Qf kb nb nt h C M o (pc + 3) lv (.ref (ad g (73 + 4 * t.toNatClampNeg + 2)) :: st)) : V g K R Qf kb nb nt h C M o pc lv (va_rf (trO g t) :: st) := by
  rw [tok_rf (h := h) ht]
  exact V_getf (ci := 3) (kf := 13) (T := TX3) (N := 15) (Cn := RX3) (n := (73 + 4 * t.toNatClampNeg)) hd (by rw [ho]; exact w_408) uin_3 rfl (by decide) (by have := ht.2; omega) ent_txO rfl k
theorem gf_X4_285 {t : Int32} (ho : ko K = RX4) (hd : decode (kc K) pc = .ok (.getfield 285, 3)) (ht : tok nt t) (k : V g K R Qf kb nb nt h C M o (pc + 3) lv (.ref (ad g (73 + 4 * t.toNatClampNeg + 3)) :: st)) : V g K R Qf kb nb nt h C M o pc lv (va_rf (trO g t) :: st) := by
  rw [tok_rf (h := h) ht]
  exact V_getf (ci := 3) (kf := 14) (T := TX3) (N := 15) (Cn := RX3) (n := (73 + 4 * t.toNatClampNeg)) hd (by rw [ho]; exact w_410) uin_3 rfl (by decide) (by have := ht.2; omega) ent_txO rfl k
theorem gf_X4_288 {t : Int32} (ho : ko K = RX4) (hd : decode (kc K) pc = .ok (.getfield 288, 3)) (ht : tok nt t) (k : V g K R Qf kb nb nt h C M o (pc + 3) lv (.int (C 13 t.toNatClampNeg) :: st)) : V g K R Qf kb nb nt h C M o pc lv (va_rf (trO g t) :: st) := by
  rw [tok_rf (h := h) ht]
  exact V_getf (ci := 3) (kf := 2) (T := TX3) (N := 15) (Cn := RX3) (n := (73 + 4 * t.toNatClampNeg)) hd (by rw [ho]; exact w_386) uin_3 rfl (by decide) (by have := ht.2; omega) ent_txO rfl k
theorem gf_X0_9 {i : Nat} (ho : ko K = RX0) (hd : decode (kc K) pc = .ok (.getfield 9, 3)) (hi : i < 32) (k : V g K R Qf kb nb nt h C M o (pc + 3) lv (.int (C 9 i) :: st)) : V g K R Qf kb nb nt h C M o pc lv (.ref (ad g (41 + i)) :: st) := by
  rw [← hp_ad (g := g) (h := h) (n := 41 + i) (by omega) (by omega)]
  exact V_getf (ci := 0) (kf := 5) (T := TX0) (N := 6) (Cn := RX0) (n := (41 + i)) hd (by rw [ho]; exact w_85) uin_0 rfl (by decide) (by omega) (ent_cell hi) rfl k
theorem pf_X0_9 {i : Nat} {x : Int32} (ho : ko K = RX0) (hd : decode (kc K) pc = .ok (.putfield 9, 3)) (hi : i < 32) (k : V g K R Qf kb nb nt h (up C 9 i x) M o (pc + 3) lv st) : V g K R Qf kb nb nt h C M o pc lv (.int x :: .ref (ad g (41 + i)) :: st) := by
  rw [← hp_ad (g := g) (h := h) (n := 41 + i) (by omega) (by omega)]
  exact V_putf (ci := 0) (kf := 5) (T := TX0) (N := 6) (Cn := RX0) (n := (41 + i)) (ty := .int) hd (by rw [ho]; exact w_85) uin_0 tyX0_ok nmX0 rfl (by decide) rfl (by decide +kernel) rfl rfl (Nat.le_of_ble_eq_true rfl) (by omega) (ent_cell hi) (by rw [ent_cell hi]; unfold cellE; simp [up]) (fun m q => eC_9 q) k
theorem gf_X0_15 {i : Nat} (ho : ko K = RX0) (hd : decode (kc K) pc = .ok (.getfield 15, 3)) (hi : i < 32) (k : V g K R Qf kb nb nt h C M o (pc + 3) lv (.int (C 8 i) :: st)) : V g K R Qf kb nb nt h C M o pc lv (.ref (ad g (41 + i)) :: st) := by
  rw [← hp_ad (g := g) (h := h) (n := 41 + i) (by omega) (by omega)]
  exact V_getf (ci := 0) (kf := 4) (T := TX0) (N := 6) (Cn := RX0) (n := (41 + i)) hd (by rw [ho]; exact w_83) uin_0 rfl (by decide) (by omega) (ent_cell hi) rfl k
theorem pf_X0_15 {i : Nat} {x : Int32} (ho : ko K = RX0) (hd : decode (kc K) pc = .ok (.putfield 15, 3)) (hi : i < 32) (k : V g K R Qf kb nb nt h (up C 8 i x) M o (pc + 3) lv st) : V g K R Qf kb nb nt h C M o pc lv (.int x :: .ref (ad g (41 + i)) :: st) := by
  rw [← hp_ad (g := g) (h := h) (n := 41 + i) (by omega) (by omega)]
  exact V_putf (ci := 0) (kf := 4) (T := TX0) (N := 6) (Cn := RX0) (n := (41 + i)) (ty := .int) hd (by rw [ho]; exact w_83) uin_0 tyX0_ok nmX0 rfl (by decide) rfl (by decide +kernel) rfl rfl (Nat.le_of_ble_eq_true rfl) (by omega) (ent_cell hi) (by rw [ent_cell hi]; unfold cellE; simp [up]) (fun m q => eC_8 q) k
theorem gf_X1_9 (ho : ko K = RX1) (hd : decode (kc K) pc = .ok (.getfield 9, 3)) (k : V g K R Qf kb nb nt h C M o (pc + 3) lv (.ref h.1 :: st)) : V g K R Qf kb nb nt h C M o pc lv (.ref (ad g 4) :: st) := by
  rw [← hp_ad (g := g) (h := h) (n := 4) (by decide) (by decide)]
  exact V_getf (ci := 1) (kf := 0) (T := TX1) (N := 6) (Cn := RX1) (n := 4) hd (by rw [ho]; exact w_38) uin_1 rfl (by decide) (by omega) (ent_fix (by decide)) rfl k
theorem gf_X1_15 (ho : ko K = RX1) (hd : decode (kc K) pc = .ok (.getfield 15, 3)) (k : V g K R Qf kb nb nt h C M o (pc + 3) lv (.ref h.2 :: st)) : V g K R Qf kb nb nt h C M o pc lv (.ref (ad g 4) :: st) := by
  rw [← hp_ad (g := g) (h := h) (n := 4) (by decide) (by decide)]
  exact V_getf (ci := 1) (kf := 1) (T := TX1) (N := 6) (Cn := RX1) (n := 4) hd (by rw [ho]; exact w_39) uin_1 rfl (by decide) (by omega) (ent_fix (by decide)) rfl k
theorem gf_X1_20 (ho : ko K = RX1) (hd : decode (kc K) pc = .ok (.getfield 20, 3)) (k : V g K R Qf kb nb nt h C M o (pc + 3) lv (.ref (ad g 7) :: st)) : V g K R Qf kb nb nt h C M o pc lv (.ref (ad g 4) :: st) := by
  rw [← hp_ad (g := g) (h := h) (n := 4) (by decide) (by decide)]
  exact V_getf (ci := 1) (kf := 3) (T := TX1) (N := 6) (Cn := RX1) (n := 4) hd (by rw [ho]; exact w_41) uin_1 rfl (by decide) (by omega) (ent_fix (by decide)) rfl k
theorem gf_X1_24 (ho : ko K = RX1) (hd : decode (kc K) pc = .ok (.getfield 24, 3)) (k : V g K R Qf kb nb nt h C M o (pc + 3) lv (.ref (ad g 8) :: st)) : V g K R Qf kb nb nt h C M o pc lv (.ref (ad g 4) :: st) := by
  rw [← hp_ad (g := g) (h := h) (n := 4) (by decide) (by decide)]
  exact V_getf (ci := 1) (kf := 5) (T := TX1) (N := 6) (Cn := RX1) (n := 4) hd (by rw [ho]; exact w_43) uin_1 rfl (by decide) (by omega) (ent_fix (by decide)) rfl k
theorem gf_X1_27 (ho : ko K = RX1) (hd : decode (kc K) pc = .ok (.getfield 27, 3)) (k : V g K R Qf kb nb nt h C M o (pc + 3) lv (.int (C 26 0) :: st)) : V g K R Qf kb nb nt h C M o pc lv (.ref (ad g 4) :: st) := by
  rw [← hp_ad (g := g) (h := h) (n := 4) (by decide) (by decide)]
  exact V_getf (ci := 1) (kf := 2) (T := TX1) (N := 6) (Cn := RX1) (n := 4) hd (by rw [ho]; exact w_40) uin_1 rfl (by decide) (by omega) (ent_fix (by decide)) rfl k
theorem pf_X1_27 {x : Int32} (ho : ko K = RX1) (hd : decode (kc K) pc = .ok (.putfield 27, 3)) (k : V g K R Qf kb nb nt h (up C 26 0 x) M o (pc + 3) lv st) : V g K R Qf kb nb nt h C M o pc lv (.int x :: .ref (ad g 4) :: st) := by
  rw [← hp_ad (g := g) (h := h) (n := 4) (by decide) (by decide)]
  exact V_putf (ci := 1) (kf := 2) (T := TX1) (N := 6) (Cn := RX1) (n := 4) (ty := .int) hd (by rw [ho]; exact w_40) uin_1 tyX1_ok nmX1 rfl (by decide) rfl (by decide +kernel) rfl rfl (Nat.le_of_ble_eq_true rfl) (by omega) (ent_fix (by decide)) (by rw [ent_fix (by decide)]; unfold fixE; simp [up]) (fun m q => eC_26 q) k
theorem gf_X1_41 (ho : ko K = RX1) (hd : decode (kc K) pc = .ok (.getfield 41, 3)) (k : V g K R Qf kb nb nt h C M o (pc + 3) lv (.int (C 31 0) :: st)) : V g K R Qf kb nb nt h C M o pc lv (.ref (ad g 4) :: st) := by
  rw [← hp_ad (g := g) (h := h) (n := 4) (by decide) (by decide)]
  exact V_getf (ci := 1) (kf := 4) (T := TX1) (N := 6) (Cn := RX1) (n := 4) hd (by rw [ho]; exact w_42) uin_1 rfl (by decide) (by omega) (ent_fix (by decide)) rfl k
theorem pf_X1_41 {x : Int32} (ho : ko K = RX1) (hd : decode (kc K) pc = .ok (.putfield 41, 3)) (k : V g K R Qf kb nb nt h (up C 31 0 x) M o (pc + 3) lv st) : V g K R Qf kb nb nt h C M o pc lv (.int x :: .ref (ad g 4) :: st) := by
  rw [← hp_ad (g := g) (h := h) (n := 4) (by decide) (by decide)]
  exact V_putf (ci := 1) (kf := 4) (T := TX1) (N := 6) (Cn := RX1) (n := 4) (ty := .int) hd (by rw [ho]; exact w_42) uin_1 tyX1_ok nmX1 rfl (by decide) rfl (by decide +kernel) rfl rfl (Nat.le_of_ble_eq_true rfl) (by omega) (ent_fix (by decide)) (by rw [ent_fix (by decide)]; unfold fixE; simp [up]) (fun m q => eC_31 q) k
theorem gf_X1_44 {t : Int32} (ho : ko K = RX1) (hd : decode (kc K) pc = .ok (.getfield 44, 3)) (ht : tok nt t) (k : V g K R Qf kb nb nt h C M o (pc + 3) lv (.int (C 17 t.toNatClampNeg) :: st)) : V g K R Qf kb nb nt h C M o pc lv (va_rf (trO g t) :: st) := by
  rw [tok_rf (h := h) ht]
  exact V_getf (ci := 3) (kf := 6) (T := TX3) (N := 15) (Cn := RX3) (n := (73 + 4 * t.toNatClampNeg)) hd (by rw [ho]; exact w_393) uin_3 rfl (by decide) (by have := ht.2; omega) ent_txO rfl k
theorem pf_X1_44 {t : Int32} {x : Int32} (ho : ko K = RX1) (hd : decode (kc K) pc = .ok (.putfield 44, 3)) (ht : tok nt t) (k : V g K R Qf kb nb nt h (up C 17 t.toNatClampNeg x) M o (pc + 3) lv st) : V g K R Qf kb nb nt h C M o pc lv (.int x :: va_rf (trO g t) :: st) := by
  rw [tok_rf (h := h) ht]
  exact V_putf (ci := 3) (kf := 6) (T := TX3) (N := 15) (Cn := RX3) (n := (73 + 4 * t.toNatClampNeg)) (ty := .int) hd (by rw [ho]; exact w_393) uin_3 tyX3_ok nmX3 rfl (by decide) rfl (by decide +kernel) rfl rfl (Nat.le_of_ble_eq_true rfl) (by have := ht.2; omega) ent_txO (by rw [ent_txO]; unfold txO; simp [up]) (fun m q => eC_17 q) k
theorem gf_X1_59 {t : Int32} (ho : ko K = RX1) (hd : decode (kc K) pc = .ok (.getfield 59, 3)) (ht : tok nt t) (k : V g K R Qf kb nb nt h C M o (pc + 3) lv (.ref (ad g (73 + 4 * t.toNatClampNeg + 1)) :: st)) : V g K R Qf kb nb nt h C M o pc lv (va_rf (trO g t) :: st) := by
  rw [tok_rf (h := h) ht]
  exact V_getf (ci := 3) (kf := 12) (T := TX3) (N := 15) (Cn := RX3) (n := (73 + 4 * t.toNatClampNeg)) hd (by rw [ho]; exact w_405) uin_3 rfl (by decide) (by have := ht.2; omega) ent_txO rfl k
theorem gf_X1_65 {t : Int32} (ho : ko K = RX1) (hd : decode (kc K) pc = .ok (.getfield 65, 3)) (ht : tok nt t) (k : V g K R Qf kb nb nt h C M o (pc + 3) lv (.ref (ad g (73 + 4 * t.toNatClampNeg + 2)) :: st)) : V g K R Qf kb nb nt h C M o pc lv (va_rf (trO g t) :: st) := by
  rw [tok_rf (h := h) ht]
  exact V_getf (ci := 3) (kf := 13) (T := TX3) (N := 15) (Cn := RX3) (n := (73 + 4 * t.toNatClampNeg)) hd (by rw [ho]; exact w_407) uin_3 rfl (by decide) (by have := ht.2; omega) ent_txO rfl k
theorem gf_X2_9 {i : Nat} (ho : ko K = RX2) (hd : decode (kc K) pc = .ok (.getfield 9, 3)) (hi : i < 4) (k : V g K R Qf kb nb nt h C M o (pc + 3) lv (.int (C 1 i) :: st)) : V g K R Qf kb nb nt h C M o pc lv (.ref (ad g (37 + i)) :: st) := by
  rw [← hp_ad (g := g) (h := h) (n := 37 + i) (by omega) (by omega)]
  exact V_getf (ci := 2) (kf := 0) (T := TX2) (N := 3) (Cn := RX2) (n := (37 + i)) hd (by rw [ho]; exact w_63) uin_2 rfl (by decide) (by omega) (ent_node hi) rfl k
theorem pf_X2_9 {i : Nat} {x : Int32} (ho : ko K = RX2) (hd : decode (kc K) pc = .ok (.putfield 9, 3)) (hi : i < 4) (k : V g K R Qf kb nb nt h (up C 1 i x) M o (pc + 3) lv st) : V g K R Qf kb nb nt h C M o pc lv (.int x :: .ref (ad g (37 + i)) :: st) := by
  rw [← hp_ad (g := g) (h := h) (n := 37 + i) (by omega) (by omega)]
  exact V_putf (ci := 2) (kf := 0) (T := TX2) (N := 3) (Cn := RX2) (n := (37 + i)) (ty := .int) hd (by rw [ho]; exact w_63) uin_2 tyX2_ok nmX2 rfl (by decide) rfl (by decide +kernel) rfl rfl (Nat.le_of_ble_eq_true rfl) (by omega) (ent_node hi) (by rw [ent_node hi]; unfold nodeE; simp [up]) (fun m q => eC_1 q) k
theorem gf_X2_15 {i : Nat} (ho : ko K = RX2) (hd : decode (kc K) pc = .ok (.getfield 15, 3)) (hi : i < 4) (k : V g K R Qf kb nb nt h C M o (pc + 3) lv (.int (C 2 i) :: st)) : V g K R Qf kb nb nt h C M o pc lv (.ref (ad g (37 + i)) :: st) := by
  rw [← hp_ad (g := g) (h := h) (n := 37 + i) (by omega) (by omega)]
  exact V_getf (ci := 2) (kf := 1) (T := TX2) (N := 3) (Cn := RX2) (n := (37 + i)) hd (by rw [ho]; exact w_65) uin_2 rfl (by decide) (by omega) (ent_node hi) rfl k
theorem pf_X2_15 {i : Nat} {x : Int32} (ho : ko K = RX2) (hd : decode (kc K) pc = .ok (.putfield 15, 3)) (hi : i < 4) (k : V g K R Qf kb nb nt h (up C 2 i x) M o (pc + 3) lv st) : V g K R Qf kb nb nt h C M o pc lv (.int x :: .ref (ad g (37 + i)) :: st) := by
  rw [← hp_ad (g := g) (h := h) (n := 37 + i) (by omega) (by omega)]
  exact V_putf (ci := 2) (kf := 1) (T := TX2) (N := 3) (Cn := RX2) (n := (37 + i)) (ty := .int) hd (by rw [ho]; exact w_65) uin_2 tyX2_ok nmX2 rfl (by decide) rfl (by decide +kernel) rfl rfl (Nat.le_of_ble_eq_true rfl) (by omega) (ent_node hi) (by rw [ent_node hi]; unfold nodeE; simp [up]) (fun m q => eC_2 q) k
theorem gf_X3_9 {t : Int32} (ho : ko K = RX3) (hd : decode (kc K) pc = .ok (.getfield 9, 3)) (ht : tok nt t) (k : V g K R Qf kb nb nt h C M o (pc + 3) lv (.int (C 15 t.toNatClampNeg) :: st)) : V g K R Qf kb nb nt h C M o pc lv (va_rf (trO g t) :: st) := by
  rw [tok_rf (h := h) ht]
  exact V_getf (ci := 3) (kf := 4) (T := TX3) (N := 15) (Cn := RX3) (n := (73 + 4 * t.toNatClampNeg)) hd (by rw [ho]; exact w_388) uin_3 rfl (by decide) (by have := ht.2; omega) ent_txO rfl k
theorem pf_X3_9 {t : Int32} {x : Int32} (ho : ko K = RX3) (hd : decode (kc K) pc = .ok (.putfield 9, 3)) (ht : tok nt t) (k : V g K R Qf kb nb nt h (up C 15 t.toNatClampNeg x) M o (pc + 3) lv st) : V g K R Qf kb nb nt h C M o pc lv (.int x :: va_rf (trO g t) :: st) := by
  rw [tok_rf (h := h) ht]
  exact V_putf (ci := 3) (kf := 4) (T := TX3) (N := 15) (Cn := RX3) (n := (73 + 4 * t.toNatClampNeg)) (ty := .int) hd (by rw [ho]; exact w_388) uin_3 tyX3_ok nmX3 rfl (by decide) rfl (by decide +kernel) rfl rfl (Nat.le_of_ble_eq_true rfl) (by have := ht.2; omega) ent_txO (by rw [ent_txO]; unfold txO; simp [up]) (fun m q => eC_15 q) k
theorem gf_X3_15 {t : Int32} (ho : ko K = RX3) (hd : decode (kc K) pc = .ok (.getfield 15, 3)) (ht : tok nt t) (k : V g K R Qf kb nb nt h C M o (pc + 3) lv (.ref (ad g (73 + 4 * t.toNatClampNeg + 1)) :: st)) : V g K R Qf kb nb nt h C M o pc lv (va_rf (trO g t) :: st) := by
  rw [tok_rf (h := h) ht]
  exact V_getf (ci := 3) (kf := 12) (T := TX3) (N := 15) (Cn := RX3) (n := (73 + 4 * t.toNatClampNeg)) hd (by rw [ho]; exact w_404) uin_3 rfl (by decide) (by have := ht.2; omega) ent_txO rfl k
theorem gf_X3_19 {t : Int32} (ho : ko K = RX3) (hd : decode (kc K) pc = .ok (.getfield 19, 3)) (ht : tok nt t) (k : V g K R Qf kb nb nt h C M o (pc + 3) lv (.ref (ad g (73 + 4 * t.toNatClampNeg + 2)) :: st)) : V g K R Qf kb nb nt h C M o pc lv (va_rf (trO g t) :: st) := by
  rw [tok_rf (h := h) ht]
  exact V_getf (ci := 3) (kf := 13) (T := TX3) (N := 15) (Cn := RX3) (n := (73 + 4 * t.toNatClampNeg)) hd (by rw [ho]; exact w_406) uin_3 rfl (by decide) (by have := ht.2; omega) ent_txO rfl k
theorem gf_X3_22 {t : Int32} (ho : ko K = RX3) (hd : decode (kc K) pc = .ok (.getfield 22, 3)) (ht : tok nt t) (k : V g K R Qf kb nb nt h C M o (pc + 3) lv (.ref (ad g (73 + 4 * t.toNatClampNeg + 3)) :: st)) : V g K R Qf kb nb nt h C M o pc lv (va_rf (trO g t) :: st) := by
  rw [tok_rf (h := h) ht]
  exact V_getf (ci := 3) (kf := 14) (T := TX3) (N := 15) (Cn := RX3) (n := (73 + 4 * t.toNatClampNeg)) hd (by rw [ho]; exact w_409) uin_3 rfl (by decide) (by have := ht.2; omega) ent_txO rfl k
theorem gf_X3_25 {t : Int32} (ho : ko K = RX3) (hd : decode (kc K) pc = .ok (.getfield 25, 3)) (ht : tok nt t) (k : V g K R Qf kb nb nt h C M o (pc + 3) lv (.int (C 11 t.toNatClampNeg) :: st)) : V g K R Qf kb nb nt h C M o pc lv (va_rf (trO g t) :: st) := by
  rw [tok_rf (h := h) ht]
  exact V_getf (ci := 3) (kf := 0) (T := TX3) (N := 15) (Cn := RX3) (n := (73 + 4 * t.toNatClampNeg)) hd (by rw [ho]; exact w_381) uin_3 rfl (by decide) (by have := ht.2; omega) ent_txO rfl k
theorem gf_X3_28 {t : Int32} (ho : ko K = RX3) (hd : decode (kc K) pc = .ok (.getfield 28, 3)) (ht : tok nt t) (k : V g K R Qf kb nb nt h C M o (pc + 3) lv (.int (C 12 t.toNatClampNeg) :: st)) : V g K R Qf kb nb nt h C M o pc lv (va_rf (trO g t) :: st) := by
  rw [tok_rf (h := h) ht]
  exact V_getf (ci := 3) (kf := 1) (T := TX3) (N := 15) (Cn := RX3) (n := (73 + 4 * t.toNatClampNeg)) hd (by rw [ho]; exact w_383) uin_3 rfl (by decide) (by have := ht.2; omega) ent_txO rfl k
theorem gf_X3_31 {t : Int32} (ho : ko K = RX3) (hd : decode (kc K) pc = .ok (.getfield 31, 3)) (ht : tok nt t) (k : V g K R Qf kb nb nt h C M o (pc + 3) lv (.int (C 13 t.toNatClampNeg) :: st)) : V g K R Qf kb nb nt h C M o pc lv (va_rf (trO g t) :: st) := by
  rw [tok_rf (h := h) ht]
  exact V_getf (ci := 3) (kf := 2) (T := TX3) (N := 15) (Cn := RX3) (n := (73 + 4 * t.toNatClampNeg)) hd (by rw [ho]; exact w_385) uin_3 rfl (by decide) (by have := ht.2; omega) ent_txO rfl k
theorem gf_X3_34 {t : Int32} (ho : ko K = RX3) (hd : decode (kc K) pc = .ok (.getfield 34, 3)) (ht : tok nt t) (k : V g K R Qf kb nb nt h C M o (pc + 3) lv (.int (C 14 t.toNatClampNeg) :: st)) : V g K R Qf kb nb nt h C M o pc lv (va_rf (trO g t) :: st) := by
  rw [tok_rf (h := h) ht]
  exact V_getf (ci := 3) (kf := 3) (T := TX3) (N := 15) (Cn := RX3) (n := (73 + 4 * t.toNatClampNeg)) hd (by rw [ho]; exact w_387) uin_3 rfl (by decide) (by have := ht.2; omega) ent_txO rfl k
theorem gf_X3_37 {t : Int32} (ho : ko K = RX3) (hd : decode (kc K) pc = .ok (.getfield 37, 3)) (ht : tok nt t) (k : V g K R Qf kb nb nt h C M o (pc + 3) lv (.int (C 16 t.toNatClampNeg) :: st)) : V g K R Qf kb nb nt h C M o pc lv (va_rf (trO g t) :: st) := by
  rw [tok_rf (h := h) ht]
  exact V_getf (ci := 3) (kf := 5) (T := TX3) (N := 15) (Cn := RX3) (n := (73 + 4 * t.toNatClampNeg)) hd (by rw [ho]; exact w_390) uin_3 rfl (by decide) (by have := ht.2; omega) ent_txO rfl k
theorem pf_X3_37 {t : Int32} {x : Int32} (ho : ko K = RX3) (hd : decode (kc K) pc = .ok (.putfield 37, 3)) (ht : tok nt t) (k : V g K R Qf kb nb nt h (up C 16 t.toNatClampNeg x) M o (pc + 3) lv st) : V g K R Qf kb nb nt h C M o pc lv (.int x :: va_rf (trO g t) :: st) := by
  rw [tok_rf (h := h) ht]
  exact V_putf (ci := 3) (kf := 5) (T := TX3) (N := 15) (Cn := RX3) (n := (73 + 4 * t.toNatClampNeg)) (ty := .int) hd (by rw [ho]; exact w_390) uin_3 tyX3_ok nmX3 rfl (by decide) rfl (by decide +kernel) rfl rfl (Nat.le_of_ble_eq_true rfl) (by have := ht.2; omega) ent_txO (by rw [ent_txO]; unfold txO; simp [up]) (fun m q => eC_16 q) k
theorem gf_X3_40 {t : Int32} (ho : ko K = RX3) (hd : decode (kc K) pc = .ok (.getfield 40, 3)) (ht : tok nt t) (k : V g K R Qf kb nb nt h C M o (pc + 3) lv (.int (C 17 t.toNatClampNeg) :: st)) : V g K R Qf kb nb nt h C M o pc lv (va_rf (trO g t) :: st) := by
  rw [tok_rf (h := h) ht]
  exact V_getf (ci := 3) (kf := 6) (T := TX3) (N := 15) (Cn := RX3) (n := (73 + 4 * t.toNatClampNeg)) hd (by rw [ho]; exact w_392) uin_3 rfl (by decide) (by have := ht.2; omega) ent_txO rfl k
theorem pf_X3_40 {t : Int32} {x : Int32} (ho : ko K = RX3) (hd : decode (kc K) pc = .ok (.putfield 40, 3)) (ht : tok nt t) (k : V g K R Qf kb nb nt h (up C 17 t.toNatClampNeg x) M o (pc + 3) lv st) : V g K R Qf kb nb nt h C M o pc lv (.int x :: va_rf (trO g t) :: st) := by
  rw [tok_rf (h := h) ht]
  exact V_putf (ci := 3) (kf := 6) (T := TX3) (N := 15) (Cn := RX3) (n := (73 + 4 * t.toNatClampNeg)) (ty := .int) hd (by rw [ho]; exact w_392) uin_3 tyX3_ok nmX3 rfl (by decide) rfl (by decide +kernel) rfl rfl (Nat.le_of_ble_eq_true rfl) (by have := ht.2; omega) ent_txO (by rw [ent_txO]; unfold txO; simp [up]) (fun m q => eC_17 q) k
theorem gf_X3_43 {t : Int32} (ho : ko K = RX3) (hd : decode (kc K) pc = .ok (.getfield 43, 3)) (ht : tok nt t) (k : V g K R Qf kb nb nt h C M o (pc + 3) lv (.int (C 18 t.toNatClampNeg) :: st)) : V g K R Qf kb nb nt h C M o pc lv (va_rf (trO g t) :: st) := by
  rw [tok_rf (h := h) ht]
  exact V_getf (ci := 3) (kf := 7) (T := TX3) (N := 15) (Cn := RX3) (n := (73 + 4 * t.toNatClampNeg)) hd (by rw [ho]; exact w_395) uin_3 rfl (by decide) (by have := ht.2; omega) ent_txO rfl k
theorem pf_X3_43 {t : Int32} {x : Int32} (ho : ko K = RX3) (hd : decode (kc K) pc = .ok (.putfield 43, 3)) (ht : tok nt t) (k : V g K R Qf kb nb nt h (up C 18 t.toNatClampNeg x) M o (pc + 3) lv st) : V g K R Qf kb nb nt h C M o pc lv (.int x :: va_rf (trO g t) :: st) := by
  rw [tok_rf (h := h) ht]
  exact V_putf (ci := 3) (kf := 7) (T := TX3) (N := 15) (Cn := RX3) (n := (73 + 4 * t.toNatClampNeg)) (ty := .int) hd (by rw [ho]; exact w_395) uin_3 tyX3_ok nmX3 rfl (by decide) rfl (by decide +kernel) rfl rfl (Nat.le_of_ble_eq_true rfl) (by have := ht.2; omega) ent_txO (by rw [ent_txO]; unfold txO; simp [up]) (fun m q => eC_18 q) k
theorem gf_X3_46 {t : Int32} (ho : ko K = RX3) (hd : decode (kc K) pc = .ok (.getfield 46, 3)) (ht : tok nt t) (k : V g K R Qf kb nb nt h C M o (pc + 3) lv (va_rf (trO g (C 19 t.toNatClampNeg)) :: st)) : V g K R Qf kb nb nt h C M o pc lv (va_rf (trO g t) :: st) := by
  rw [tok_rf (h := h) ht]
  exact V_getf (ci := 3) (kf := 8) (T := TX3) (N := 15) (Cn := RX3) (n := (73 + 4 * t.toNatClampNeg)) hd (by rw [ho]; exact w_397) uin_3 rfl (by decide) (by have := ht.2; omega) ent_txO rfl k
theorem pf_X3_46 {t : Int32} {x : Int32} (ho : ko K = RX3) (hd : decode (kc K) pc = .ok (.putfield 46, 3)) (ht : tok nt t) (k : V g K R Qf kb nb nt h (up C 19 t.toNatClampNeg x) M o (pc + 3) lv st) : V g K R Qf kb nb nt h C M o pc lv (va_rf (trO g x) :: va_rf (trO g t) :: st) := by
  rw [tok_rf (h := h) ht]
  exact V_putf (ci := 3) (kf := 8) (T := TX3) (N := 15) (Cn := RX3) (n := (73 + 4 * t.toNatClampNeg)) (ty := .object "Twinphase$Transaction") hd (by rw [ho]; exact w_397) uin_3 tyX3_ok nmX3 rfl (by decide) rfl (by decide +kernel) (by cases trO g x <;> rfl) (by cases trO g x <;> rfl) (Nat.le_of_ble_eq_true rfl) (by have := ht.2; omega) ent_txO (by rw [ent_txO]; unfold txO; simp [up]) (fun m q => eC_19 q) k
theorem gf_X3_50 {t : Int32} (ho : ko K = RX3) (hd : decode (kc K) pc = .ok (.getfield 50, 3)) (ht : tok nt t) (k : V g K R Qf kb nb nt h C M o (pc + 3) lv (.int (C 22 t.toNatClampNeg) :: st)) : V g K R Qf kb nb nt h C M o pc lv (va_rf (trO g t) :: st) := by
  rw [tok_rf (h := h) ht]
  exact V_getf (ci := 3) (kf := 11) (T := TX3) (N := 15) (Cn := RX3) (n := (73 + 4 * t.toNatClampNeg)) hd (by rw [ho]; exact w_403) uin_3 rfl (by decide) (by have := ht.2; omega) ent_txO rfl k
theorem pf_X3_50 {t : Int32} {x : Int32} (ho : ko K = RX3) (hd : decode (kc K) pc = .ok (.putfield 50, 3)) (ht : tok nt t) (k : V g K R Qf kb nb nt h (up C 22 t.toNatClampNeg x) M o (pc + 3) lv st) : V g K R Qf kb nb nt h C M o pc lv (.int x :: va_rf (trO g t) :: st) := by
  rw [tok_rf (h := h) ht]
  exact V_putf (ci := 3) (kf := 11) (T := TX3) (N := 15) (Cn := RX3) (n := (73 + 4 * t.toNatClampNeg)) (ty := .int) hd (by rw [ho]; exact w_403) uin_3 tyX3_ok nmX3 rfl (by decide) rfl (by decide +kernel) rfl rfl (Nat.le_of_ble_eq_true rfl) (by have := ht.2; omega) ent_txO (by rw [ent_txO]; unfold txO; simp [up]) (fun m q => eC_22 q) k
theorem gf_X3_59 {t : Int32} (ho : ko K = RX3) (hd : decode (kc K) pc = .ok (.getfield 59, 3)) (ht : tok nt t) (k : V g K R Qf kb nb nt h C M o (pc + 3) lv (.int (C 20 t.toNatClampNeg) :: st)) : V g K R Qf kb nb nt h C M o pc lv (va_rf (trO g t) :: st) := by
  rw [tok_rf (h := h) ht]
  exact V_getf (ci := 3) (kf := 9) (T := TX3) (N := 15) (Cn := RX3) (n := (73 + 4 * t.toNatClampNeg)) hd (by rw [ho]; exact w_399) uin_3 rfl (by decide) (by have := ht.2; omega) ent_txO rfl k
theorem pf_X3_59 {t : Int32} {x : Int32} (ho : ko K = RX3) (hd : decode (kc K) pc = .ok (.putfield 59, 3)) (ht : tok nt t) (k : V g K R Qf kb nb nt h (up C 20 t.toNatClampNeg x) M o (pc + 3) lv st) : V g K R Qf kb nb nt h C M o pc lv (.int x :: va_rf (trO g t) :: st) := by
  rw [tok_rf (h := h) ht]
  exact V_putf (ci := 3) (kf := 9) (T := TX3) (N := 15) (Cn := RX3) (n := (73 + 4 * t.toNatClampNeg)) (ty := .int) hd (by rw [ho]; exact w_399) uin_3 tyX3_ok nmX3 rfl (by decide) rfl (by decide +kernel) rfl rfl (Nat.le_of_ble_eq_true rfl) (by have := ht.2; omega) ent_txO (by rw [ent_txO]; unfold txO; simp [up]) (fun m q => eC_20 q) k
theorem gf_X3_62 {t : Int32} (ho : ko K = RX3) (hd : decode (kc K) pc = .ok (.getfield 62, 3)) (ht : tok nt t) (k : V g K R Qf kb nb nt h C M o (pc + 3) lv (.int (C 21 t.toNatClampNeg) :: st)) : V g K R Qf kb nb nt h C M o pc lv (va_rf (trO g t) :: st) := by
  rw [tok_rf (h := h) ht]
  exact V_getf (ci := 3) (kf := 10) (T := TX3) (N := 15) (Cn := RX3) (n := (73 + 4 * t.toNatClampNeg)) hd (by rw [ho]; exact w_401) uin_3 rfl (by decide) (by have := ht.2; omega) ent_txO rfl k
theorem pf_X3_62 {t : Int32} {x : Int32} (ho : ko K = RX3) (hd : decode (kc K) pc = .ok (.putfield 62, 3)) (ht : tok nt t) (k : V g K R Qf kb nb nt h (up C 21 t.toNatClampNeg x) M o (pc + 3) lv st) : V g K R Qf kb nb nt h C M o pc lv (.int x :: va_rf (trO g t) :: st) := by
  rw [tok_rf (h := h) ht]
  exact V_putf (ci := 3) (kf := 10) (T := TX3) (N := 15) (Cn := RX3) (n := (73 + 4 * t.toNatClampNeg)) (ty := .int) hd (by rw [ho]; exact w_401) uin_3 tyX3_ok nmX3 rfl (by decide) rfl (by decide +kernel) rfl rfl (Nat.le_of_ble_eq_true rfl) (by have := ht.2; omega) ent_txO (by rw [ent_txO]; unfold txO; simp [up]) (fun m q => eC_21 q) k
theorem gf_X5_7 (ho : ko K = RX5) (hd : decode (kc K) pc = .ok (.getfield 7, 3)) (k : V g K R Qf kb nb nt h C M o (pc + 3) lv (.ref (ad g 11) :: st)) : V g K R Qf kb nb nt h C M o pc lv (.ref (ad g 10) :: st) := by
  rw [← hp_ad (g := g) (h := h) (n := 10) (by decide) (by decide)]
  exact V_getf (ci := 5) (kf := 1) (T := TX5) (N := 32) (Cn := RX5) (n := 10) hd (by rw [ho]; exact w_695) uin_5 rfl (by decide) (by omega) (ent_fix (by decide)) rfl k
theorem gf_X5_13 (ho : ko K = RX5) (hd : decode (kc K) pc = .ok (.getfield 13, 3)) (k : V g K R Qf kb nb nt h C M o (pc + 3) lv (.ref (ad g 12) :: st)) : V g K R Qf kb nb nt h C M o pc lv (.ref (ad g 10) :: st) := by
  rw [← hp_ad (g := g) (h := h) (n := 10) (by decide) (by decide)]
  exact V_getf (ci := 5) (kf := 2) (T := TX5) (N := 32) (Cn := RX5) (n := 10) hd (by rw [ho]; exact w_696) uin_5 rfl (by decide) (by omega) (ent_fix (by decide)) rfl k
theorem gf_X5_16 (ho : ko K = RX5) (hd : decode (kc K) pc = .ok (.getfield 16, 3)) (k : V g K R Qf kb nb nt h C M o (pc + 3) lv (.ref (ad g 13) :: st)) : V g K R Qf kb nb nt h C M o pc lv (.ref (ad g 10) :: st) := by
  rw [← hp_ad (g := g) (h := h) (n := 10) (by decide) (by decide)]
  exact V_getf (ci := 5) (kf := 3) (T := TX5) (N := 32) (Cn := RX5) (n := 10) hd (by rw [ho]; exact w_697) uin_5 rfl (by decide) (by omega) (ent_fix (by decide)) rfl k
theorem gf_X5_20 (ho : ko K = RX5) (hd : decode (kc K) pc = .ok (.getfield 20, 3)) (k : V g K R Qf kb nb nt h C M o (pc + 3) lv (.int (M 4 0) :: st)) : V g K R Qf kb nb nt h C M o pc lv (.ref (ad g 10) :: st) := by
  rw [← hp_ad (g := g) (h := h) (n := 10) (by decide) (by decide)]
  exact V_getf (ci := 5) (kf := 4) (T := TX5) (N := 32) (Cn := RX5) (n := 10) hd (by rw [ho]; exact w_698) uin_5 rfl (by decide) (by omega) (ent_fix (by decide)) rfl k
theorem pf_X5_20 {x : Int32} (ho : ko K = RX5) (hd : decode (kc K) pc = .ok (.putfield 20, 3)) (k : V g K R Qf kb nb nt h C (up M 4 0 x) o (pc + 3) lv st) : V g K R Qf kb nb nt h C M o pc lv (.int x :: .ref (ad g 10) :: st) := by
  rw [← hp_ad (g := g) (h := h) (n := 10) (by decide) (by decide)]
  exact V_putf (ci := 5) (kf := 4) (T := TX5) (N := 32) (Cn := RX5) (n := 10) (ty := .int) hd (by rw [ho]; exact w_698) uin_5 tyX5_ok nmX5 rfl (by decide) rfl (by decide +kernel) rfl rfl (Nat.le_of_ble_eq_true rfl) (by omega) (ent_fix (by decide)) (by rw [ent_fix (by decide)]; unfold fixE; simp [up]) (fun m q => eM_4 q) k
theorem gf_X5_24 (ho : ko K = RX5) (hd : decode (kc K) pc = .ok (.getfield 24, 3)) (k : V g K R Qf kb nb nt h C M o (pc + 3) lv (.ref (ad g 14) :: st)) : V g K R Qf kb nb nt h C M o pc lv (.ref (ad g 10) :: st) := by
  rw [← hp_ad (g := g) (h := h) (n := 10) (by decide) (by decide)]
  exact V_getf (ci := 5) (kf := 5) (T := TX5) (N := 32) (Cn := RX5) (n := 10) hd (by rw [ho]; exact w_699) uin_5 rfl (by decide) (by omega) (ent_fix (by decide)) rfl k
theorem gf_X5_27 (ho : ko K = RX5) (hd : decode (kc K) pc = .ok (.getfield 27, 3)) (k : V g K R Qf kb nb nt h C M o (pc + 3) lv (.ref (ad g 15) :: st)) : V g K R Qf kb nb nt h C M o pc lv (.ref (ad g 10) :: st) := by
  rw [← hp_ad (g := g) (h := h) (n := 10) (by decide) (by decide)]
  exact V_getf (ci := 5) (kf := 6) (T := TX5) (N := 32) (Cn := RX5) (n := 10) hd (by rw [ho]; exact w_700) uin_5 rfl (by decide) (by omega) (ent_fix (by decide)) rfl k
theorem gf_X5_30 (ho : ko K = RX5) (hd : decode (kc K) pc = .ok (.getfield 30, 3)) (k : V g K R Qf kb nb nt h C M o (pc + 3) lv (.ref (ad g 16) :: st)) : V g K R Qf kb nb nt h C M o pc lv (.ref (ad g 10) :: st) := by
  rw [← hp_ad (g := g) (h := h) (n := 10) (by decide) (by decide)]
  exact V_getf (ci := 5) (kf := 7) (T := TX5) (N := 32) (Cn := RX5) (n := 10) hd (by rw [ho]; exact w_701) uin_5 rfl (by decide) (by omega) (ent_fix (by decide)) rfl k
theorem gf_X5_33 (ho : ko K = RX5) (hd : decode (kc K) pc = .ok (.getfield 33, 3)) (k : V g K R Qf kb nb nt h C M o (pc + 3) lv (.ref (ad g 17) :: st)) : V g K R Qf kb nb nt h C M o pc lv (.ref (ad g 10) :: st) := by
  rw [← hp_ad (g := g) (h := h) (n := 10) (by decide) (by decide)]
  exact V_getf (ci := 5) (kf := 8) (T := TX5) (N := 32) (Cn := RX5) (n := 10) hd (by rw [ho]; exact w_702) uin_5 rfl (by decide) (by omega) (ent_fix (by decide)) rfl k
theorem gf_X5_36 (ho : ko K = RX5) (hd : decode (kc K) pc = .ok (.getfield 36, 3)) (k : V g K R Qf kb nb nt h C M o (pc + 3) lv (.ref (ad g 18) :: st)) : V g K R Qf kb nb nt h C M o pc lv (.ref (ad g 10) :: st) := by
  rw [← hp_ad (g := g) (h := h) (n := 10) (by decide) (by decide)]
  exact V_getf (ci := 5) (kf := 9) (T := TX5) (N := 32) (Cn := RX5) (n := 10) hd (by rw [ho]; exact w_703) uin_5 rfl (by decide) (by omega) (ent_fix (by decide)) rfl k
theorem gf_X5_39 (ho : ko K = RX5) (hd : decode (kc K) pc = .ok (.getfield 39, 3)) (k : V g K R Qf kb nb nt h C M o (pc + 3) lv (.ref (ad g 19) :: st)) : V g K R Qf kb nb nt h C M o pc lv (.ref (ad g 10) :: st) := by
  rw [← hp_ad (g := g) (h := h) (n := 10) (by decide) (by decide)]
  exact V_getf (ci := 5) (kf := 10) (T := TX5) (N := 32) (Cn := RX5) (n := 10) hd (by rw [ho]; exact w_704) uin_5 rfl (by decide) (by omega) (ent_fix (by decide)) rfl k
theorem gf_X5_42 (ho : ko K = RX5) (hd : decode (kc K) pc = .ok (.getfield 42, 3)) (k : V g K R Qf kb nb nt h C M o (pc + 3) lv (.ref (ad g 20) :: st)) : V g K R Qf kb nb nt h C M o pc lv (.ref (ad g 10) :: st) := by
  rw [← hp_ad (g := g) (h := h) (n := 10) (by decide) (by decide)]
  exact V_getf (ci := 5) (kf := 11) (T := TX5) (N := 32) (Cn := RX5) (n := 10) hd (by rw [ho]; exact w_705) uin_5 rfl (by decide) (by omega) (ent_fix (by decide)) rfl k
theorem gf_X5_45 (ho : ko K = RX5) (hd : decode (kc K) pc = .ok (.getfield 45, 3)) (k : V g K R Qf kb nb nt h C M o (pc + 3) lv (.ref (ad g 21) :: st)) : V g K R Qf kb nb nt h C M o pc lv (.ref (ad g 10) :: st) := by
  rw [← hp_ad (g := g) (h := h) (n := 10) (by decide) (by decide)]
  exact V_getf (ci := 5) (kf := 13) (T := TX5) (N := 32) (Cn := RX5) (n := 10) hd (by rw [ho]; exact w_707) uin_5 rfl (by decide) (by omega) (ent_fix (by decide)) rfl k
theorem gf_X5_48 (ho : ko K = RX5) (hd : decode (kc K) pc = .ok (.getfield 48, 3)) (k : V g K R Qf kb nb nt h C M o (pc + 3) lv (.ref (ad g 22) :: st)) : V g K R Qf kb nb nt h C M o pc lv (.ref (ad g 10) :: st) := by
  rw [← hp_ad (g := g) (h := h) (n := 10) (by decide) (by decide)]
  exact V_getf (ci := 5) (kf := 14) (T := TX5) (N := 32) (Cn := RX5) (n := 10) hd (by rw [ho]; exact w_708) uin_5 rfl (by decide) (by omega) (ent_fix (by decide)) rfl k
theorem gf_X5_51 (ho : ko K = RX5) (hd : decode (kc K) pc = .ok (.getfield 51, 3)) (k : V g K R Qf kb nb nt h C M o (pc + 3) lv (.ref (ad g 23) :: st)) : V g K R Qf kb nb nt h C M o pc lv (.ref (ad g 10) :: st) := by
  rw [← hp_ad (g := g) (h := h) (n := 10) (by decide) (by decide)]
  exact V_getf (ci := 5) (kf := 15) (T := TX5) (N := 32) (Cn := RX5) (n := 10) hd (by rw [ho]; exact w_709) uin_5 rfl (by decide) (by omega) (ent_fix (by decide)) rfl k
theorem gf_X5_54 (ho : ko K = RX5) (hd : decode (kc K) pc = .ok (.getfield 54, 3)) (k : V g K R Qf kb nb nt h C M o (pc + 3) lv (.ref (ad g 24) :: st)) : V g K R Qf kb nb nt h C M o pc lv (.ref (ad g 10) :: st) := by
  rw [← hp_ad (g := g) (h := h) (n := 10) (by decide) (by decide)]
  exact V_getf (ci := 5) (kf := 17) (T := TX5) (N := 32) (Cn := RX5) (n := 10) hd (by rw [ho]; exact w_711) uin_5 rfl (by decide) (by omega) (ent_fix (by decide)) rfl k
theorem gf_X5_57 (ho : ko K = RX5) (hd : decode (kc K) pc = .ok (.getfield 57, 3)) (k : V g K R Qf kb nb nt h C M o (pc + 3) lv (.ref (ad g 25) :: st)) : V g K R Qf kb nb nt h C M o pc lv (.ref (ad g 10) :: st) := by
  rw [← hp_ad (g := g) (h := h) (n := 10) (by decide) (by decide)]
  exact V_getf (ci := 5) (kf := 18) (T := TX5) (N := 32) (Cn := RX5) (n := 10) hd (by rw [ho]; exact w_712) uin_5 rfl (by decide) (by omega) (ent_fix (by decide)) rfl k
theorem gf_X5_60 (ho : ko K = RX5) (hd : decode (kc K) pc = .ok (.getfield 60, 3)) (k : V g K R Qf kb nb nt h C M o (pc + 3) lv (.ref (ad g 26) :: st)) : V g K R Qf kb nb nt h C M o pc lv (.ref (ad g 10) :: st) := by
  rw [← hp_ad (g := g) (h := h) (n := 10) (by decide) (by decide)]
  exact V_getf (ci := 5) (kf := 19) (T := TX5) (N := 32) (Cn := RX5) (n := 10) hd (by rw [ho]; exact w_713) uin_5 rfl (by decide) (by omega) (ent_fix (by decide)) rfl k
theorem gf_X5_63 (ho : ko K = RX5) (hd : decode (kc K) pc = .ok (.getfield 63, 3)) (k : V g K R Qf kb nb nt h C M o (pc + 3) lv (.ref (ad g 27) :: st)) : V g K R Qf kb nb nt h C M o pc lv (.ref (ad g 10) :: st) := by
  rw [← hp_ad (g := g) (h := h) (n := 10) (by decide) (by decide)]
  exact V_getf (ci := 5) (kf := 20) (T := TX5) (N := 32) (Cn := RX5) (n := 10) hd (by rw [ho]; exact w_714) uin_5 rfl (by decide) (by omega) (ent_fix (by decide)) rfl k
theorem gf_X5_66 (ho : ko K = RX5) (hd : decode (kc K) pc = .ok (.getfield 66, 3)) (k : V g K R Qf kb nb nt h C M o (pc + 3) lv (.ref (ad g 28) :: st)) : V g K R Qf kb nb nt h C M o pc lv (.ref (ad g 10) :: st) := by
  rw [← hp_ad (g := g) (h := h) (n := 10) (by decide) (by decide)]
  exact V_getf (ci := 5) (kf := 21) (T := TX5) (N := 32) (Cn := RX5) (n := 10) hd (by rw [ho]; exact w_715) uin_5 rfl (by decide) (by omega) (ent_fix (by decide)) rfl k
theorem gf_X5_69 (ho : ko K = RX5) (hd : decode (kc K) pc = .ok (.getfield 69, 3)) (k : V g K R Qf kb nb nt h C M o (pc + 3) lv (.ref (ad g 29) :: st)) : V g K R Qf kb nb nt h C M o pc lv (.ref (ad g 10) :: st) := by
  rw [← hp_ad (g := g) (h := h) (n := 10) (by decide) (by decide)]
  exact V_getf (ci := 5) (kf := 22) (T := TX5) (N := 32) (Cn := RX5) (n := 10) hd (by rw [ho]; exact w_716) uin_5 rfl (by decide) (by omega) (ent_fix (by decide)) rfl k
theorem gf_X5_72 (ho : ko K = RX5) (hd : decode (kc K) pc = .ok (.getfield 72, 3)) (k : V g K R Qf kb nb nt h C M o (pc + 3) lv (.ref (ad g 30) :: st)) : V g K R Qf kb nb nt h C M o pc lv (.ref (ad g 10) :: st) := by
  rw [← hp_ad (g := g) (h := h) (n := 10) (by decide) (by decide)]
  exact V_getf (ci := 5) (kf := 23) (T := TX5) (N := 32) (Cn := RX5) (n := 10) hd (by rw [ho]; exact w_717) uin_5 rfl (by decide) (by omega) (ent_fix (by decide)) rfl k
theorem gf_X5_75 (ho : ko K = RX5) (hd : decode (kc K) pc = .ok (.getfield 75, 3)) (k : V g K R Qf kb nb nt h C M o (pc + 3) lv (.ref (ad g 31) :: st)) : V g K R Qf kb nb nt h C M o pc lv (.ref (ad g 10) :: st) := by
  rw [← hp_ad (g := g) (h := h) (n := 10) (by decide) (by decide)]
  exact V_getf (ci := 5) (kf := 24) (T := TX5) (N := 32) (Cn := RX5) (n := 10) hd (by rw [ho]; exact w_718) uin_5 rfl (by decide) (by omega) (ent_fix (by decide)) rfl k
theorem gf_X5_78 (ho : ko K = RX5) (hd : decode (kc K) pc = .ok (.getfield 78, 3)) (k : V g K R Qf kb nb nt h C M o (pc + 3) lv (.ref (ad g 32) :: st)) : V g K R Qf kb nb nt h C M o pc lv (.ref (ad g 10) :: st) := by
  rw [← hp_ad (g := g) (h := h) (n := 10) (by decide) (by decide)]
  exact V_getf (ci := 5) (kf := 25) (T := TX5) (N := 32) (Cn := RX5) (n := 10) hd (by rw [ho]; exact w_719) uin_5 rfl (by decide) (by omega) (ent_fix (by decide)) rfl k
theorem gf_X5_81 (ho : ko K = RX5) (hd : decode (kc K) pc = .ok (.getfield 81, 3)) (k : V g K R Qf kb nb nt h C M o (pc + 3) lv (.ref (ad g 33) :: st)) : V g K R Qf kb nb nt h C M o pc lv (.ref (ad g 10) :: st) := by
  rw [← hp_ad (g := g) (h := h) (n := 10) (by decide) (by decide)]
  exact V_getf (ci := 5) (kf := 27) (T := TX5) (N := 32) (Cn := RX5) (n := 10) hd (by rw [ho]; exact w_721) uin_5 rfl (by decide) (by omega) (ent_fix (by decide)) rfl k
theorem gf_X5_84 (ho : ko K = RX5) (hd : decode (kc K) pc = .ok (.getfield 84, 3)) (k : V g K R Qf kb nb nt h C M o (pc + 3) lv (.ref (ad g 34) :: st)) : V g K R Qf kb nb nt h C M o pc lv (.ref (ad g 10) :: st) := by
  rw [← hp_ad (g := g) (h := h) (n := 10) (by decide) (by decide)]
  exact V_getf (ci := 5) (kf := 28) (T := TX5) (N := 32) (Cn := RX5) (n := 10) hd (by rw [ho]; exact w_722) uin_5 rfl (by decide) (by omega) (ent_fix (by decide)) rfl k
theorem gf_X5_87 (ho : ko K = RX5) (hd : decode (kc K) pc = .ok (.getfield 87, 3)) (k : V g K R Qf kb nb nt h C M o (pc + 3) lv (.ref (ad g 35) :: st)) : V g K R Qf kb nb nt h C M o pc lv (.ref (ad g 10) :: st) := by
  rw [← hp_ad (g := g) (h := h) (n := 10) (by decide) (by decide)]
  exact V_getf (ci := 5) (kf := 29) (T := TX5) (N := 32) (Cn := RX5) (n := 10) hd (by rw [ho]; exact w_723) uin_5 rfl (by decide) (by omega) (ent_fix (by decide)) rfl k
theorem gf_X5_90 (ho : ko K = RX5) (hd : decode (kc K) pc = .ok (.getfield 90, 3)) (k : V g K R Qf kb nb nt h C M o (pc + 3) lv (.ref (ad g 36) :: st)) : V g K R Qf kb nb nt h C M o pc lv (.ref (ad g 10) :: st) := by
  rw [← hp_ad (g := g) (h := h) (n := 10) (by decide) (by decide)]
  exact V_getf (ci := 5) (kf := 30) (T := TX5) (N := 32) (Cn := RX5) (n := 10) hd (by rw [ho]; exact w_724) uin_5 rfl (by decide) (by omega) (ent_fix (by decide)) rfl k
theorem gf_X5_93 (ho : ko K = RX5) (hd : decode (kc K) pc = .ok (.getfield 93, 3)) (k : V g K R Qf kb nb nt h C M o (pc + 3) lv (.int (M 31 0) :: st)) : V g K R Qf kb nb nt h C M o pc lv (.ref (ad g 10) :: st) := by
  rw [← hp_ad (g := g) (h := h) (n := 10) (by decide) (by decide)]
  exact V_getf (ci := 5) (kf := 31) (T := TX5) (N := 32) (Cn := RX5) (n := 10) hd (by rw [ho]; exact w_725) uin_5 rfl (by decide) (by omega) (ent_fix (by decide)) rfl k
theorem pf_X5_93 {x : Int32} (ho : ko K = RX5) (hd : decode (kc K) pc = .ok (.putfield 93, 3)) (k : V g K R Qf kb nb nt h C (up M 31 0 x) o (pc + 3) lv st) : V g K R Qf kb nb nt h C M o pc lv (.int x :: .ref (ad g 10) :: st) := by
  rw [← hp_ad (g := g) (h := h) (n := 10) (by decide) (by decide)]
  exact V_putf (ci := 5) (kf := 31) (T := TX5) (N := 32) (Cn := RX5) (n := 10) (ty := .int) hd (by rw [ho]; exact w_725) uin_5 tyX5_ok nmX5 rfl (by decide) rfl (by decide +kernel) rfl rfl (Nat.le_of_ble_eq_true rfl) (by omega) (ent_fix (by decide)) (by rw [ent_fix (by decide)]; unfold fixE; simp [up]) (fun m q => eM_31 q) k
theorem gf_X5_100 (ho : ko K = RX5) (hd : decode (kc K) pc = .ok (.getfield 100, 3)) (k : V g K R Qf kb nb nt h C M o (pc + 3) lv (.int (M 0 0) :: st)) : V g K R Qf kb nb nt h C M o pc lv (.ref (ad g 10) :: st) := by
  rw [← hp_ad (g := g) (h := h) (n := 10) (by decide) (by decide)]
  exact V_getf (ci := 5) (kf := 0) (T := TX5) (N := 32) (Cn := RX5) (n := 10) hd (by rw [ho]; exact w_694) uin_5 rfl (by decide) (by omega) (ent_fix (by decide)) rfl k
theorem pf_X5_100 {x : Int32} (ho : ko K = RX5) (hd : decode (kc K) pc = .ok (.putfield 100, 3)) (k : V g K R Qf kb nb nt h C (up M 0 0 x) o (pc + 3) lv st) : V g K R Qf kb nb nt h C M o pc lv (.int x :: .ref (ad g 10) :: st) := by
  rw [← hp_ad (g := g) (h := h) (n := 10) (by decide) (by decide)]
  exact V_putf (ci := 5) (kf := 0) (T := TX5) (N := 32) (Cn := RX5) (n := 10) (ty := .int) hd (by rw [ho]; exact w_694) uin_5 tyX5_ok nmX5 rfl (by decide) rfl (by decide +kernel) rfl rfl (Nat.le_of_ble_eq_true rfl) (by omega) (ent_fix (by decide)) (by rw [ent_fix (by decide)]; unfold fixE; simp [up]) (fun m q => eM_0 q) k
theorem gf_X5_125 (ho : ko K = RX5) (hd : decode (kc K) pc = .ok (.getfield 125, 3)) (k : V g K R Qf kb nb nt h C M o (pc + 3) lv (.int (M 16 0) :: st)) : V g K R Qf kb nb nt h C M o pc lv (.ref (ad g 10) :: st) := by
  rw [← hp_ad (g := g) (h := h) (n := 10) (by decide) (by decide)]
  exact V_getf (ci := 5) (kf := 16) (T := TX5) (N := 32) (Cn := RX5) (n := 10) hd (by rw [ho]; exact w_710) uin_5 rfl (by decide) (by omega) (ent_fix (by decide)) rfl k
theorem pf_X5_125 {x : Int32} (ho : ko K = RX5) (hd : decode (kc K) pc = .ok (.putfield 125, 3)) (k : V g K R Qf kb nb nt h C (up M 16 0 x) o (pc + 3) lv st) : V g K R Qf kb nb nt h C M o pc lv (.int x :: .ref (ad g 10) :: st) := by
  rw [← hp_ad (g := g) (h := h) (n := 10) (by decide) (by decide)]
  exact V_putf (ci := 5) (kf := 16) (T := TX5) (N := 32) (Cn := RX5) (n := 10) (ty := .int) hd (by rw [ho]; exact w_710) uin_5 tyX5_ok nmX5 rfl (by decide) rfl (by decide +kernel) rfl rfl (Nat.le_of_ble_eq_true rfl) (by omega) (ent_fix (by decide)) (by rw [ent_fix (by decide)]; unfold fixE; simp [up]) (fun m q => eM_16 q) k
theorem gf_X5_132 (ho : ko K = RX5) (hd : decode (kc K) pc = .ok (.getfield 132, 3)) (k : V g K R Qf kb nb nt h C M o (pc + 3) lv (.int (M 26 0) :: st)) : V g K R Qf kb nb nt h C M o pc lv (.ref (ad g 10) :: st) := by
  rw [← hp_ad (g := g) (h := h) (n := 10) (by decide) (by decide)]
  exact V_getf (ci := 5) (kf := 26) (T := TX5) (N := 32) (Cn := RX5) (n := 10) hd (by rw [ho]; exact w_720) uin_5 rfl (by decide) (by omega) (ent_fix (by decide)) rfl k
theorem pf_X5_132 {x : Int32} (ho : ko K = RX5) (hd : decode (kc K) pc = .ok (.putfield 132, 3)) (k : V g K R Qf kb nb nt h C (up M 26 0 x) o (pc + 3) lv st) : V g K R Qf kb nb nt h C M o pc lv (.int x :: .ref (ad g 10) :: st) := by
  rw [← hp_ad (g := g) (h := h) (n := 10) (by decide) (by decide)]
  exact V_putf (ci := 5) (kf := 26) (T := TX5) (N := 32) (Cn := RX5) (n := 10) (ty := .int) hd (by rw [ho]; exact w_720) uin_5 tyX5_ok nmX5 rfl (by decide) rfl (by decide +kernel) rfl rfl (Nat.le_of_ble_eq_true rfl) (by omega) (ent_fix (by decide)) (by rw [ent_fix (by decide)]; unfold fixE; simp [up]) (fun m q => eM_26 q) k
theorem gf_X5_135 (ho : ko K = RX5) (hd : decode (kc K) pc = .ok (.getfield 135, 3)) (k : V g K R Qf kb nb nt h C M o (pc + 3) lv (.int (M 12 0) :: st)) : V g K R Qf kb nb nt h C M o pc lv (.ref (ad g 10) :: st) := by
  rw [← hp_ad (g := g) (h := h) (n := 10) (by decide) (by decide)]
  exact V_getf (ci := 5) (kf := 12) (T := TX5) (N := 32) (Cn := RX5) (n := 10) hd (by rw [ho]; exact w_706) uin_5 rfl (by decide) (by omega) (ent_fix (by decide)) rfl k
theorem pf_X5_135 {x : Int32} (ho : ko K = RX5) (hd : decode (kc K) pc = .ok (.putfield 135, 3)) (k : V g K R Qf kb nb nt h C (up M 12 0 x) o (pc + 3) lv st) : V g K R Qf kb nb nt h C M o pc lv (.int x :: .ref (ad g 10) :: st) := by
  rw [← hp_ad (g := g) (h := h) (n := 10) (by decide) (by decide)]
  exact V_putf (ci := 5) (kf := 12) (T := TX5) (N := 32) (Cn := RX5) (n := 10) (ty := .int) hd (by rw [ho]; exact w_706) uin_5 tyX5_ok nmX5 rfl (by decide) rfl (by decide +kernel) rfl rfl (Nat.le_of_ble_eq_true rfl) (by omega) (ent_fix (by decide)) (by rw [ent_fix (by decide)]; unfold fixE; simp [up]) (fun m q => eM_12 q) k
theorem iald_ch {i : Int32} {j : Nat} (hd : decode (kc K) pc = .ok (.iaload, 1)) (hi : inr i (cap C) j) (k : V g K R Qf kb nb nt h C M o (pc + 1) lv (.int (C 28 j) :: st)) : V g K R Qf kb nb nt h C M o pc lv (.int i :: .ref (h.1) :: st) := by
  rw [show h.1 = hp g h 5 from rfl]
  exact V_iald (t0 := 0) (n := 5) (nn := (cap C)) (f := C 28) hd (by omega) (ent_fix (by decide)) hi k
theorem iast_ch {i x : Int32} {j : Nat} (hd : decode (kc K) pc = .ok (.iastore, 1)) (hi : inr i (cap C) j) (k : V g K R Qf kb nb nt h (up C 28 j x) M o (pc + 1) lv st) : V g K R Qf kb nb nt h C M o pc lv (.int x :: .int i :: .ref (h.1) :: st) := by
  rw [show h.1 = hp g h 5 from rfl]
  exact V_iast (n := 5) (nn := (cap C)) (f := C 28) hd (by omega) (ent_fix (by decide)) hi (by rw [ent_fix (by decide)]; unfold fixE; simp only [up_self, cap, capv, up_row (S := C) (i := j) (x := x) (show 27 ≠ 28 by decide), up_row (S := C) (i := j) (x := x) (show 34 ≠ 28 by decide)]) (fun m q => eC_28 q) k
theorem iald_va {i : Int32} {j : Nat} (hd : decode (kc K) pc = .ok (.iaload, 1)) (hi : inr i (capv C) j) (k : V g K R Qf kb nb nt h C M o (pc + 1) lv (.int (C 29 j) :: st)) : V g K R Qf kb nb nt h C M o pc lv (.int i :: .ref (h.2) :: st) := by
  rw [show h.2 = hp g h 6 from rfl]
  exact V_iald (t0 := 0) (n := 6) (nn := (capv C)) (f := C 29) hd (by omega) (ent_fix (by decide)) hi k
theorem iast_va {i x : Int32} {j : Nat} (hd : decode (kc K) pc = .ok (.iastore, 1)) (hi : inr i (capv C) j) (k : V g K R Qf kb nb nt h (up C 29 j x) M o (pc + 1) lv st) : V g K R Qf kb nb nt h C M o pc lv (.int x :: .int i :: .ref (h.2) :: st) := by
  rw [show h.2 = hp g h 6 from rfl]
  exact V_iast (n := 6) (nn := (capv C)) (f := C 29) hd (by omega) (ent_fix (by decide)) hi (by rw [ent_fix (by decide)]; unfold fixE; simp only [up_self, cap, capv, up_row (S := C) (i := j) (x := x) (show 27 ≠ 29 by decide), up_row (S := C) (i := j) (x := x) (show 34 ≠ 29 by decide)]) (fun m q => eC_29 q) k
theorem iald_re {i : Int32} {j : Nat} (hd : decode (kc K) pc = .ok (.iaload, 1)) (hi : inr i 32 j) (k : V g K R Qf kb nb nt h C M o (pc + 1) lv (.int (C 32 j) :: st)) : V g K R Qf kb nb nt h C M o pc lv (.int i :: .ref (ad g 8) :: st) := by
  rw [← hp_ad (g := g) (h := h) (n := 8) (by decide) (by decide)]
  exact V_iald (t0 := 0) (n := 8) (nn := 32) (f := C 32) hd (by omega) (ent_fix (by decide)) hi k
theorem iast_re {i x : Int32} {j : Nat} (hd : decode (kc K) pc = .ok (.iastore, 1)) (hi : inr i 32 j) (k : V g K R Qf kb nb nt h (up C 32 j x) M o (pc + 1) lv st) : V g K R Qf kb nb nt h C M o pc lv (.int x :: .int i :: .ref (ad g 8) :: st) := by
  rw [← hp_ad (g := g) (h := h) (n := 8) (by decide) (by decide)]
  exact V_iast (n := 8) (nn := 32) (f := C 32) hd (by omega) (ent_fix (by decide)) hi (by rw [ent_fix (by decide)]; unfold fixE; simp only [up_self]) (fun m q => eC_32 q) k
theorem iald_M1 {i : Int32} {j : Nat} (hd : decode (kc K) pc = .ok (.iaload, 1)) (hi : inr i 4 j) (k : V g K R Qf kb nb nt h C M o (pc + 1) lv (.int (M 1 j) :: st)) : V g K R Qf kb nb nt h C M o pc lv (.int i :: .ref (ad g 11) :: st) := by
  rw [← hp_ad (g := g) (h := h) (n := 11) (by decide) (by decide)]
  exact V_iald (t0 := 0) (n := 11) (nn := 4) (f := M 1) hd (by omega) (ent_fix (by decide)) hi k
theorem iast_M1 {i x : Int32} {j : Nat} (hd : decode (kc K) pc = .ok (.iastore, 1)) (hi : inr i 4 j) (k : V g K R Qf kb nb nt h C (up M 1 j x) o (pc + 1) lv st) : V g K R Qf kb nb nt h C M o pc lv (.int x :: .int i :: .ref (ad g 11) :: st) := by
  rw [← hp_ad (g := g) (h := h) (n := 11) (by decide) (by decide)]
  exact V_iast (n := 11) (nn := 4) (f := M 1) hd (by omega) (ent_fix (by decide)) hi (by rw [ent_fix (by decide)]; unfold fixE; simp only [up_self]) (fun m q => eM_1 q) k
theorem iald_M2 {i : Int32} {j : Nat} (hd : decode (kc K) pc = .ok (.iaload, 1)) (hi : inr i 4 j) (k : V g K R Qf kb nb nt h C M o (pc + 1) lv (.int (M 2 j) :: st)) : V g K R Qf kb nb nt h C M o pc lv (.int i :: .ref (ad g 12) :: st) := by
  rw [← hp_ad (g := g) (h := h) (n := 12) (by decide) (by decide)]
  exact V_iald (t0 := 0) (n := 12) (nn := 4) (f := M 2) hd (by omega) (ent_fix (by decide)) hi k
theorem iast_M2 {i x : Int32} {j : Nat} (hd : decode (kc K) pc = .ok (.iastore, 1)) (hi : inr i 4 j) (k : V g K R Qf kb nb nt h C (up M 2 j x) o (pc + 1) lv st) : V g K R Qf kb nb nt h C M o pc lv (.int x :: .int i :: .ref (ad g 12) :: st) := by
  rw [← hp_ad (g := g) (h := h) (n := 12) (by decide) (by decide)]
  exact V_iast (n := 12) (nn := 4) (f := M 2) hd (by omega) (ent_fix (by decide)) hi (by rw [ent_fix (by decide)]; unfold fixE; simp only [up_self]) (fun m q => eM_2 q) k
theorem zald_M3 {i : Int32} {j : Nat} (hd : decode (kc K) pc = .ok (.baload, 1)) (hi : inr i 4 j) (k : V g K R Qf kb nb nt h C M o (pc + 1) lv (.int (M 3 j) :: st)) : V g K R Qf kb nb nt h C M o pc lv (.int i :: .ref (ad g 13) :: st) := by
  rw [← hp_ad (g := g) (h := h) (n := 13) (by decide) (by decide)]
  exact V_zald (n := 13) (nn := 4) (f := M 3) hd (by omega) (ent_fix (by decide)) hi k
theorem zast_M3 {i x : Int32} {j : Nat} (hd : decode (kc K) pc = .ok (.bastore, 1)) (hi : inr i 4 j) (hb : vp_nar .boolean x = x) (k : V g K R Qf kb nb nt h C (up M 3 j x) o (pc + 1) lv st) : V g K R Qf kb nb nt h C M o pc lv (.int x :: .int i :: .ref (ad g 13) :: st) := by
  rw [← hp_ad (g := g) (h := h) (n := 13) (by decide) (by decide)]
  exact V_zast (n := 13) (nn := 4) (f := M 3) hd (by omega) (ent_fix (by decide)) hi hb (by rw [ent_fix (by decide)]; unfold fixE; simp only [up_self]) (fun m q => eM_3 q) k
theorem iald_M5 {i : Int32} {j : Nat} (hd : decode (kc K) pc = .ok (.iaload, 1)) (hi : inr i 32 j) (k : V g K R Qf kb nb nt h C M o (pc + 1) lv (.int (M 5 j) :: st)) : V g K R Qf kb nb nt h C M o pc lv (.int i :: .ref (ad g 14) :: st) := by
  rw [← hp_ad (g := g) (h := h) (n := 14) (by decide) (by decide)]
  exact V_iald (t0 := 0) (n := 14) (nn := 32) (f := M 5) hd (by omega) (ent_fix (by decide)) hi k
theorem iast_M5 {i x : Int32} {j : Nat} (hd : decode (kc K) pc = .ok (.iastore, 1)) (hi : inr i 32 j) (k : V g K R Qf kb nb nt h C (up M 5 j x) o (pc + 1) lv st) : V g K R Qf kb nb nt h C M o pc lv (.int x :: .int i :: .ref (ad g 14) :: st) := by
  rw [← hp_ad (g := g) (h := h) (n := 14) (by decide) (by decide)]
  exact V_iast (n := 14) (nn := 32) (f := M 5) hd (by omega) (ent_fix (by decide)) hi (by rw [ent_fix (by decide)]; unfold fixE; simp only [up_self]) (fun m q => eM_5 q) k
theorem iald_M6 {i : Int32} {j : Nat} (hd : decode (kc K) pc = .ok (.iaload, 1)) (hi : inr i 32 j) (k : V g K R Qf kb nb nt h C M o (pc + 1) lv (.int (M 6 j) :: st)) : V g K R Qf kb nb nt h C M o pc lv (.int i :: .ref (ad g 15) :: st) := by
  rw [← hp_ad (g := g) (h := h) (n := 15) (by decide) (by decide)]
  exact V_iald (t0 := 0) (n := 15) (nn := 32) (f := M 6) hd (by omega) (ent_fix (by decide)) hi k
theorem iast_M6 {i x : Int32} {j : Nat} (hd : decode (kc K) pc = .ok (.iastore, 1)) (hi : inr i 32 j) (k : V g K R Qf kb nb nt h C (up M 6 j x) o (pc + 1) lv st) : V g K R Qf kb nb nt h C M o pc lv (.int x :: .int i :: .ref (ad g 15) :: st) := by
  rw [← hp_ad (g := g) (h := h) (n := 15) (by decide) (by decide)]
  exact V_iast (n := 15) (nn := 32) (f := M 6) hd (by omega) (ent_fix (by decide)) hi (by rw [ent_fix (by decide)]; unfold fixE; simp only [up_self]) (fun m q => eM_6 q) k
theorem iald_M7 {i : Int32} {j : Nat} (hd : decode (kc K) pc = .ok (.iaload, 1)) (hi : inr i 32 j) (k : V g K R Qf kb nb nt h C M o (pc + 1) lv (.int (M 7 j) :: st)) : V g K R Qf kb nb nt h C M o pc lv (.int i :: .ref (ad g 16) :: st) := by
  rw [← hp_ad (g := g) (h := h) (n := 16) (by decide) (by decide)]
  exact V_iald (t0 := 0) (n := 16) (nn := 32) (f := M 7) hd (by omega) (ent_fix (by decide)) hi k
theorem iast_M7 {i x : Int32} {j : Nat} (hd : decode (kc K) pc = .ok (.iastore, 1)) (hi : inr i 32 j) (k : V g K R Qf kb nb nt h C (up M 7 j x) o (pc + 1) lv st) : V g K R Qf kb nb nt h C M o pc lv (.int x :: .int i :: .ref (ad g 16) :: st) := by
  rw [← hp_ad (g := g) (h := h) (n := 16) (by decide) (by decide)]
  exact V_iast (n := 16) (nn := 32) (f := M 7) hd (by omega) (ent_fix (by decide)) hi (by rw [ent_fix (by decide)]; unfold fixE; simp only [up_self]) (fun m q => eM_7 q) k
theorem zald_M8 {i : Int32} {j : Nat} (hd : decode (kc K) pc = .ok (.baload, 1)) (hi : inr i 32 j) (k : V g K R Qf kb nb nt h C M o (pc + 1) lv (.int (M 8 j) :: st)) : V g K R Qf kb nb nt h C M o pc lv (.int i :: .ref (ad g 17) :: st) := by
  rw [← hp_ad (g := g) (h := h) (n := 17) (by decide) (by decide)]
  exact V_zald (n := 17) (nn := 32) (f := M 8) hd (by omega) (ent_fix (by decide)) hi k
theorem zast_M8 {i x : Int32} {j : Nat} (hd : decode (kc K) pc = .ok (.bastore, 1)) (hi : inr i 32 j) (hb : vp_nar .boolean x = x) (k : V g K R Qf kb nb nt h C (up M 8 j x) o (pc + 1) lv st) : V g K R Qf kb nb nt h C M o pc lv (.int x :: .int i :: .ref (ad g 17) :: st) := by
  rw [← hp_ad (g := g) (h := h) (n := 17) (by decide) (by decide)]
  exact V_zast (n := 17) (nn := 32) (f := M 8) hd (by omega) (ent_fix (by decide)) hi hb (by rw [ent_fix (by decide)]; unfold fixE; simp only [up_self]) (fun m q => eM_8 q) k
theorem iald_M9 {i : Int32} {j : Nat} (hd : decode (kc K) pc = .ok (.iaload, 1)) (hi : inr i 32 j) (k : V g K R Qf kb nb nt h C M o (pc + 1) lv (.int (M 9 j) :: st)) : V g K R Qf kb nb nt h C M o pc lv (.int i :: .ref (ad g 18) :: st) := by
  rw [← hp_ad (g := g) (h := h) (n := 18) (by decide) (by decide)]
  exact V_iald (t0 := 0) (n := 18) (nn := 32) (f := M 9) hd (by omega) (ent_fix (by decide)) hi k
theorem iast_M9 {i x : Int32} {j : Nat} (hd : decode (kc K) pc = .ok (.iastore, 1)) (hi : inr i 32 j) (k : V g K R Qf kb nb nt h C (up M 9 j x) o (pc + 1) lv st) : V g K R Qf kb nb nt h C M o pc lv (.int x :: .int i :: .ref (ad g 18) :: st) := by
  rw [← hp_ad (g := g) (h := h) (n := 18) (by decide) (by decide)]
  exact V_iast (n := 18) (nn := 32) (f := M 9) hd (by omega) (ent_fix (by decide)) hi (by rw [ent_fix (by decide)]; unfold fixE; simp only [up_self]) (fun m q => eM_9 q) k
theorem iald_M10 {i : Int32} {j : Nat} (hd : decode (kc K) pc = .ok (.iaload, 1)) (hi : inr i 32 j) (k : V g K R Qf kb nb nt h C M o (pc + 1) lv (.int (M 10 j) :: st)) : V g K R Qf kb nb nt h C M o pc lv (.int i :: .ref (ad g 19) :: st) := by
  rw [← hp_ad (g := g) (h := h) (n := 19) (by decide) (by decide)]
  exact V_iald (t0 := 0) (n := 19) (nn := 32) (f := M 10) hd (by omega) (ent_fix (by decide)) hi k
theorem iast_M10 {i x : Int32} {j : Nat} (hd : decode (kc K) pc = .ok (.iastore, 1)) (hi : inr i 32 j) (k : V g K R Qf kb nb nt h C (up M 10 j x) o (pc + 1) lv st) : V g K R Qf kb nb nt h C M o pc lv (.int x :: .int i :: .ref (ad g 19) :: st) := by
  rw [← hp_ad (g := g) (h := h) (n := 19) (by decide) (by decide)]
  exact V_iast (n := 19) (nn := 32) (f := M 10) hd (by omega) (ent_fix (by decide)) hi (by rw [ent_fix (by decide)]; unfold fixE; simp only [up_self]) (fun m q => eM_10 q) k
theorem iald_M11 {i : Int32} {j : Nat} (hd : decode (kc K) pc = .ok (.iaload, 1)) (hi : inr i 32 j) (k : V g K R Qf kb nb nt h C M o (pc + 1) lv (.int (M 11 j) :: st)) : V g K R Qf kb nb nt h C M o pc lv (.int i :: .ref (ad g 20) :: st) := by
  rw [← hp_ad (g := g) (h := h) (n := 20) (by decide) (by decide)]
  exact V_iald (t0 := 0) (n := 20) (nn := 32) (f := M 11) hd (by omega) (ent_fix (by decide)) hi k
theorem iast_M11 {i x : Int32} {j : Nat} (hd : decode (kc K) pc = .ok (.iastore, 1)) (hi : inr i 32 j) (k : V g K R Qf kb nb nt h C (up M 11 j x) o (pc + 1) lv st) : V g K R Qf kb nb nt h C M o pc lv (.int x :: .int i :: .ref (ad g 20) :: st) := by
  rw [← hp_ad (g := g) (h := h) (n := 20) (by decide) (by decide)]
  exact V_iast (n := 20) (nn := 32) (f := M 11) hd (by omega) (ent_fix (by decide)) hi (by rw [ent_fix (by decide)]; unfold fixE; simp only [up_self]) (fun m q => eM_11 q) k
theorem iald_M13 {i : Int32} {j : Nat} (hd : decode (kc K) pc = .ok (.iaload, 1)) (hi : inr i 1300 j) (k : V g K R Qf kb nb nt h C M o (pc + 1) lv (.int (M 13 j) :: st)) : V g K R Qf kb nb nt h C M o pc lv (.int i :: .ref (ad g 21) :: st) := by
  rw [← hp_ad (g := g) (h := h) (n := 21) (by decide) (by decide)]
  exact V_iald (t0 := 0) (n := 21) (nn := 1300) (f := M 13) hd (by omega) (ent_fix (by decide)) hi k
theorem iast_M13 {i x : Int32} {j : Nat} (hd : decode (kc K) pc = .ok (.iastore, 1)) (hi : inr i 1300 j) (k : V g K R Qf kb nb nt h C (up M 13 j x) o (pc + 1) lv st) : V g K R Qf kb nb nt h C M o pc lv (.int x :: .int i :: .ref (ad g 21) :: st) := by
  rw [← hp_ad (g := g) (h := h) (n := 21) (by decide) (by decide)]
  exact V_iast (n := 21) (nn := 1300) (f := M 13) hd (by omega) (ent_fix (by decide)) hi (by rw [ent_fix (by decide)]; unfold fixE; simp only [up_self]) (fun m q => eM_13 q) k
theorem iald_M14 {i : Int32} {j : Nat} (hd : decode (kc K) pc = .ok (.iaload, 1)) (hi : inr i 1300 j) (k : V g K R Qf kb nb nt h C M o (pc + 1) lv (.int (M 14 j) :: st)) : V g K R Qf kb nb nt h C M o pc lv (.int i :: .ref (ad g 22) :: st) := by
  rw [← hp_ad (g := g) (h := h) (n := 22) (by decide) (by decide)]
  exact V_iald (t0 := 0) (n := 22) (nn := 1300) (f := M 14) hd (by omega) (ent_fix (by decide)) hi k
theorem iast_M14 {i x : Int32} {j : Nat} (hd : decode (kc K) pc = .ok (.iastore, 1)) (hi : inr i 1300 j) (k : V g K R Qf kb nb nt h C (up M 14 j x) o (pc + 1) lv st) : V g K R Qf kb nb nt h C M o pc lv (.int x :: .int i :: .ref (ad g 22) :: st) := by
  rw [← hp_ad (g := g) (h := h) (n := 22) (by decide) (by decide)]
  exact V_iast (n := 22) (nn := 1300) (f := M 14) hd (by omega) (ent_fix (by decide)) hi (by rw [ent_fix (by decide)]; unfold fixE; simp only [up_self]) (fun m q => eM_14 q) k
theorem iald_M15 {i : Int32} {j : Nat} (hd : decode (kc K) pc = .ok (.iaload, 1)) (hi : inr i 1300 j) (k : V g K R Qf kb nb nt h C M o (pc + 1) lv (.int (M 15 j) :: st)) : V g K R Qf kb nb nt h C M o pc lv (.int i :: .ref (ad g 23) :: st) := by
  rw [← hp_ad (g := g) (h := h) (n := 23) (by decide) (by decide)]
  exact V_iald (t0 := 0) (n := 23) (nn := 1300) (f := M 15) hd (by omega) (ent_fix (by decide)) hi k
theorem iast_M15 {i x : Int32} {j : Nat} (hd : decode (kc K) pc = .ok (.iastore, 1)) (hi : inr i 1300 j) (k : V g K R Qf kb nb nt h C (up M 15 j x) o (pc + 1) lv st) : V g K R Qf kb nb nt h C M o pc lv (.int x :: .int i :: .ref (ad g 23) :: st) := by
  rw [← hp_ad (g := g) (h := h) (n := 23) (by decide) (by decide)]
  exact V_iast (n := 23) (nn := 1300) (f := M 15) hd (by omega) (ent_fix (by decide)) hi (by rw [ent_fix (by decide)]; unfold fixE; simp only [up_self]) (fun m q => eM_15 q) k
theorem iald_M17 {i : Int32} {j : Nat} (hd : decode (kc K) pc = .ok (.iaload, 1)) (hi : inr i 40 j) (k : V g K R Qf kb nb nt h C M o (pc + 1) lv (.int (M 17 j) :: st)) : V g K R Qf kb nb nt h C M o pc lv (.int i :: .ref (ad g 24) :: st) := by
  rw [← hp_ad (g := g) (h := h) (n := 24) (by decide) (by decide)]
  exact V_iald (t0 := 0) (n := 24) (nn := 40) (f := M 17) hd (by omega) (ent_fix (by decide)) hi k
theorem iast_M17 {i x : Int32} {j : Nat} (hd : decode (kc K) pc = .ok (.iastore, 1)) (hi : inr i 40 j) (k : V g K R Qf kb nb nt h C (up M 17 j x) o (pc + 1) lv st) : V g K R Qf kb nb nt h C M o pc lv (.int x :: .int i :: .ref (ad g 24) :: st) := by
  rw [← hp_ad (g := g) (h := h) (n := 24) (by decide) (by decide)]
  exact V_iast (n := 24) (nn := 40) (f := M 17) hd (by omega) (ent_fix (by decide)) hi (by rw [ent_fix (by decide)]; unfold fixE; simp only [up_self]) (fun m q => eM_17 q) k
theorem iald_M18 {i : Int32} {j : Nat} (hd : decode (kc K) pc = .ok (.iaload, 1)) (hi : inr i 40 j) (k : V g K R Qf kb nb nt h C M o (pc + 1) lv (.int (M 18 j) :: st)) : V g K R Qf kb nb nt h C M o pc lv (.int i :: .ref (ad g 25) :: st) := by
  rw [← hp_ad (g := g) (h := h) (n := 25) (by decide) (by decide)]
  exact V_iald (t0 := 0) (n := 25) (nn := 40) (f := M 18) hd (by omega) (ent_fix (by decide)) hi k
theorem iast_M18 {i x : Int32} {j : Nat} (hd : decode (kc K) pc = .ok (.iastore, 1)) (hi : inr i 40 j) (k : V g K R Qf kb nb nt h C (up M 18 j x) o (pc + 1) lv st) : V g K R Qf kb nb nt h C M o pc lv (.int x :: .int i :: .ref (ad g 25) :: st) := by
  rw [← hp_ad (g := g) (h := h) (n := 25) (by decide) (by decide)]
  exact V_iast (n := 25) (nn := 40) (f := M 18) hd (by omega) (ent_fix (by decide)) hi (by rw [ent_fix (by decide)]; unfold fixE; simp only [up_self]) (fun m q => eM_18 q) k
theorem iald_M19 {i : Int32} {j : Nat} (hd : decode (kc K) pc = .ok (.iaload, 1)) (hi : inr i 40 j) (k : V g K R Qf kb nb nt h C M o (pc + 1) lv (.int (M 19 j) :: st)) : V g K R Qf kb nb nt h C M o pc lv (.int i :: .ref (ad g 26) :: st) := by
  rw [← hp_ad (g := g) (h := h) (n := 26) (by decide) (by decide)]
  exact V_iald (t0 := 0) (n := 26) (nn := 40) (f := M 19) hd (by omega) (ent_fix (by decide)) hi k
theorem iast_M19 {i x : Int32} {j : Nat} (hd : decode (kc K) pc = .ok (.iastore, 1)) (hi : inr i 40 j) (k : V g K R Qf kb nb nt h C (up M 19 j x) o (pc + 1) lv st) : V g K R Qf kb nb nt h C M o pc lv (.int x :: .int i :: .ref (ad g 26) :: st) := by
  rw [← hp_ad (g := g) (h := h) (n := 26) (by decide) (by decide)]
  exact V_iast (n := 26) (nn := 40) (f := M 19) hd (by omega) (ent_fix (by decide)) hi (by rw [ent_fix (by decide)]; unfold fixE; simp only [up_self]) (fun m q => eM_19 q) k
theorem iald_M20 {i : Int32} {j : Nat} (hd : decode (kc K) pc = .ok (.iaload, 1)) (hi : inr i 40 j) (k : V g K R Qf kb nb nt h C M o (pc + 1) lv (.int (M 20 j) :: st)) : V g K R Qf kb nb nt h C M o pc lv (.int i :: .ref (ad g 27) :: st) := by
  rw [← hp_ad (g := g) (h := h) (n := 27) (by decide) (by decide)]
  exact V_iald (t0 := 0) (n := 27) (nn := 40) (f := M 20) hd (by omega) (ent_fix (by decide)) hi k
theorem iast_M20 {i x : Int32} {j : Nat} (hd : decode (kc K) pc = .ok (.iastore, 1)) (hi : inr i 40 j) (k : V g K R Qf kb nb nt h C (up M 20 j x) o (pc + 1) lv st) : V g K R Qf kb nb nt h C M o pc lv (.int x :: .int i :: .ref (ad g 27) :: st) := by
  rw [← hp_ad (g := g) (h := h) (n := 27) (by decide) (by decide)]
  exact V_iast (n := 27) (nn := 40) (f := M 20) hd (by omega) (ent_fix (by decide)) hi (by rw [ent_fix (by decide)]; unfold fixE; simp only [up_self]) (fun m q => eM_20 q) k
theorem iald_M21 {i : Int32} {j : Nat} (hd : decode (kc K) pc = .ok (.iaload, 1)) (hi : inr i 40 j) (k : V g K R Qf kb nb nt h C M o (pc + 1) lv (.int (M 21 j) :: st)) : V g K R Qf kb nb nt h C M o pc lv (.int i :: .ref (ad g 28) :: st) := by
  rw [← hp_ad (g := g) (h := h) (n := 28) (by decide) (by decide)]
  exact V_iald (t0 := 0) (n := 28) (nn := 40) (f := M 21) hd (by omega) (ent_fix (by decide)) hi k
theorem iast_M21 {i x : Int32} {j : Nat} (hd : decode (kc K) pc = .ok (.iastore, 1)) (hi : inr i 40 j) (k : V g K R Qf kb nb nt h C (up M 21 j x) o (pc + 1) lv st) : V g K R Qf kb nb nt h C M o pc lv (.int x :: .int i :: .ref (ad g 28) :: st) := by
  rw [← hp_ad (g := g) (h := h) (n := 28) (by decide) (by decide)]
  exact V_iast (n := 28) (nn := 40) (f := M 21) hd (by omega) (ent_fix (by decide)) hi (by rw [ent_fix (by decide)]; unfold fixE; simp only [up_self]) (fun m q => eM_21 q) k
theorem iald_M22 {i : Int32} {j : Nat} (hd : decode (kc K) pc = .ok (.iaload, 1)) (hi : inr i 40 j) (k : V g K R Qf kb nb nt h C M o (pc + 1) lv (.int (M 22 j) :: st)) : V g K R Qf kb nb nt h C M o pc lv (.int i :: .ref (ad g 29) :: st) := by
  rw [← hp_ad (g := g) (h := h) (n := 29) (by decide) (by decide)]
  exact V_iald (t0 := 0) (n := 29) (nn := 40) (f := M 22) hd (by omega) (ent_fix (by decide)) hi k
theorem iast_M22 {i x : Int32} {j : Nat} (hd : decode (kc K) pc = .ok (.iastore, 1)) (hi : inr i 40 j) (k : V g K R Qf kb nb nt h C (up M 22 j x) o (pc + 1) lv st) : V g K R Qf kb nb nt h C M o pc lv (.int x :: .int i :: .ref (ad g 29) :: st) := by
  rw [← hp_ad (g := g) (h := h) (n := 29) (by decide) (by decide)]
  exact V_iast (n := 29) (nn := 40) (f := M 22) hd (by omega) (ent_fix (by decide)) hi (by rw [ent_fix (by decide)]; unfold fixE; simp only [up_self]) (fun m q => eM_22 q) k
theorem iald_M23 {i : Int32} {j : Nat} (hd : decode (kc K) pc = .ok (.iaload, 1)) (hi : inr i 40 j) (k : V g K R Qf kb nb nt h C M o (pc + 1) lv (.int (M 23 j) :: st)) : V g K R Qf kb nb nt h C M o pc lv (.int i :: .ref (ad g 30) :: st) := by
  rw [← hp_ad (g := g) (h := h) (n := 30) (by decide) (by decide)]
  exact V_iald (t0 := 0) (n := 30) (nn := 40) (f := M 23) hd (by omega) (ent_fix (by decide)) hi k
theorem iast_M23 {i x : Int32} {j : Nat} (hd : decode (kc K) pc = .ok (.iastore, 1)) (hi : inr i 40 j) (k : V g K R Qf kb nb nt h C (up M 23 j x) o (pc + 1) lv st) : V g K R Qf kb nb nt h C M o pc lv (.int x :: .int i :: .ref (ad g 30) :: st) := by
  rw [← hp_ad (g := g) (h := h) (n := 30) (by decide) (by decide)]
  exact V_iast (n := 30) (nn := 40) (f := M 23) hd (by omega) (ent_fix (by decide)) hi (by rw [ent_fix (by decide)]; unfold fixE; simp only [up_self]) (fun m q => eM_23 q) k
theorem iald_M24 {i : Int32} {j : Nat} (hd : decode (kc K) pc = .ok (.iaload, 1)) (hi : inr i 40 j) (k : V g K R Qf kb nb nt h C M o (pc + 1) lv (.int (M 24 j) :: st)) : V g K R Qf kb nb nt h C M o pc lv (.int i :: .ref (ad g 31) :: st) := by
  rw [← hp_ad (g := g) (h := h) (n := 31) (by decide) (by decide)]
  exact V_iald (t0 := 0) (n := 31) (nn := 40) (f := M 24) hd (by omega) (ent_fix (by decide)) hi k
theorem iast_M24 {i x : Int32} {j : Nat} (hd : decode (kc K) pc = .ok (.iastore, 1)) (hi : inr i 40 j) (k : V g K R Qf kb nb nt h C (up M 24 j x) o (pc + 1) lv st) : V g K R Qf kb nb nt h C M o pc lv (.int x :: .int i :: .ref (ad g 31) :: st) := by
  rw [← hp_ad (g := g) (h := h) (n := 31) (by decide) (by decide)]
  exact V_iast (n := 31) (nn := 40) (f := M 24) hd (by omega) (ent_fix (by decide)) hi (by rw [ent_fix (by decide)]; unfold fixE; simp only [up_self]) (fun m q => eM_24 q) k
theorem iald_M25 {i : Int32} {j : Nat} (hd : decode (kc K) pc = .ok (.iaload, 1)) (hi : inr i 40 j) (k : V g K R Qf kb nb nt h C M o (pc + 1) lv (.int (M 25 j) :: st)) : V g K R Qf kb nb nt h C M o pc lv (.int i :: .ref (ad g 32) :: st) := by
  rw [← hp_ad (g := g) (h := h) (n := 32) (by decide) (by decide)]
  exact V_iald (t0 := 0) (n := 32) (nn := 40) (f := M 25) hd (by omega) (ent_fix (by decide)) hi k
theorem iast_M25 {i x : Int32} {j : Nat} (hd : decode (kc K) pc = .ok (.iastore, 1)) (hi : inr i 40 j) (k : V g K R Qf kb nb nt h C (up M 25 j x) o (pc + 1) lv st) : V g K R Qf kb nb nt h C M o pc lv (.int x :: .int i :: .ref (ad g 32) :: st) := by
  rw [← hp_ad (g := g) (h := h) (n := 32) (by decide) (by decide)]
  exact V_iast (n := 32) (nn := 40) (f := M 25) hd (by omega) (ent_fix (by decide)) hi (by rw [ent_fix (by decide)]; unfold fixE; simp only [up_self]) (fun m q => eM_25 q) k
theorem iald_M27 {i : Int32} {j : Nat} (hd : decode (kc K) pc = .ok (.iaload, 1)) (hi : inr i 160 j) (k : V g K R Qf kb nb nt h C M o (pc + 1) lv (.int (M 27 j) :: st)) : V g K R Qf kb nb nt h C M o pc lv (.int i :: .ref (ad g 33) :: st) := by
  rw [← hp_ad (g := g) (h := h) (n := 33) (by decide) (by decide)]
  exact V_iald (t0 := 0) (n := 33) (nn := 160) (f := M 27) hd (by omega) (ent_fix (by decide)) hi k
theorem iast_M27 {i x : Int32} {j : Nat} (hd : decode (kc K) pc = .ok (.iastore, 1)) (hi : inr i 160 j) (k : V g K R Qf kb nb nt h C (up M 27 j x) o (pc + 1) lv st) : V g K R Qf kb nb nt h C M o pc lv (.int x :: .int i :: .ref (ad g 33) :: st) := by
  rw [← hp_ad (g := g) (h := h) (n := 33) (by decide) (by decide)]
  exact V_iast (n := 33) (nn := 160) (f := M 27) hd (by omega) (ent_fix (by decide)) hi (by rw [ent_fix (by decide)]; unfold fixE; simp only [up_self]) (fun m q => eM_27 q) k
theorem iald_M28 {i : Int32} {j : Nat} (hd : decode (kc K) pc = .ok (.iaload, 1)) (hi : inr i 1280 j) (k : V g K R Qf kb nb nt h C M o (pc + 1) lv (.int (M 28 j) :: st)) : V g K R Qf kb nb nt h C M o pc lv (.int i :: .ref (ad g 34) :: st) := by
  rw [← hp_ad (g := g) (h := h) (n := 34) (by decide) (by decide)]
  exact V_iald (t0 := 0) (n := 34) (nn := 1280) (f := M 28) hd (by omega) (ent_fix (by decide)) hi k
theorem iast_M28 {i x : Int32} {j : Nat} (hd : decode (kc K) pc = .ok (.iastore, 1)) (hi : inr i 1280 j) (k : V g K R Qf kb nb nt h C (up M 28 j x) o (pc + 1) lv st) : V g K R Qf kb nb nt h C M o pc lv (.int x :: .int i :: .ref (ad g 34) :: st) := by
  rw [← hp_ad (g := g) (h := h) (n := 34) (by decide) (by decide)]
  exact V_iast (n := 34) (nn := 1280) (f := M 28) hd (by omega) (ent_fix (by decide)) hi (by rw [ent_fix (by decide)]; unfold fixE; simp only [up_self]) (fun m q => eM_28 q) k
theorem iald_M29 {i : Int32} {j : Nat} (hd : decode (kc K) pc = .ok (.iaload, 1)) (hi : inr i 1280 j) (k : V g K R Qf kb nb nt h C M o (pc + 1) lv (.int (M 29 j) :: st)) : V g K R Qf kb nb nt h C M o pc lv (.int i :: .ref (ad g 35) :: st) := by
  rw [← hp_ad (g := g) (h := h) (n := 35) (by decide) (by decide)]
  exact V_iald (t0 := 0) (n := 35) (nn := 1280) (f := M 29) hd (by omega) (ent_fix (by decide)) hi k
theorem iast_M29 {i x : Int32} {j : Nat} (hd : decode (kc K) pc = .ok (.iastore, 1)) (hi : inr i 1280 j) (k : V g K R Qf kb nb nt h C (up M 29 j x) o (pc + 1) lv st) : V g K R Qf kb nb nt h C M o pc lv (.int x :: .int i :: .ref (ad g 35) :: st) := by
  rw [← hp_ad (g := g) (h := h) (n := 35) (by decide) (by decide)]
  exact V_iast (n := 35) (nn := 1280) (f := M 29) hd (by omega) (ent_fix (by decide)) hi (by rw [ent_fix (by decide)]; unfold fixE; simp only [up_self]) (fun m q => eM_29 q) k
theorem iald_M30 {i : Int32} {j : Nat} (hd : decode (kc K) pc = .ok (.iaload, 1)) (hi : inr i 32 j) (k : V g K R Qf kb nb nt h C M o (pc + 1) lv (.int (M 30 j) :: st)) : V g K R Qf kb nb nt h C M o pc lv (.int i :: .ref (ad g 36) :: st) := by
  rw [← hp_ad (g := g) (h := h) (n := 36) (by decide) (by decide)]
  exact V_iald (t0 := 0) (n := 36) (nn := 32) (f := M 30) hd (by omega) (ent_fix (by decide)) hi k
theorem iast_M30 {i x : Int32} {j : Nat} (hd : decode (kc K) pc = .ok (.iastore, 1)) (hi : inr i 32 j) (k : V g K R Qf kb nb nt h C (up M 30 j x) o (pc + 1) lv st) : V g K R Qf kb nb nt h C M o pc lv (.int x :: .int i :: .ref (ad g 36) :: st) := by
  rw [← hp_ad (g := g) (h := h) (n := 36) (by decide) (by decide)]
  exact V_iast (n := 36) (nn := 32) (f := M 30) hd (by omega) (ent_fix (by decide)) hi (by rw [ent_fix (by decide)]; unfold fixE; simp only [up_self]) (fun m q => eM_30 q) k
theorem iald_t0 {t i : Int32} {j : Nat} (ht : tok nt t) (hd : decode (kc K) pc = .ok (.iaload, 1)) (hi : inr i 32 j) (k : V g K R Qf kb nb nt h C M o (pc + 1) lv (.int (C (50 + 3 * t.toNatClampNeg) j) :: st)) : V g K R Qf kb nb nt h C M o pc lv (.int i :: .ref (ad g (73 + 4 * t.toNatClampNeg + 1)) :: st) := by
  have h9 := ht.2
  rw [← hp_ad (g := g) (h := h) (n := 73 + 4 * t.toNatClampNeg + 1) (by omega) (by omega)]
  exact V_iald (t0 := 0) (n := 73 + 4 * t.toNatClampNeg + 1) (nn := 32) (f := C (50 + 3 * t.toNatClampNeg)) hd (by omega) (ent_tx (r := 1) (by omega)) hi k
theorem iast_t0 {t i x : Int32} {j : Nat} (ht : tok nt t) (hd : decode (kc K) pc = .ok (.iastore, 1)) (hi : inr i 32 j) (k : V g K R Qf kb nb nt h (up C (50 + 3 * t.toNatClampNeg) j x) M o (pc + 1) lv st) : V g K R Qf kb nb nt h C M o pc lv (.int x :: .int i :: .ref (ad g (73 + 4 * t.toNatClampNeg + 1)) :: st) := by
  have h9 := ht.2
  rw [← hp_ad (g := g) (h := h) (n := 73 + 4 * t.toNatClampNeg + 1) (by omega) (by omega)]
  exact V_iast (n := 73 + 4 * t.toNatClampNeg + 1) (nn := 32) (f := C (50 + 3 * t.toNatClampNeg)) hd (by omega) (ent_tx (r := 1) (by omega)) hi (by rw [ent_tx (r := 1) (by omega)]; unfold txE; simp [up_self]) (fun m q => eC_t0 q) k
theorem iald_t1 {t i : Int32} {j : Nat} (ht : tok nt t) (hd : decode (kc K) pc = .ok (.iaload, 1)) (hi : inr i 32 j) (k : V g K R Qf kb nb nt h C M o (pc + 1) lv (.int (C (51 + 3 * t.toNatClampNeg) j) :: st)) : V g K R Qf kb nb nt h C M o pc lv (.int i :: .ref (ad g (73 + 4 * t.toNatClampNeg + 2)) :: st) := by
  have h9 := ht.2
  rw [← hp_ad (g := g) (h := h) (n := 73 + 4 * t.toNatClampNeg + 2) (by omega) (by omega)]
  exact V_iald (t0 := 0) (n := 73 + 4 * t.toNatClampNeg + 2) (nn := 32) (f := C (51 + 3 * t.toNatClampNeg)) hd (by omega) (ent_tx (r := 2) (by omega)) hi k
theorem iast_t1 {t i x : Int32} {j : Nat} (ht : tok nt t) (hd : decode (kc K) pc = .ok (.iastore, 1)) (hi : inr i 32 j) (k : V g K R Qf kb nb nt h (up C (51 + 3 * t.toNatClampNeg) j x) M o (pc + 1) lv st) : V g K R Qf kb nb nt h C M o pc lv (.int x :: .int i :: .ref (ad g (73 + 4 * t.toNatClampNeg + 2)) :: st) := by
  have h9 := ht.2
  rw [← hp_ad (g := g) (h := h) (n := 73 + 4 * t.toNatClampNeg + 2) (by omega) (by omega)]
  exact V_iast (n := 73 + 4 * t.toNatClampNeg + 2) (nn := 32) (f := C (51 + 3 * t.toNatClampNeg)) hd (by omega) (ent_tx (r := 2) (by omega)) hi (by rw [ent_tx (r := 2) (by omega)]; unfold txE; simp [up_self]) (fun m q => eC_t1 q) k
theorem iald_t2 {t i : Int32} {j : Nat} (ht : tok nt t) (hd : decode (kc K) pc = .ok (.iaload, 1)) (hi : inr i 4 j) (k : V g K R Qf kb nb nt h C M o (pc + 1) lv (.int (C (52 + 3 * t.toNatClampNeg) j) :: st)) : V g K R Qf kb nb nt h C M o pc lv (.int i :: .ref (ad g (73 + 4 * t.toNatClampNeg + 3)) :: st) := by
  have h9 := ht.2
  rw [← hp_ad (g := g) (h := h) (n := 73 + 4 * t.toNatClampNeg + 3) (by omega) (by omega)]
  exact V_iald (t0 := 0) (n := 73 + 4 * t.toNatClampNeg + 3) (nn := 4) (f := C (52 + 3 * t.toNatClampNeg)) hd (by omega) (ent_tx (r := 3) (by omega)) hi k
theorem iast_t2 {t i x : Int32} {j : Nat} (ht : tok nt t) (hd : decode (kc K) pc = .ok (.iastore, 1)) (hi : inr i 4 j) (k : V g K R Qf kb nb nt h (up C (52 + 3 * t.toNatClampNeg) j x) M o (pc + 1) lv st) : V g K R Qf kb nb nt h C M o pc lv (.int x :: .int i :: .ref (ad g (73 + 4 * t.toNatClampNeg + 3)) :: st) := by
  have h9 := ht.2
  rw [← hp_ad (g := g) (h := h) (n := 73 + 4 * t.toNatClampNeg + 3) (by omega) (by omega)]
  exact V_iast (n := 73 + 4 * t.toNatClampNeg + 3) (nn := 4) (f := C (52 + 3 * t.toNatClampNeg)) hd (by omega) (ent_tx (r := 3) (by omega)) hi (by rw [ent_tx (r := 3) (by omega)]; unfold txE; simp [up_self]) (fun m q => eC_t2 q) k
theorem aald_nodes {i : Int32} {j : Nat} (hd : decode (kc K) pc = .ok (.aaload, 1)) (hi : inr i 4 j) (k : V g K R Qf kb nb nt h C M o (pc + 1) lv (.ref (ad g (37 + j)) :: st)) : V g K R Qf kb nb nt h C M o pc lv (.int i :: .ref (ad g 1) :: st) := by
  rw [← hp_ad (g := g) (h := h) (n := 1) (by decide) (by decide)]
  exact V_aald (n := 1) (nn := 4) (t0 := 3) (Cn := RX2) (f := fun k => some (ad g (37 + k))) hd (by omega) (ent_fix (by decide)) rfl hi k
theorem aald_cells {i : Int32} {j : Nat} (hd : decode (kc K) pc = .ok (.aaload, 1)) (hi : inr i 32 j) (k : V g K R Qf kb nb nt h C M o (pc + 1) lv (.ref (ad g (41 + j)) :: st)) : V g K R Qf kb nb nt h C M o pc lv (.int i :: .ref (ad g 2) :: st) := by
  rw [← hp_ad (g := g) (h := h) (n := 2) (by decide) (by decide)]
  exact V_aald (n := 2) (nn := 32) (t0 := 4) (Cn := RX0) (f := fun k => some (ad g (41 + k))) hd (by omega) (ent_fix (by decide)) rfl hi k
theorem aald_trs {i : Int32} {j : Nat} (hd : decode (kc K) pc = .ok (.aaload, 1)) (hi : inr i 40 j) (k : V g K R Qf kb nb nt h C M o (pc + 1) lv (va_rf (trO g (C 33 j)) :: st)) : V g K R Qf kb nb nt h C M o pc lv (.int i :: .ref (ad g 3) :: st) := by
  rw [← hp_ad (g := g) (h := h) (n := 3) (by decide) (by decide)]
  exact V_aald (n := 3) (nn := 40) (t0 := 5) (Cn := RX3) (f := fun k => trO g (C 33 k)) hd (by omega) (ent_fix (by decide)) rfl hi k
theorem aald_ord {i : Int32} {j : Nat} (hd : decode (kc K) pc = .ok (.aaload, 1)) (hi : inr i 40 j) (k : V g K R Qf kb nb nt h C M o (pc + 1) lv (va_rf (trO g (C 30 j)) :: st)) : V g K R Qf kb nb nt h C M o pc lv (.int i :: .ref (ad g 7) :: st) := by
  rw [← hp_ad (g := g) (h := h) (n := 7) (by decide) (by decide)]
  exact V_aald (n := 7) (nn := 40) (t0 := 5) (Cn := RX3) (f := fun k => trO g (C 30 k)) hd (by omega) (ent_fix (by decide)) rfl hi k
theorem nI_self {x : Int32} (h : ¬ x < 0) : nI x.toNatClampNeg = x := by
  obtain ⟨j, hj, rfl⟩ := nI_of h
  rw [nI_clamp hj]
theorem tok_ext {nt : Nat} {x y : Int32} (hx : tok nt x) (hy : tok nt y) (e : x.toNatClampNeg = y.toNatClampNeg) : x = y := by
  rw [← nI_self hx.1, ← nI_self hy.1, e]
theorem trO_none {g : GT} {x : Int32} : trO g x = none ↔ x < 0 := by
  unfold trO
  by_cases h : x < 0 <;> simp [h]
def trv (nt : Nat) (x : Int32) : Prop := x = -1 ∨ tok nt x
theorem trO_inj {g : GT} {nt : Nat} {h : Nat × Nat} {C M : St} {o : Int64} {H : Heap} (hR : Rep g nt h C M o H) {x y : Int32} (hx : trv nt x) (hy : trv nt y) : trO g x = trO g y ↔ x = y := by
  constructor
  · intro e
    rcases hx with hx | hx
    · subst hx
      rcases hy with hy | hy
      · exact hy.symm
      · rw [trO_none.mpr (by decide)] at e
        exact absurd (trO_none.mp e.symm) hy.1
    · rcases hy with hy | hy
      · subst hy
        rw [trO_none.mpr (show (-1 : Int32) < 0 by decide)] at e
        exact absurd (trO_none.mp e) hx.1
      · have h1 := hx.2
        have h2 := hy.2
        unfold trO at e
        rw [if_neg hx.1, if_neg hy.1] at e
        have e2 := Option.some.inj e
        have e3 := hR.2.1 _ _ _ _ (wld_at (show 73 + 4 * x.toNatClampNeg < 73 + 4 * nt by omega)) (wld_at (show 73 + 4 * y.toNatClampNeg < 73 + 4 * nt by omega)) (by show hp g h _ = hp g h _; rw [hp_ad (by omega) (by omega), hp_ad (by omega) (by omega)]; exact e2)
        exact tok_ext hx hy (by omega)
  · intro e
    rw [e]
theorem V_acmpt_eq {x y : Int32} {off : Int} {tgt : Nat} (hd : decode (kc K) pc = .ok (.if_acmp .eq off, 3)) (ht : (pc : Int) + off = (tgt : Int)) (hx : trv nt x) (hy : trv nt y) (k1 : x = y → V g K R Qf kb nb nt h C M o tgt lv st) (k2 : ¬ x = y → V g K R Qf kb nb nt h C M o (pc + 3) lv st) : V g K R Qf kb nb nt h C M o pc lv (va_rf (trO g y) :: va_rf (trO g x) :: st) := by
  intro p e s m args below meth c H locs k3 n1 ls X h1 h2 hR hS hl hc
  have q := trO_inj hR hx hy
  exact lv_acmp_eq X.1 X.2.1 hd ht (fun z => k1 (q.mp z) p e s m args below meth c H locs k3 n1 ls X h1 h2 hR hS hl hc) (fun z => k2 (fun w => z (q.mpr w)) p e s m args below meth c H locs k3 n1 ls X h1 h2 hR hS hl hc)
theorem V_acmpt_ne {x y : Int32} {off : Int} {tgt : Nat} (hd : decode (kc K) pc = .ok (.if_acmp .ne off, 3)) (ht : (pc : Int) + off = (tgt : Int)) (hx : trv nt x) (hy : trv nt y) (k1 : ¬ x = y → V g K R Qf kb nb nt h C M o tgt lv st) (k2 : x = y → V g K R Qf kb nb nt h C M o (pc + 3) lv st) : V g K R Qf kb nb nt h C M o pc lv (va_rf (trO g y) :: va_rf (trO g x) :: st) := by
  intro p e s m args below meth c H locs k3 n1 ls X h1 h2 hR hS hl hc
  have q := trO_inj hR hx hy
  exact lv_acmp_ne X.1 X.2.1 hd ht (fun z => k1 (fun w => z (q.mpr w)) p e s m args below meth c H locs k3 n1 ls X h1 h2 hR hS hl hc) (fun z => k2 (q.mp z) p e s m args below meth c H locs k3 n1 ls X h1 h2 hR hS hl hc)
theorem V_ifnullt {x : Int32} {off : Int} {tgt : Nat} (hd : decode (kc K) pc = .ok (.ifnull off, 3)) (ht : (pc : Int) + off = (tgt : Int)) (k1 : x < 0 → V g K R Qf kb nb nt h C M o tgt lv st) (k2 : ¬ x < 0 → V g K R Qf kb nb nt h C M o (pc + 3) lv st) : V g K R Qf kb nb nt h C M o pc lv (va_rf (trO g x) :: st) := V_ifnull hd ht (fun q => k1 (trO_none.mp q)) (fun q => k2 (fun w => q (trO_none.mpr w)))
theorem V_ifnonnullt {x : Int32} {off : Int} {tgt : Nat} (hd : decode (kc K) pc = .ok (.ifnonnull off, 3)) (ht : (pc : Int) + off = (tgt : Int)) (k1 : ¬ x < 0 → V g K R Qf kb nb nt h C M o tgt lv st) (k2 : x < 0 → V g K R Qf kb nb nt h C M o (pc + 3) lv st) : V g K R Qf kb nb nt h C M o pc lv (va_rf (trO g x) :: st) := V_ifnonnull hd ht (fun q => k1 (fun w => q (trO_none.mpr w))) (fun q => k2 (trO_none.mp q))
theorem aast_ord {i t : Int32} {j : Nat} (ht : tok nt t) (hd : decode (kc K) pc = .ok (.aastore, 1)) (hi : inr i 40 j) (k : V g K R Qf kb nb nt h (up C 30 j t) M o (pc + 1) lv st) : V g K R Qf kb nb nt h C M o pc lv (va_rf (trO g t) :: .int i :: .ref (ad g 7) :: st) := by
  intro p e s m args below meth c H locs k1 n1 ls X h1 h2 hR hS hl hc
  obtain ⟨x1, x2, x3, x4, x5, x6, x7, x8, x9⟩ := id X
  have ht2 := ht.2
  have hq : trO g t = some (hp g h (73 + 4 * t.toNatClampNeg)) := by
    unfold trO
    rw [if_neg ht.1, hp_ad (by omega) (by omega)]
  rw [tok_rf (h := h) ht, ← hp_ad (g := g) (h := h) (n := 7) (by decide) (by decide)]
  refine va_astq x1 x2 x9.1 hR.1 hR.2 hS 7 5 (73 + 4 * t.toNatClampNeg) 3 (r := (RX3, TX3, 15)) (f := fun k => trO g (C 30 k)) ((wld_at (by omega)).trans (by rw [ent_fix (by decide)]; rfl)) rfl ((wld_at (by omega)).trans (by rw [ent_txO]; rfl)) rfl hi.1 hd (fun H1 locs1 hP hD hS1 => ?_)
  have e1 : ent g h (up C 30 j t) M o 7 = rA g 5 40 (va_up (fun k => trO g (C 30 k)) i.toNatClampNeg (some (hp g h (73 + 4 * t.toNatClampNeg)))) := by
    have e0 : (fun k => trO g (up C 30 j t 30 k)) = va_up (fun k => trO g (C 30 k)) i.toNatClampNeg (some (hp g h (73 + 4 * t.toNatClampNeg))) := by
      funext q
      rw [hi.2]
      by_cases e : q = j
      · subst e
        simp [up, va_up, hq]
      · simp [up, va_up, e]
    rw [ent_fix (by decide)]
    show rA g 5 40 (fun k => trO g (up C 30 j t 30 k)) = _
    rw [e0]
  have e3 := wld_set (nt := nt) (C' := up C 30 j t) (M' := M) (o' := o) (show 7 < 73 + 4 * nt by omega) e1 (fun m q => eC_30 q)
  unfold rA at e3
  rw [e3] at hP hD
  exact k p e s m args below meth c H1 locs1 k1 n1 ls X h1 h2 ⟨hP, hD⟩ hS1 hl hc
theorem aast_trs {i t : Int32} {j : Nat} (ht : tok nt t) (hd : decode (kc K) pc = .ok (.aastore, 1)) (hi : inr i 40 j) (k : V g K R Qf kb nb nt h (up C 33 j t) M o (pc + 1) lv st) : V g K R Qf kb nb nt h C M o pc lv (va_rf (trO g t) :: .int i :: .ref (ad g 3) :: st) := by
  intro p e s m args below meth c H locs k1 n1 ls X h1 h2 hR hS hl hc
  obtain ⟨x1, x2, x3, x4, x5, x6, x7, x8, x9⟩ := id X
  have ht2 := ht.2
  have hq : trO g t = some (hp g h (73 + 4 * t.toNatClampNeg)) := by
    unfold trO
    rw [if_neg ht.1, hp_ad (by omega) (by omega)]
  rw [tok_rf (h := h) ht, ← hp_ad (g := g) (h := h) (n := 3) (by decide) (by decide)]
  refine va_astq x1 x2 x9.1 hR.1 hR.2 hS 3 5 (73 + 4 * t.toNatClampNeg) 3 (r := (RX3, TX3, 15)) (f := fun k => trO g (C 33 k)) ((wld_at (by omega)).trans (by rw [ent_fix (by decide)]; rfl)) rfl ((wld_at (by omega)).trans (by rw [ent_txO]; rfl)) rfl hi.1 hd (fun H1 locs1 hP hD hS1 => ?_)
  have e1 : ent g h (up C 33 j t) M o 3 = rA g 5 40 (va_up (fun k => trO g (C 33 k)) i.toNatClampNeg (some (hp g h (73 + 4 * t.toNatClampNeg)))) := by
    have e0 : (fun k => trO g (up C 33 j t 33 k)) = va_up (fun k => trO g (C 33 k)) i.toNatClampNeg (some (hp g h (73 + 4 * t.toNatClampNeg))) := by
      funext q
      rw [hi.2]
      by_cases e : q = j
      · subst e
        simp [up, va_up, hq]
      · simp [up, va_up, e]
    rw [ent_fix (by decide)]
    show rA g 5 40 (fun k => trO g (up C 33 j t 33 k)) = _
    rw [e0]
  have e3 := wld_set (nt := nt) (C' := up C 33 j t) (M' := M) (o' := o) (show 3 < 73 + 4 * nt by omega) e1 (fun m q => eC_33 q)
  unfold rA at e3
  rw [e3] at hP hD
  exact k p e s m args below meth c H1 locs1 k1 n1 ls X h1 h2 ⟨hP, hD⟩ hS1 hl hc
end HEAP
