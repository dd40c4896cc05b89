/-! Integer.bitCount is the number of the bits -/
def bw (f : Nat → Nat) : Nat → Nat → Nat
  | 0, _ => 0
  | k + 1, N => f (N % 256) + 256 * bw f k (N / 256)
def mk8 (m : Nat) : Nat → Nat
  | 0 => 0
  | k + 1 => m + 256 * mk8 m k
theorem and_byte (X Y : Nat) : X &&& Y = (X % 256 &&& Y % 256) + 256 * (X / 256 &&& Y / 256) := by
  have h1 := Nat.and_mod_two_pow (a := X) (b := Y) (n := 8)
  have h2 := Nat.and_div_two_pow (a := X) (b := Y) (n := 8)
  rw [show 2 ^ 8 = 256 from rfl] at h1 h2
  rw [← h1, ← h2]
  omega
theorem mk_step {m k : Nat} (hm : m < 256) : mk8 m (k + 1) % 256 = m ∧ mk8 m (k + 1) / 256 = mk8 m k := by
  show (m + 256 * mk8 m k) % 256 = m ∧ (m + 256 * mk8 m k) / 256 = mk8 m k
  omega
theorem bw_and {m : Nat} (hm : m < 256) (s : Nat → Nat) (h1 : ∀ N, (s N) % 256 &&& m = s (N % 256) &&& m) (h2 : ∀ N, s N / 256 = s (N / 256)) : ∀ (k N : Nat), s N &&& mk8 m k = bw (fun b => s b &&& m) k N
  | 0, N => by
    show s N &&& 0 = 0
    exact Nat.and_zero _
  | k + 1, N => by
    rw [and_byte, (mk_step hm).1, (mk_step hm).2, h1, h2, bw_and hm s h1 h2 k (N / 256)]
    rfl
theorem bw_add {f g : Nat → Nat} : ∀ (k N : Nat), bw f k N + bw g k N = bw (fun b => f b + g b) k N
  | 0, _ => rfl
  | k + 1, N => by
    have := bw_add (f := f) (g := g) k (N / 256)
    unfold bw
    omega
theorem bw_sub {f g : Nat → Nat} (h : ∀ b, b < 256 → g b ≤ f b) : ∀ (k N : Nat), bw g k N ≤ bw f k N ∧ bw f k N - bw g k N = bw (fun b => f b - g b) k N
  | 0, _ => ⟨Nat.le_refl 0, rfl⟩
  | k + 1, N => by
    obtain ⟨h1, h2⟩ := bw_sub h k (N / 256)
    have h3 := h (N % 256) (Nat.mod_lt _ (by decide))
    unfold bw
    constructor <;> omega
theorem bw_id : ∀ (k N : Nat), N < 256 ^ k → bw (fun b => b) k N = N
  | 0, N, h => by
    have : N = 0 := by simpa using h
    subst this
    rfl
  | k + 1, N, h => by
    have h2 : N / 256 < 256 ^ k := by
      rw [Nat.div_lt_iff_lt_mul (by decide)]
      rw [Nat.pow_succ] at h
      exact h
    have := bw_id k (N / 256) h2
    unfold bw
    rw [this]
    omega
theorem bw_comp {f g : Nat → Nat} (h : ∀ b, b < 256 → g b < 256) : ∀ (k N : Nat), bw f k (bw g k N) = bw (fun b => f (g b)) k N
  | 0, _ => rfl
  | k + 1, N => by
    have h3 := h (N % 256) (Nat.mod_lt _ (by decide))
    have e1 : bw g (k + 1) N % 256 = g (N % 256) := by
      show (g (N % 256) + 256 * bw g k (N / 256)) % 256 = _
      omega
    have e2 : bw g (k + 1) N / 256 = bw g k (N / 256) := by
      show (g (N % 256) + 256 * bw g k (N / 256)) / 256 = _
      omega
    show f (bw g (k + 1) N % 256) + 256 * bw f k (bw g (k + 1) N / 256) = _
    rw [e1, e2, bw_comp h k (N / 256)]
    rfl
def h1b (b : Nat) : Nat := b - (b / 2 &&& 85)
def h2b (b : Nat) : Nat := (b &&& 51) + (b / 4 &&& 51)
def pc8 (b : Nat) : Nat := b % 2 + b / 2 % 2 + b / 4 % 2 + b / 8 % 2 + b / 16 % 2 + b / 32 % 2 + b / 64 % 2 + b / 128 % 2
theorem pc8_ok : ∀ b, b < 256 → h2b (h1b b) / 16 ≤ 4 ∧ h2b (h1b b) % 16 ≤ 4 ∧ h2b (h1b b) / 16 + h2b (h1b b) % 16 = pc8 b := by decide +kernel
theorem and85 : ∀ y, y < 256 → y &&& 85 = y % 128 &&& 85 := by decide +kernel
theorem and51 : ∀ y, y < 256 → y &&& 51 = y % 64 &&& 51 := by decide +kernel
theorem and15 : ∀ y, y < 256 → y &&& 15 = y % 16 := by decide +kernel
theorem le85 : ∀ b, b < 256 → (b / 2 &&& 85) ≤ b := by decide +kernel
theorem h1_lt : ∀ b, b < 256 → h1b b < 256 := by decide +kernel
theorem st1 {N : Nat} (h : N < 2 ^ 32) : (N / 2 &&& 1431655765) ≤ N ∧ N - (N / 2 &&& 1431655765) = bw h1b 4 N := by
  have e : (N / 2 &&& 1431655765) = bw (fun b => b / 2 &&& 85) 4 N := by
    rw [show 1431655765 = mk8 85 4 from rfl]
    refine bw_and (by decide) (fun n => n / 2) (fun N => ?_) (fun N => ?_) 4 N
    · show N / 2 % 256 &&& 85 = N % 256 / 2 &&& 85
      rw [and85 _ (Nat.mod_lt _ (by decide)), show N / 2 % 256 % 128 = N % 256 / 2 by omega]
    · show N / 2 / 256 = N / 256 / 2
      omega
  have hi := bw_id 4 N (by simpa using h)
  obtain ⟨h1, h2⟩ := bw_sub (f := fun b => b) (g := fun b => b / 2 &&& 85) le85 4 N
  rw [hi] at h1 h2
  rw [e]
  exact ⟨h1, h2⟩
theorem st2 {N : Nat} : (N &&& 858993459) + (N / 4 &&& 858993459) = bw h2b 4 N := by
  have e0 : (N &&& 858993459) = bw (fun b => b &&& 51) 4 N := by
    rw [show 858993459 = mk8 51 4 from rfl]
    exact bw_and (by decide) (fun n => n) (fun N => rfl) (fun N => rfl) 4 N
  have e : (N / 4 &&& 858993459) = bw (fun b => b / 4 &&& 51) 4 N := by
    rw [show 858993459 = mk8 51 4 from rfl]
    refine bw_and (by decide) (fun n => n / 4) (fun N => ?_) (fun N => ?_) 4 N
    · show N / 4 % 256 &&& 51 = N % 256 / 4 &&& 51
      rw [and51 _ (Nat.mod_lt _ (by decide)), show N / 4 % 256 % 64 = N % 256 / 4 by omega]
    · show N / 4 / 256 = N / 256 / 4
      omega
  rw [e0, e, bw_add]
  rfl
theorem st3 {Y : Nat} : (Y &&& 252645135) = Y % 16 + 256 * (Y / 256 % 16 + 256 * (Y / 65536 % 16 + 256 * (Y / 16777216 % 16))) := by
  rw [show 252645135 = mk8 15 4 from rfl]
  have := bw_and (m := 15) (by decide) (fun n => n) (fun N => rfl) (fun N => rfl) 4 Y
  have this2 : Y &&& mk8 15 4 = bw (fun b => b &&& 15) 4 Y := this
  rw [this2]
  show (Y % 256 &&& 15) + 256 * ((Y / 256 % 256 &&& 15) + 256 * ((Y / 256 / 256 % 256 &&& 15) + 256 * ((Y / 256 / 256 / 256 % 256 &&& 15) + 256 * 0))) = _
  rw [and15 _ (Nat.mod_lt _ (by decide)), and15 _ (Nat.mod_lt _ (by decide)), and15 _ (Nat.mod_lt _ (by decide)), and15 _ (Nat.mod_lt _ (by decide))]
  omega
theorem bytes4 {f : Nat → Nat} {N : Nat} : bw f 4 N = f (N % 256) + 256 * f (N / 256 % 256) + 65536 * f (N / 65536 % 256) + 16777216 * f (N / 16777216 % 256) := by
  show f (N % 256) + 256 * (f (N / 256 % 256) + 256 * (f (N / 256 / 256 % 256) + 256 * (f (N / 256 / 256 / 256 % 256) + 256 * 0))) = _
  rw [show N / 256 / 256 = N / 65536 by omega, show N / 65536 / 256 = N / 16777216 by omega]
  omega
/-- the whole of it, in numbers -/
theorem pop_nat {N x1 x2 y x3 x4 x5 : Nat} (h : N < 2 ^ 32) (h1 : x1 = N - (N / 2 &&& 1431655765)) (h2 : x2 = (x1 &&& 858993459) + (x1 / 4 &&& 858993459)) (hy : y = x2 + x2 / 16) (h3 : x3 = y &&& 252645135) (h4 : x4 = x3 + x3 / 256) (h5 : x5 = x4 + x4 / 65536) : x2 < 2 ^ 31 ∧ y < 2 ^ 32 ∧ x4 < 2 ^ 32 ∧ x5 < 2 ^ 32 ∧ x5 % 64 = pc8 (N % 256) + pc8 (N / 256 % 256) + pc8 (N / 65536 % 256) + pc8 (N / 16777216 % 256) := by
  have e2 : x2 = bw (fun b => h2b (h1b b)) 4 N := by
    rw [h2, h1, (st1 h).2, st2, bw_comp h1_lt]
  rw [bytes4] at e2
  obtain ⟨a1, a2, a3⟩ := pc8_ok (N % 256) (Nat.mod_lt _ (by decide))
  obtain ⟨b1, b2, b3⟩ := pc8_ok (N / 256 % 256) (Nat.mod_lt _ (by decide))
  obtain ⟨c1, c2, c3⟩ := pc8_ok (N / 65536 % 256) (Nat.mod_lt _ (by decide))
  obtain ⟨d1, d2, d3⟩ := pc8_ok (N / 16777216 % 256) (Nat.mod_lt _ (by decide))
  rw [← a3, ← b3, ← c3, ← d3]
  generalize h2b (h1b (N % 256)) = A at *
  generalize h2b (h1b (N / 256 % 256)) = Bx at *
  generalize h2b (h1b (N / 65536 % 256)) = Cx at *
  generalize h2b (h1b (N / 16777216 % 256)) = Dx at *
  clear a3 b3 c3 d3 h1 h2 h
  rw [st3] at h3
  obtain ⟨au, av, rfl, hau, hav⟩ : ∃ u v, A = 16 * u + v ∧ u ≤ 4 ∧ v ≤ 4 := ⟨A / 16, A % 16, by omega, a1, a2⟩
  obtain ⟨bu, bv, rfl, hbu, hbv⟩ : ∃ u v, Bx = 16 * u + v ∧ u ≤ 4 ∧ v ≤ 4 := ⟨Bx / 16, Bx % 16, by omega, b1, b2⟩
  obtain ⟨cu, cv, rfl, hcu, hcv⟩ : ∃ u v, Cx = 16 * u + v ∧ u ≤ 4 ∧ v ≤ 4 := ⟨Cx / 16, Cx % 16, by omega, c1, c2⟩
  obtain ⟨du, dv, rfl, hdu, hdv⟩ : ∃ u v, Dx = 16 * u + v ∧ u ≤ 4 ∧ v ≤ 4 := ⟨Dx / 16, Dx % 16, by omega, d1, d2⟩
  have hx3 : x3 = (au + av) + 256 * (bu + bv) + 65536 * (cu + cv) + 16777216 * (du + dv) := by
    have hy2 : y = (17 * au + av + 16 * bv) + 256 * (17 * bu + bv + 16 * cv) + 65536 * (17 * cu + cv + 16 * dv) + 16777216 * (17 * du + dv) := by
      clear h3 h4 h5
      omega
    clear h4 h5 hy e2
    rw [h3]
    have z0 : y % 16 = au + av := by
      obtain ⟨q, hq⟩ : ∃ q, q = (au + bv) + 16 * (17 * bu + bv + 16 * cv) + 4096 * (17 * cu + cv + 16 * dv) + 1048576 * (17 * du + dv) := ⟨_, rfl⟩
      have : y = (au + av) + 16 * q := by omega
      clear hy2 hq h3
      omega
    have z1 : y / 256 % 16 = bu + bv := by
      obtain ⟨q, hq⟩ : ∃ q, q = (bu + cv) + 16 * (17 * cu + cv + 16 * dv) + 4096 * (17 * du + dv) := ⟨_, rfl⟩
      obtain ⟨w, hw, hw2⟩ : ∃ w, w = 17 * au + av + 16 * bv ∧ w < 256 := ⟨_, rfl, by omega⟩
      have : y = w + 256 * ((bu + bv) + 16 * q) := by omega
      clear hy2 hq h3 hw
      have e : y / 256 = (bu + bv) + 16 * q := by omega
      rw [e]
      omega
    have z2 : y / 65536 % 16 = cu + cv := by
      obtain ⟨q, hq⟩ : ∃ q, q = (cu + dv) + 16 * (17 * du + dv) := ⟨_, rfl⟩
      obtain ⟨w, hw, hw2⟩ : ∃ w, w = (17 * au + av + 16 * bv) + 256 * (17 * bu + bv + 16 * cv) ∧ w < 65536 := ⟨_, rfl, by omega⟩
      have : y = w + 65536 * ((cu + cv) + 16 * q) := by omega
      clear hy2 hq h3 hw
      have e : y / 65536 = (cu + cv) + 16 * q := by omega
      rw [e]
      omega
    have z3 : y / 16777216 % 16 = du + dv := by
      obtain ⟨w, hw, hw2⟩ : ∃ w, w = (17 * au + av + 16 * bv) + 256 * (17 * bu + bv + 16 * cv) + 65536 * (17 * cu + cv + 16 * dv) ∧ w < 16777216 := ⟨_, rfl, by omega⟩
      have : y = w + 16777216 * ((du + dv) + 16 * du) := by omega
      clear hy2 h3 hw
      have e : y / 16777216 = (du + dv) + 16 * du := by omega
      rw [e]
      omega
    rw [z0, z1, z2, z3]
    clear h3 hy2
    omega
  clear h3
  obtain ⟨s0, hs0⟩ : ∃ s, s = au + av := ⟨_, rfl⟩
  obtain ⟨s1, hs1⟩ : ∃ s, s = bu + bv := ⟨_, rfl⟩
  obtain ⟨s2, hs2⟩ : ∃ s, s = cu + cv := ⟨_, rfl⟩
  obtain ⟨s3, hs3⟩ : ∃ s, s = du + dv := ⟨_, rfl⟩
  have l0 : s0 ≤ 8 := by omega
  have l1 : s1 ≤ 8 := by omega
  have l2 : s2 ≤ 8 := by omega
  have l3 : s3 ≤ 8 := by omega
  have g1 : x2 < 2 ^ 31 := by clear hx3 h4 h5 hy; omega
  have g2 : y < 2 ^ 32 := by clear hx3 h4 h5 e2; omega
  have hx3' : x3 = s0 + 256 * s1 + 65536 * s2 + 16777216 * s3 := by clear h4 h5 hy e2 g1 g2; omega
  have hans : (16 * au + av) / 16 + (16 * au + av) % 16 + ((16 * bu + bv) / 16 + (16 * bu + bv) % 16) + ((16 * cu + cv) / 16 + (16 * cu + cv) % 16) + ((16 * du + dv) / 16 + (16 * du + dv) % 16) = s0 + s1 + s2 + s3 := by clear hx3 h4 h5 hy e2 g1 g2 hx3'; omega
  rw [hans]
  clear hans hx3 hy e2 hs0 hs1 hs2 hs3 hau hav hbu hbv hcu hcv hdu hdv a1 a2 b1 b2 c1 c2 d1 d2
  have hx4 : x4 = (s0 + s1) + 256 * (s1 + s2) + 65536 * (s2 + s3) + 16777216 * s3 := by clear h5 g1 g2; omega
  clear h4 hx3'
  have hx5 : x5 = (s0 + s1 + s2 + s3) + 256 * (s1 + s2 + s3) + 65536 * (s2 + s3) + 16777216 * s3 := by clear g1 g2; omega
  clear h5
  exact ⟨g1, g2, by omega, by omega, by omega⟩
def bcN (N : Nat) : Nat → Nat → Nat
  | 0, _ => 0
  | n + 1, i => N / 2 ^ i % 2 + bcN N n (i + 1)
theorem bcN_add {N : Nat} : ∀ {a b i : Nat}, bcN N (a + b) i = bcN N a i + bcN N b (i + a)
  | 0, b, i => by
    rw [Nat.zero_add]
    show _ = 0 + _
    rw [Nat.zero_add, Nat.add_zero]
  | a + 1, b, i => by
    rw [show a + 1 + b = (a + b) + 1 by omega]
    show N / 2 ^ i % 2 + bcN N (a + b) (i + 1) = N / 2 ^ i % 2 + bcN N a (i + 1) + _
    rw [bcN_add, show i + 1 + a = i + (a + 1) by omega]
    omega
theorem bcN_8 {N i : Nat} : bcN N 8 i = pc8 (N / 2 ^ i % 256) := by
  have e (j : Nat) : N / 2 ^ (i + j) = N / 2 ^ i / 2 ^ j := by rw [Nat.pow_add, Nat.div_div_eq_div_mul]
  show N / 2 ^ i % 2 + (N / 2 ^ (i + 1) % 2 + (N / 2 ^ (i + 2) % 2 + (N / 2 ^ (i + 3) % 2 + (N / 2 ^ (i + 4) % 2 + (N / 2 ^ (i + 5) % 2 + (N / 2 ^ (i + 6) % 2 + (N / 2 ^ (i + 7) % 2 + 0))))))) = _
  rw [e 1, e 2, e 3, e 4, e 5, e 6, e 7]
  generalize N / 2 ^ i = Y
  unfold pc8
  omega
theorem bcn_N {x : Int32} : ∀ {n i : Nat}, bcn x n i = bcN x.toBitVec.toNat n i
  | 0, _ => rfl
  | n + 1, i => by
    unfold bcn bcN
    rw [bcn_N]
    congr 1
    have : bt x i = decide (x.toBitVec.toNat / 2 ^ i % 2 = 1) := Nat.testBit_eq_decide_div_mod_eq
    rw [this]
    by_cases q : x.toBitVec.toNat / 2 ^ i % 2 = 1
    · rw [decide_eq_true q, if_pos rfl, q]
    · rw [decide_eq_false q, if_neg (by decide)]
      omega
theorem us_n (x s : Int32) (k : Nat) (hs : ((s.toUInt32 &&& Int32.toUInt32 31).toBitVec % 32).toNat = k) : (us x s).toBitVec.toNat = x.toBitVec.toNat / 2 ^ k := pk_ushr x s k hs
theorem an_n (x y : Int32) : (x &&& y).toBitVec.toNat = x.toBitVec.toNat &&& y.toBitVec.toNat := by rw [Int32.toBitVec_and, BitVec.toNat_and]
theorem ad_n (x y : Int32) : (x + y).toBitVec.toNat = (x.toBitVec.toNat + y.toBitVec.toNat) % 2 ^ 32 := by rw [Int32.toBitVec_add, BitVec.toNat_add]
theorem sb_n (x y : Int32) (h : y.toBitVec.toNat ≤ x.toBitVec.toNat) : (x - y).toBitVec.toNat = x.toBitVec.toNat - y.toBitVec.toNat := by
  rw [Int32.toBitVec_sub, BitVec.toNat_sub]
  have := x.toBitVec.isLt
  omega
theorem bcS_ok (x : Int32) : bcS x = nI (bcn x 32 0) := by
  have hN := x.toBitVec.isLt
  have hb : bcn x 32 0 = pc8 (x.toBitVec.toNat % 256) + pc8 (x.toBitVec.toNat / 256 % 256) + pc8 (x.toBitVec.toNat / 65536 % 256) + pc8 (x.toBitVec.toNat / 16777216 % 256) := by
    have key : ∀ N, bcN N 32 0 = bcN N (8 + (8 + (8 + 8))) 0 := fun _ => rfl
    rw [bcn_N, key, bcN_add, bcN_add, bcN_add, bcN_8, bcN_8, bcN_8, bcN_8]
    rw [show x.toBitVec.toNat / 2 ^ 0 = x.toBitVec.toNat by simp, show 2 ^ (0 + 8) = 256 from rfl, show 2 ^ (0 + 8 + 8) = 65536 from rfl, show 2 ^ (0 + 8 + 8 + 8) = 16777216 from rfl]
    omega
  obtain ⟨p1, p2, p3, p4, p5⟩ := pop_nat (N := x.toBitVec.toNat) hN rfl rfl rfl rfl rfl rfl
  have q1 := (st1 hN).1
  have e1 : (bc1 x).toBitVec.toNat = x.toBitVec.toNat - (x.toBitVec.toNat / 2 &&& 1431655765) := by
    unfold bc1
    have e : (us x 1 &&& 1431655765).toBitVec.toNat = (x.toBitVec.toNat / 2 &&& 1431655765) := by
      rw [an_n, us_n x 1 1 (by decide)]
      rfl
    rw [sb_n _ _ (by rw [e]; exact q1), e]
  have e2 : (bc2 (bc1 x)).toBitVec.toNat = ((bc1 x).toBitVec.toNat &&& 858993459) + ((bc1 x).toBitVec.toNat / 4 &&& 858993459) := by
    unfold bc2
    have ea : (bc1 x &&& 858993459).toBitVec.toNat = ((bc1 x).toBitVec.toNat &&& 858993459) := by
      rw [an_n]; rfl
    have eb : (us (bc1 x) 2 &&& 858993459).toBitVec.toNat = ((bc1 x).toBitVec.toNat / 4 &&& 858993459) := by
      rw [an_n, us_n _ 2 2 (by decide)]; rfl
    rw [ad_n, ea, eb]
    rw [e1]
    exact Nat.mod_eq_of_lt (by omega)
  rw [e1] at e2
  have e3 : (bc3 (bc2 (bc1 x))).toBitVec.toNat = (((bc2 (bc1 x)).toBitVec.toNat + (bc2 (bc1 x)).toBitVec.toNat / 16) &&& 252645135) := by
    unfold bc3
    rw [an_n, ad_n, us_n _ 4 4 (by decide)]
    rw [show (2 : Nat) ^ 4 = 16 from rfl, Nat.mod_eq_of_lt (by rw [e2]; exact p2)]
    rfl
  have e4 : (bc4 (bc3 (bc2 (bc1 x)))).toBitVec.toNat = (bc3 (bc2 (bc1 x))).toBitVec.toNat + (bc3 (bc2 (bc1 x))).toBitVec.toNat / 256 := by
    unfold bc4
    rw [ad_n, us_n _ 8 8 (by decide)]
    rw [show (2 : Nat) ^ 8 = 256 from rfl, Nat.mod_eq_of_lt (by rw [e3, e2]; exact p3)]
  have e5 : (bc5 (bc4 (bc3 (bc2 (bc1 x))))).toBitVec.toNat = (bc4 (bc3 (bc2 (bc1 x)))).toBitVec.toNat + (bc4 (bc3 (bc2 (bc1 x)))).toBitVec.toNat / 65536 := by
    unfold bc5
    rw [ad_n, us_n _ 16 16 (by decide)]
    rw [show (2 : Nat) ^ 16 = 65536 from rfl, Nat.mod_eq_of_lt (by rw [e4, e3, e2]; exact p4)]
  have hlt : bcn x 32 0 ≤ 32 := bcn_le
  apply Int32.toBitVec_inj.mp
  apply BitVec.eq_of_toNat_eq
  rw [pk_tn (by omega)]
  unfold bcS
  rw [an_n, show (63 : Int32).toBitVec.toNat = 2 ^ 6 - 1 from rfl, Nat.and_two_pow_sub_one_eq_mod, hb, e5, e4, e3, e2]
  exact p5
