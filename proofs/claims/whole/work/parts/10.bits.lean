/-! bits of a long, and the two bitCounts -/
def zb_tb (x : Int64) (i : Nat) : Bool := x.toBitVec.getLsbD i
def zb_N (x : Int64) : Nat := x.toBitVec.toNat
def zb_ct (p : Nat → Bool) : Nat → Nat
  | 0 => 0
  | n + 1 => zb_ct p n + (if p n then 1 else 0)
theorem zb_ct_le (p : Nat → Bool) : ∀ n, zb_ct p n ≤ n
  | 0 => Nat.le_refl _
  | n + 1 => by
    have h := zb_ct_le p n
    rw [zb_ct]; split <;> omega
theorem zb_ct_cong {p q : Nat → Bool} : ∀ {n : Nat}, (∀ k, k < n → p k = q k) → zb_ct p n = zb_ct q n
  | 0, _ => rfl
  | n + 1, h => by rw [zb_ct, zb_ct, zb_ct_cong (fun k hk => h k (by omega)), h n (by omega)]
theorem zb_ct_split (p : Nat → Bool) (m : Nat) : ∀ n, zb_ct p (m + n) = zb_ct p m + zb_ct (fun k => p (m + k)) n
  | 0 => rfl
  | n + 1 => by
    have h := zb_ct_split p m n
    show zb_ct p (m + n + 1) = _
    rw [zb_ct, zb_ct, h]; omega
def zb_M (c : Nat) : Nat → Nat
  | 0 => 0
  | k + 1 => c + 256 * zb_M c k
theorem zb_andB {b c y z : Nat} (hb : b < 256) (hc : c < 256) : (b + 256 * y) &&& (c + 256 * z) = (b &&& c) + 256 * (y &&& z) := by
  have h1 : ((b + 256 * y) &&& (c + 256 * z)) % 2 ^ 8 = b &&& c := by
    rw [Nat.and_mod_two_pow]
    congr 1 <;> omega
  have h2 : ((b + 256 * y) &&& (c + 256 * z)) / 2 ^ 8 = y &&& z := by
    rw [Nat.and_div_two_pow]
    congr 1 <;> omega
  omega
def zb_f1 (k N : Nat) : Nat := N - ((N / 2) &&& zb_M 85 k)
def zb_f2 (k N : Nat) : Nat := (N &&& zb_M 51 k) + ((N / 4) &&& zb_M 51 k)
def zb_f3 (k N : Nat) : Nat := (N + N / 16) &&& zb_M 15 k
def zb_g1 (b : Nat) : Nat := b - ((b / 2) &&& 85)
def zb_g2 (b : Nat) : Nat := (b &&& 51) + ((b / 4) &&& 51)
def zb_g3 (b : Nat) : Nat := (b + b / 16) &&& 15
def zb_pop (b : Nat) : Nat := zb_ct (fun i => b.testBit i) 8
theorem zb_d1 : ∀ b, b < 256 → ∀ e, e < 2 → (b / 2 + 128 * e) &&& 85 = (b / 2) &&& 85 := by decide +kernel
theorem zb_d1' : ∀ b, b < 256 → (b / 2) &&& 85 ≤ b ∧ zb_g1 b < 256 := by decide +kernel
theorem zb_d2 : ∀ b, b < 256 → ∀ e, e < 4 → (b / 4 + 64 * e) &&& 51 = (b / 4) &&& 51 := by decide +kernel
theorem zb_d2' : ∀ b, b < 256 → zb_g2 (zb_g1 b) % 16 ≤ 4 ∧ zb_g2 (zb_g1 b) / 16 ≤ 4 := by decide +kernel
theorem zb_d2'' : ∀ b, b < 256 → zb_g2 b < 256 := by decide +kernel
theorem zb_d3 : ∀ b, b < 69 → ∀ e, e < 5 → (b + b / 16 + 16 * e) &&& 15 = (b + b / 16) &&& 15 := by decide +kernel
theorem zb_d4 : ∀ b, b < 256 → zb_g3 (zb_g2 (zb_g1 b)) = zb_pop b ∧ zb_pop b ≤ 8 := by decide +kernel
theorem zb_f1_le (k : Nat) : ∀ N, (N / 2) &&& zb_M 85 k ≤ N := fun N => Nat.le_trans Nat.and_le_left (by omega)
theorem zb_f1s {k b y : Nat} (hb : b < 256) : zb_f1 (k + 1) (b + 256 * y) = zb_g1 b + 256 * zb_f1 k y := by
  have e : (b + 256 * y) / 2 = (b / 2 + 128 * (y % 2)) + 256 * (y / 2) := by omega
  unfold zb_f1 zb_g1
  rw [e, zb_M, zb_andB (by omega) (by decide), zb_d1 b hb _ (by omega)]
  have h1 := (zb_d1' b hb).1
  have h2 := zb_f1_le k y
  omega
theorem zb_f2s {k b y : Nat} (hb : b < 256) : zb_f2 (k + 1) (b + 256 * y) = zb_g2 b + 256 * zb_f2 k y := by
  have e : (b + 256 * y) / 4 = (b / 4 + 64 * (y % 4)) + 256 * (y / 4) := by omega
  unfold zb_f2 zb_g2
  rw [e, zb_M, zb_andB hb (by decide), zb_andB (b := b / 4 + 64 * (y % 4)) (by omega) (by decide), zb_d2 b hb _ (by omega)]
  omega
theorem zb_f3s {k b y : Nat} (hb : b % 16 ≤ 4) (hb2 : b / 16 ≤ 4) (hy : y % 16 ≤ 4) : zb_f3 (k + 1) (b + 256 * y) = zb_g3 b + 256 * zb_f3 k y := by
  have e : b + 256 * y + (b + 256 * y) / 16 = (b + b / 16 + 16 * (y % 16)) + 256 * (y + y / 16) := by omega
  unfold zb_f3 zb_g3
  rw [e, zb_M, zb_andB (by omega) (by decide), zb_d3 b (by omega) _ (by omega)]
def zb_C : Nat → Nat → Nat
  | 0, _ => 0
  | k + 1, N => zb_pop (N % 256) + 256 * zb_C k (N / 256)
def zb_S : Nat → Nat → Nat
  | 0, _ => 0
  | k + 1, N => zb_pop (N % 256) + zb_S k (N / 256)
theorem zb_f2_16 (k : Nat) : ∀ N, zb_f2 k (zb_f1 k N) % 16 ≤ 4 := by
  intro N
  cases k with
  | zero => simp [zb_f2, zb_M]
  | succ k =>
    have e : N = N % 256 + 256 * (N / 256) := by omega
    rw [e, zb_f1s (by omega), zb_f2s (zb_d1' _ (by omega)).2]
    have h := (zb_d2' (N % 256) (by omega)).1
    omega
theorem zb_all (k : Nat) : ∀ N, zb_f3 k (zb_f2 k (zb_f1 k N)) = zb_C k N := by
  induction k with
  | zero => intro N; simp [zb_f3, zb_M, zb_C]
  | succ k ih =>
    intro N
    have e : N = N % 256 + 256 * (N / 256) := by omega
    have hb : N % 256 < 256 := by omega
    rw [zb_C, ← ih, ← (zb_d4 _ hb).1]
    conv => lhs; rw [e]
    rw [zb_f1s hb, zb_f2s (zb_d1' _ hb).2, zb_f3s (zb_d2' _ hb).1 (zb_d2' _ hb).2 (zb_f2_16 k _)]
theorem zb_S_ct (k : Nat) : ∀ N, zb_ct (fun i => N.testBit i) (8 * k) = zb_S k N := by
  induction k with
  | zero => intro N; rfl
  | succ k ih =>
    intro N
    rw [show 8 * (k + 1) = 8 + 8 * k by omega, zb_ct_split, zb_S, ← ih]
    congr 1
    · unfold zb_pop
      refine zb_ct_cong (fun i hi => ?_)
      rw [show (256 : Nat) = 2 ^ 8 from rfl, Nat.testBit_mod_two_pow]
      simp [hi]
    · refine zb_ct_cong (fun i _ => ?_)
      rw [show (256 : Nat) = 2 ^ 8 from rfl, Nat.testBit_div_two_pow, Nat.add_comm]
theorem zb_dv (x y : Nat) (h : x < 256) : (x + 256 * y) / 256 = y := by omega
theorem zb_md (x y : Nat) (h : x < 128) : (x + 256 * y) % 128 = x := by omega
theorem zb_dd (n : Nat) : n / 2 ^ 16 = n / 256 / 256 ∧ n / 2 ^ 32 = n / 256 / 256 / 256 / 256 := by
  constructor
  · rw [Nat.div_div_eq_div_mul]
  · rw [Nat.div_div_eq_div_mul, Nat.div_div_eq_div_mul, Nat.div_div_eq_div_mul]
theorem zb_ad (x y u v : Nat) : (x + 256 * y) + (u + 256 * v) = (x + u) + 256 * (y + v) := by omega
theorem zb_ae (x y u : Nat) : (x + 256 * y) + u = (x + u) + 256 * y := by omega
theorem zb_sum8 (c0 c1 c2 c3 c4 c5 c6 c7 : Nat) (p0 : c0 ≤ 8) (p1 : c1 ≤ 8) (p2 : c2 ≤ 8) (p3 : c3 ≤ 8) (p4 : c4 ≤ 8) (p5 : c5 ≤ 8) (p6 : c6 ≤ 8) (p7 : c7 ≤ 8) (a : Nat) (ha : a = c0 + 256 * (c1 + 256 * (c2 + 256 * (c3 + 256 * (c4 + 256 * (c5 + 256 * (c6 + 256 * c7))))))) :
    (a + a / 2 ^ 8 + (a + a / 2 ^ 8) / 2 ^ 16 + (a + a / 2 ^ 8 + (a + a / 2 ^ 8) / 2 ^ 16) / 2 ^ 32) % 128 = c0 + (c1 + (c2 + (c3 + (c4 + (c5 + (c6 + c7)))))) := by
  have h1 : a / 2 ^ 8 = c1 + 256 * (c2 + 256 * (c3 + 256 * (c4 + 256 * (c5 + 256 * (c6 + 256 * c7))))) := by
    rw [ha]; exact zb_dv _ _ (Nat.lt_of_le_of_lt p0 (by decide))
  have hb : a + a / 2 ^ 8 = (c0 + c1) + 256 * ((c1 + c2) + 256 * ((c2 + c3) + 256 * ((c3 + c4) + 256 * ((c4 + c5) + 256 * ((c5 + c6) + 256 * ((c6 + c7) + 256 * c7)))))) := by
    rw [h1, ha, zb_ad, zb_ad, zb_ad, zb_ad, zb_ad, zb_ad, zb_ae]
  rw [hb]
  generalize eb : (c0 + c1) + 256 * ((c1 + c2) + 256 * ((c2 + c3) + 256 * ((c3 + c4) + 256 * ((c4 + c5) + 256 * ((c5 + c6) + 256 * ((c6 + c7) + 256 * c7)))))) = b
  have h2 : b / 2 ^ 16 = (c2 + c3) + 256 * ((c3 + c4) + 256 * ((c4 + c5) + 256 * ((c5 + c6) + 256 * ((c6 + c7) + 256 * c7)))) := by
    rw [(zb_dd b).1, ← eb, zb_dv _ _ (Nat.lt_of_le_of_lt (Nat.add_le_add p0 p1) (by decide)), zb_dv _ _ (Nat.lt_of_le_of_lt (Nat.add_le_add p1 p2) (by decide))]
  have hd : b + b / 2 ^ 16 = (c0 + c1 + (c2 + c3)) + 256 * ((c1 + c2 + (c3 + c4)) + 256 * ((c2 + c3 + (c4 + c5)) + 256 * ((c3 + c4 + (c5 + c6)) + 256 * ((c4 + c5 + (c6 + c7)) + 256 * ((c5 + c6 + c7) + 256 * ((c6 + c7) + 256 * c7)))))) := by
    rw [h2, ← eb, zb_ad, zb_ad, zb_ad, zb_ad, zb_ad, zb_ae]
  rw [hd]
  have q0 : c0 + c1 + (c2 + c3) < 256 := by clear ha h1 hb h2 hd eb; omega
  have q1 : c1 + c2 + (c3 + c4) < 256 := by clear ha h1 hb h2 hd eb; omega
  have q2 : c2 + c3 + (c4 + c5) < 256 := by clear ha h1 hb h2 hd eb; omega
  have q3 : c3 + c4 + (c5 + c6) < 256 := by clear ha h1 hb h2 hd eb; omega
  have q4 : c0 + c1 + (c2 + c3) + (c4 + c5 + (c6 + c7)) < 128 := by clear ha h1 hb h2 hd eb; omega
  have q5 : c0 + c1 + (c2 + c3) + (c4 + c5 + (c6 + c7)) = c0 + (c1 + (c2 + (c3 + (c4 + (c5 + (c6 + c7)))))) := by clear ha h1 hb h2 hd eb; omega
  generalize ed : (c0 + c1 + (c2 + c3)) + 256 * ((c1 + c2 + (c3 + c4)) + 256 * ((c2 + c3 + (c4 + c5)) + 256 * ((c3 + c4 + (c5 + c6)) + 256 * ((c4 + c5 + (c6 + c7)) + 256 * ((c5 + c6 + c7) + 256 * ((c6 + c7) + 256 * c7)))))) = d
  have h3 : d / 2 ^ 32 = (c4 + c5 + (c6 + c7)) + 256 * ((c5 + c6 + c7) + 256 * ((c6 + c7) + 256 * c7)) := by
    rw [(zb_dd d).2, ← ed, zb_dv _ _ q0, zb_dv _ _ q1, zb_dv _ _ q2, zb_dv _ _ q3]
  rw [h3, ← ed, zb_ad, zb_md _ _ q4, q5]
theorem zb_sum (N : Nat) : (zb_C 8 N + zb_C 8 N / 2 ^ 8 + (zb_C 8 N + zb_C 8 N / 2 ^ 8) / 2 ^ 16 + (zb_C 8 N + zb_C 8 N / 2 ^ 8 + (zb_C 8 N + zb_C 8 N / 2 ^ 8) / 2 ^ 16) / 2 ^ 32) % 128 = zb_S 8 N ∧ zb_C 8 N < 2 ^ 60 := by
  have q : ∀ n, zb_pop (n % 256) ≤ 8 := fun n => (zb_d4 (n % 256) (Nat.mod_lt _ (by decide))).2
  have e : zb_C 8 N = zb_pop (N % 256) + 256 * (zb_pop (N / 256 % 256) + 256 * (zb_pop (N / 256 / 256 % 256) + 256 * (zb_pop (N / 256 / 256 / 256 % 256) + 256 * (zb_pop (N / 256 / 256 / 256 / 256 % 256) + 256 * (zb_pop (N / 256 / 256 / 256 / 256 / 256 % 256) + 256 * (zb_pop (N / 256 / 256 / 256 / 256 / 256 / 256 % 256) + 256 * zb_pop (N / 256 / 256 / 256 / 256 / 256 / 256 / 256 % 256))))))) := rfl
  have e2 : zb_S 8 N = zb_pop (N % 256) + (zb_pop (N / 256 % 256) + (zb_pop (N / 256 / 256 % 256) + (zb_pop (N / 256 / 256 / 256 % 256) + (zb_pop (N / 256 / 256 / 256 / 256 % 256) + (zb_pop (N / 256 / 256 / 256 / 256 / 256 % 256) + (zb_pop (N / 256 / 256 / 256 / 256 / 256 / 256 % 256) + zb_pop (N / 256 / 256 / 256 / 256 / 256 / 256 / 256 % 256))))))) := rfl
  refine ⟨(zb_sum8 _ _ _ _ _ _ _ _ (q _) (q _) (q _) (q _) (q _) (q _) (q _) (q _) _ e).trans e2.symm, ?_⟩
  rw [e]
  have k0 := q N
  have k1 := q (N / 256)
  have k2 := q (N / 256 / 256)
  have k3 := q (N / 256 / 256 / 256)
  have k4 := q (N / 256 / 256 / 256 / 256)
  have k5 := q (N / 256 / 256 / 256 / 256 / 256)
  have k6 := q (N / 256 / 256 / 256 / 256 / 256 / 256)
  have k7 := q (N / 256 / 256 / 256 / 256 / 256 / 256 / 256)
  omega
theorem zb_N_lt (x : Int64) : zb_N x < 2 ^ 64 := x.toBitVec.isLt
theorem zb_N_and (x y : Int64) : zb_N (x &&& y) = zb_N x &&& zb_N y := by
  unfold zb_N; rw [Int64.toBitVec_and, BitVec.toNat_and]
theorem zb_N_add {x y : Int64} (h : zb_N x + zb_N y < 2 ^ 64) : zb_N (x + y) = zb_N x + zb_N y := by
  unfold zb_N at *; rw [Int64.toBitVec_add, BitVec.toNat_add, Nat.mod_eq_of_lt h]
theorem zb_N_sub {x y : Int64} (h : zb_N y ≤ zb_N x) : zb_N (x - y) = zb_N x - zb_N y := by
  have hx := zb_N_lt x
  unfold zb_N at *
  rw [Int64.toBitVec_sub, BitVec.toNat_sub]
  omega
theorem zb_N_shr (x : Int64) (s : UInt64) (k : Nat) (hs : s.toNat % 64 = k) : zb_N ((x.toUInt64 >>> s).toInt64) = zb_N x / 2 ^ k := by
  show (x.toBitVec >>> (s.toBitVec % 64)).toNat = _
  rw [BitVec.ushiftRight_eq', BitVec.toNat_ushiftRight, Nat.shiftRight_eq_div_pow, BitVec.toNat_umod]
  show _ / 2 ^ (s.toNat % 64) = _
  rw [hs]; rfl
theorem zb_M85 : zb_N 6148914691236517205 = zb_M 85 8 := by decide +kernel
theorem zb_M51 : zb_N 3689348814741910323 = zb_M 51 8 := by decide +kernel
theorem zb_M15 : zb_N 1085102592571150095 = zb_M 15 8 := by decide +kernel
theorem zb_tb_N (x : Int64) (i : Nat) : zb_tb x i = (zb_N x).testBit i := by
  unfold zb_tb zb_N; rfl
theorem zb_mm (n : Nat) : n % 2 ^ 32 % 2 ^ 7 = n % 128 := by omega
theorem zb_bc (x : Int64) : fn_J13_bitCount_95d88 x = some (nI (zb_ct (zb_tb x) 64), ()) := by
  have hN := zb_N_lt x
  unfold fn_J13_bitCount_95d88
  simp only [zz_nm]
  generalize h1 : x - ((x.toUInt64 >>> ((1 : Int32).toInt64.toUInt64 &&& Int64.toUInt64 63)).toInt64 &&& 6148914691236517205) = y1
  generalize h2 : (y1 &&& 3689348814741910323) + ((y1.toUInt64 >>> ((2 : Int32).toInt64.toUInt64 &&& Int64.toUInt64 63)).toInt64 &&& 3689348814741910323) = y2
  generalize h3 : (y2 + (y2.toUInt64 >>> ((4 : Int32).toInt64.toUInt64 &&& Int64.toUInt64 63)).toInt64) &&& 1085102592571150095 = y3
  generalize h4 : y3 + (y3.toUInt64 >>> ((8 : Int32).toInt64.toUInt64 &&& Int64.toUInt64 63)).toInt64 = y4
  generalize h5 : y4 + (y4.toUInt64 >>> ((16 : Int32).toInt64.toUInt64 &&& Int64.toUInt64 63)).toInt64 = y5
  generalize h6 : y5 + (y5.toUInt64 >>> ((32 : Int32).toInt64.toUInt64 &&& Int64.toUInt64 63)).toInt64 = y6
  have s1 := zb_N_shr x ((1 : Int32).toInt64.toUInt64 &&& Int64.toUInt64 63) 1 (by decide)
  have s2 := zb_N_shr y1 ((2 : Int32).toInt64.toUInt64 &&& Int64.toUInt64 63) 2 (by decide)
  have s3 := zb_N_shr y2 ((4 : Int32).toInt64.toUInt64 &&& Int64.toUInt64 63) 4 (by decide)
  have s4 := zb_N_shr y3 ((8 : Int32).toInt64.toUInt64 &&& Int64.toUInt64 63) 8 (by decide)
  have s5 := zb_N_shr y4 ((16 : Int32).toInt64.toUInt64 &&& Int64.toUInt64 63) 16 (by decide)
  have s6 := zb_N_shr y5 ((32 : Int32).toInt64.toUInt64 &&& Int64.toUInt64 63) 32 (by decide)
  have e1 : zb_N y1 = zb_f1 8 (zb_N x) := by
    rw [← h1, zb_N_sub (by rw [zb_N_and, s1, zb_M85]; exact zb_f1_le 8 _), zb_N_and, s1, zb_M85]; rfl
  have b51 : zb_M 51 8 = 3689348814741910323 := by decide +kernel
  have e2 : zb_N y2 = zb_f2 8 (zb_N y1) ∧ zb_N y2 ≤ 7378697629483820646 := by
    have q1 : zb_N y1 &&& zb_M 51 8 ≤ zb_M 51 8 := Nat.and_le_right
    have q2 : zb_N y1 / 2 ^ 2 &&& zb_M 51 8 ≤ zb_M 51 8 := Nat.and_le_right
    have : zb_N y2 = zb_f2 8 (zb_N y1) := by
      rw [← h2, zb_N_add (by rw [zb_N_and, zb_N_and, s2, zb_M51]; omega), zb_N_and, zb_N_and, s2, zb_M51]; rfl
    refine ⟨this, ?_⟩
    rw [this]
    show (zb_N y1 &&& zb_M 51 8) + (zb_N y1 / 2 ^ 2 &&& zb_M 51 8) ≤ _
    omega
  have e3 : zb_N y3 = zb_C 8 (zb_N x) := by
    rw [← zb_all, ← e1, ← e2.1, ← h3, zb_N_and, zb_N_add (by rw [s3]; omega), s3, zb_M15]; rfl
  obtain ⟨r1, r2⟩ := zb_sum (zb_N x)
  rw [← e3] at r1 r2
  have e4 : zb_N y4 = zb_N y3 + zb_N y3 / 2 ^ 8 := by
    rw [← h4, zb_N_add (by rw [s4]; omega), s4]
  have e5 : zb_N y5 = zb_N y4 + zb_N y4 / 2 ^ 16 := by
    rw [← h5, zb_N_add (by rw [s5]; omega), s5]
  have e6 : zb_N y6 = zb_N y5 + zb_N y5 / 2 ^ 32 := by
    rw [← h6, zb_N_add (by rw [s6]; omega), s6]
  rw [← e4, ← e5, ← e6] at r1
  have hz : zb_ct (zb_tb x) 64 = zb_S 8 (zb_N x) := by
    rw [← zb_S_ct]; exact zb_ct_cong (fun i _ => zb_tb_N x i)
  rw [hz, ← r1, pk_and y6.toInt32 7 (by decide)]
  congr 3
  rw [Int64.toBitVec_toInt32, BitVec.signExtend_eq_setWidth_of_le _ (by decide), BitVec.toNat_setWidth]
  exact zb_mm _
/-! the bits of the operations -/
theorem zb_ext {x y : Int64} (h : ∀ i, i < 64 → zb_tb x i = zb_tb y i) : x = y := by
  apply Int64.toBitVec_inj.mp
  exact BitVec.eq_of_getLsbD_eq (fun i hi => h i hi)
theorem zb_big (x : Int64) {i : Nat} (h : 64 ≤ i) : zb_tb x i = false := BitVec.getLsbD_of_ge _ _ h
theorem zb_and (x y : Int64) (i : Nat) : zb_tb (x &&& y) i = (zb_tb x i && zb_tb y i) := BitVec.getLsbD_and
theorem zb_or (x y : Int64) (i : Nat) : zb_tb (x ||| y) i = (zb_tb x i || zb_tb y i) := BitVec.getLsbD_or
theorem zb_xor (x y : Int64) (i : Nat) : zb_tb (x ^^^ y) i = (zb_tb x i ^^ zb_tb y i) := BitVec.getLsbD_xor
theorem zb_m1 (i : Nat) : zb_tb (-1) i = decide (i < 64) := by
  unfold zb_tb
  rw [show (-1 : Int64).toBitVec = BitVec.allOnes 64 by decide]
  exact BitVec.getLsbD_allOnes
theorem zb_not (x : Int64) {i : Nat} (h : i < 64) : zb_tb (x ^^^ (-1)) i = !zb_tb x i := by
  rw [zb_xor, zb_m1]; simp [h]
theorem zb_0 (i : Nat) : zb_tb 0 i = false := by
  unfold zb_tb
  rw [show (0 : Int64).toBitVec = 0#64 by decide]
  exact BitVec.getLsbD_zero
theorem zb_ALL (i : Nat) : zb_tb 72057594037927935 i = decide (i < 56) := by
  rw [zb_tb_N, show zb_N 72057594037927935 = 2 ^ 56 - 1 by decide +kernel, Nat.testBit_two_pow_sub_one]
theorem zb_c63 : ∀ k, k < 64 → ((nI k).toInt64 &&& 63) = lN k := by decide +kernel
theorem zb_cu63 : ∀ k, k < 64 → ((nI k).toInt64.toUInt64 &&& Int64.toUInt64 63) = UInt64.ofNat k := by decide +kernel
theorem zb_sm : ∀ k, k < 64 → ((lN k).toBitVec.smod 64).toNat = k := by decide +kernel
theorem zb_shl (x : Int64) {n : Nat} (hn : n < 64) (i : Nat) : zb_tb (x <<< ((nI n).toInt64 &&& 63)) i = (decide (i < 64) && !decide (i < n) && zb_tb x (i - n)) := by
  rw [zb_c63 n hn]
  show (x.toBitVec <<< ((lN n).toBitVec.smod 64)).getLsbD i = _
  rw [BitVec.shiftLeft_eq', zb_sm n hn, BitVec.getLsbD_shiftLeft]; rfl
theorem zb_shr (x : Int64) {n : Nat} (hn : n < 64) (i : Nat) : zb_tb ((x.toUInt64 >>> ((nI n).toInt64.toUInt64 &&& Int64.toUInt64 63)).toInt64) i = zb_tb x (n + i) := by
  rw [zb_cu63 n hn]
  show (x.toBitVec >>> ((UInt64.ofNat n).toBitVec % 64)).getLsbD i = _
  rw [BitVec.ushiftRight_eq', show ((UInt64.ofNat n).toBitVec % 64).toNat = n by
    rw [BitVec.toNat_umod]; show (n % 2 ^ 64) % 64 = n; omega, BitVec.getLsbD_ushiftRight]; rfl
theorem zb_1 (j : Nat) : zb_tb 1 j = decide (j = 0) := by
  rw [zb_tb_N, show zb_N 1 = 1 by decide +kernel]
  cases j with
  | zero => rfl
  | succ j => rw [Nat.testBit_succ]; simp
theorem zb_one {n : Nat} (hn : n < 64) (i : Nat) : zb_tb ((1 : Int64) <<< ((nI n).toInt64 &&& 63)) i = decide (i = n) := by
  rw [zb_shl _ hn, zb_1, Bool.eq_iff_iff]
  simp
  omega
