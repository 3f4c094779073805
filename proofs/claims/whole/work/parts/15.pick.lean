/-! the i-th of a set -/
theorem zl_form {N l : Nat} (h0 : ∀ i, i < l → N.testBit i = false) (h1 : N.testBit l = true) : ∃ r, N = 2 ^ (l + 1) * r + 2 ^ l := by
  have e1 : N % 2 ^ l = 0 := by
    apply Nat.eq_of_testBit_eq
    intro i
    rw [Nat.testBit_mod_two_pow, Nat.zero_testBit]
    by_cases h : i < l
    · rw [h0 i h]; simp
    · simp [h]
  have e2 : N / 2 ^ l % 2 = 1 := by
    have := h1
    rw [Nat.testBit_eq_decide_div_mod_eq] at this
    simpa using this
  refine ⟨N / 2 ^ l / 2, ?_⟩
  have a1 := Nat.div_add_mod N (2 ^ l)
  have a2 := Nat.div_add_mod (N / 2 ^ l) 2
  rw [e1, Nat.add_zero] at a1
  rw [e2] at a2
  calc N = 2 ^ l * (N / 2 ^ l) := a1.symm
    _ = 2 ^ l * (2 * (N / 2 ^ l / 2) + 1) := by rw [a2]
    _ = 2 ^ (l + 1) * (N / 2 ^ l / 2) + 2 ^ l := by rw [Nat.mul_add, Nat.mul_one, ← Nat.mul_assoc, Nat.pow_succ]
theorem zl_bits {l r : Nat} (i : Nat) : (2 ^ (l + 1) * r + 2 ^ l).testBit i = if i < l + 1 then decide (i = l) else r.testBit (i - (l + 1)) := by
  rw [Nat.testBit_two_pow_mul_add r (Nat.pow_lt_pow_of_lt (by decide) (by omega)) i]
  by_cases h : i < l + 1
  · rw [if_pos h, if_pos h, Nat.testBit_two_pow, Bool.eq_iff_iff]; simp [eq_comm]
  · rw [if_neg h, if_neg h]
theorem zl_pred {l r : Nat} (i : Nat) : (2 ^ (l + 1) * r + 2 ^ l - 1).testBit i = if i < l + 1 then decide (i < l) else r.testBit (i - (l + 1)) := by
  have hp : 0 < 2 ^ l := Nat.pow_pos (by decide)
  rw [show 2 ^ (l + 1) * r + 2 ^ l - 1 = 2 ^ (l + 1) * r + (2 ^ l - 1) by omega]
  have : 2 ^ l - 1 < 2 ^ (l + 1) := by rw [Nat.pow_succ]; omega
  rw [Nat.testBit_two_pow_mul_add r this i]
  by_cases h : i < l + 1
  · rw [if_pos h, if_pos h, Nat.testBit_two_pow_sub_one]
  · rw [if_neg h, if_neg h]
theorem zl_neg {l r : Nat} (hl : l < 64) (hr : 2 ^ (l + 1) * r + 2 ^ l < 2 ^ 64) (i : Nat) : (2 ^ 64 - (2 ^ (l + 1) * r + 2 ^ l)).testBit i = if i < l + 1 then decide (i = l) else (decide (i - (l + 1) < 63 - l) && !r.testBit (i - (l + 1))) := by
  have e64 : 2 ^ 64 = 2 ^ (l + 1) * 2 ^ (63 - l) := by rw [← Nat.pow_add]; congr 1; omega
  have hp : 0 < 2 ^ l := Nat.pow_pos (by decide)
  have hrb : r < 2 ^ (63 - l) := by
    rcases Nat.lt_or_ge r (2 ^ (63 - l)) with h | h
    · exact h
    · have := Nat.mul_le_mul_left (2 ^ (l + 1)) h
      omega
  have e : 2 ^ 64 - (2 ^ (l + 1) * r + 2 ^ l) = 2 ^ (l + 1) * (2 ^ (63 - l) - (r + 1)) + 2 ^ l := by
    rw [e64, Nat.mul_sub, Nat.mul_add, Nat.mul_one]
    have h1 : 2 ^ (l + 1) * r + 2 ^ (l + 1) ≤ 2 ^ (l + 1) * 2 ^ (63 - l) := by
      have := Nat.mul_le_mul_left (2 ^ (l + 1)) (show r + 1 ≤ 2 ^ (63 - l) by omega)
      rw [Nat.mul_add, Nat.mul_one] at this; exact this
    have h2 : 2 ^ (l + 1) = 2 ^ l + 2 ^ l := by rw [Nat.pow_succ]; omega
    omega
  rw [e, zl_bits]
  by_cases h : i < l + 1
  · rw [if_pos h, if_pos h]
  · rw [if_neg h, if_neg h, Nat.testBit_two_pow_sub_succ hrb]
/-- the lowest bit of a long: without it, it alone, those below it -/
theorem zl_low {x : Int64} {l : Nat} (hl : l < 64) (h0 : ∀ i, i < l → zb_tb x i = false) (h1 : zb_tb x l = true) : (∀ i, zb_tb (x &&& (x - 1)) i = (zb_tb x i && !decide (i = l))) ∧ ∀ i, zb_tb ((x &&& (-x)) - 1) i = decide (i < l) := by
  obtain ⟨r, hr⟩ := zl_form (N := zb_N x) (fun i hi => by rw [← zb_tb_N]; exact h0 i hi) (by rw [← zb_tb_N]; exact h1)
  have hp : 0 < 2 ^ l := Nat.pow_pos (by decide)
  have hN := zb_N_lt x
  have e1 : zb_N (x - 1) = zb_N x - 1 := by
    have : zb_N 1 = 1 := by decide +kernel
    rw [zb_N_sub (by rw [this]; omega), this]
  have eneg : zb_N (-x) = 2 ^ 64 - zb_N x := by
    show (-x).toBitVec.toNat = _
    rw [Int64.toBitVec_neg, BitVec.toNat_neg]
    show (2 ^ 64 - zb_N x) % 2 ^ 64 = _
    omega
  have hx : ∀ i, zb_tb x i = if i < l + 1 then decide (i = l) else r.testBit (i - (l + 1)) := fun i => by rw [zb_tb_N, hr, zl_bits]
  refine ⟨fun i => ?_, ?_⟩
  · rw [zb_and, zb_tb_N (x - 1), e1, hr, zl_pred, hx]
    by_cases h : i < l + 1
    · rw [if_pos h, if_pos h]
      by_cases q : i = l
      · simp [q]
      · simp [q]
    · rw [if_neg h, if_neg h]
      have : ¬ i = l := by omega
      simp [this]
  · have hy : ∀ i, zb_tb (x &&& (-x)) i = decide (i = l) := by
      intro i
      rw [zb_and, zb_tb_N (-x), eneg, hr, zl_neg hl (by rw [← hr]; exact hN), hx]
      by_cases h : i < l + 1
      · rw [if_pos h, if_pos h]; simp
      · rw [if_neg h, if_neg h]
        have : ¬ i = l := by omega
        cases r.testBit (i - (l + 1)) <;> simp [this]
    have hyN : zb_N (x &&& (-x)) = 2 ^ l := by
      apply Nat.eq_of_testBit_eq
      intro i
      rw [← zb_tb_N, hy, Nat.testBit_two_pow, Bool.eq_iff_iff]
      simp [eq_comm]
    intro i
    have h1' : zb_N 1 = 1 := by decide +kernel
    rw [zb_tb_N, zb_N_sub (by rw [h1', hyN]; omega), hyN, h1', Nat.testBit_two_pow_sub_one]
theorem zb_ct_lt (l : Nat) : ∀ n, zb_ct (fun i => decide (i < l)) n = if n ≤ l then n else l
  | 0 => by rw [if_pos (Nat.zero_le l)]; rfl
  | n + 1 => by
    rw [zb_ct, zb_ct_lt l n]
    by_cases h : n + 1 ≤ l
    · rw [if_pos (by omega), if_pos h]; simp; omega
    · by_cases h2 : n ≤ l
      · rw [if_pos h2, if_neg h]
        have : n = l := by omega
        simp [this]
      · rw [if_neg h2, if_neg h]; simp; omega
theorem zb_ct_mono (q : Nat → Bool) {m n : Nat} (h : m ≤ n) : zb_ct q m ≤ zb_ct q n := by
  obtain ⟨d, rfl⟩ : ∃ d, n = m + d := ⟨n - m, by omega⟩
  rw [zb_ct_split]; omega
theorem zb_ct_kth {q : Nat → Bool} {k : Nat} : ∀ {n : Nat}, k < zb_ct q n → ∃ x, x < n ∧ q x = true ∧ zb_ct q x = k
  | 0, h => absurd h (Nat.not_lt_zero k)
  | n + 1, h => by
    rcases Nat.lt_or_ge k (zb_ct q n) with c | c
    · obtain ⟨x, h1, h2⟩ := zb_ct_kth c
      exact ⟨x, by omega, h2⟩
    · rw [zb_ct] at h
      by_cases hq : q n = true
      · rw [if_pos hq] at h
        exact ⟨n, by omega, hq, by omega⟩
      · rw [if_neg hq] at h; omega
theorem zb_ct_step {q : Nat → Bool} {x y : Nat} (hx : q x = true) (h : x < y) : zb_ct q x < zb_ct q y := by
  have := zb_ct_mono q (show x + 1 ≤ y by omega)
  rw [zb_ct, if_pos hx] at this; omega
def zl_D (set : Int64) : Nat → Int64
  | 0 => set
  | k + 1 => zl_D set k &&& (zl_D set k - 1)
theorem zl_D_bits (set : Int64) : ∀ k, k ≤ zb_ct (zb_tb set) 64 → ∀ x, zb_tb (zl_D set k) x = (zb_tb set x && decide (k ≤ zb_ct (zb_tb set) x))
  | 0, _, x => by simp [zl_D]
  | k + 1, hk, x => by
    have ih := zl_D_bits set k (by omega)
    obtain ⟨l, hl, h1, h2⟩ := zb_ct_kth (q := zb_tb set) (k := k) (n := 64) (by omega)
    have hlow := zl_low (x := zl_D set k) hl (fun i hi => by
      rw [ih]
      by_cases hq : zb_tb set i = true
      · have := zb_ct_step hq hi
        simp; intro _; omega
      · simp [hq]) (by rw [ih, h1, h2]; simp)
    rw [zl_D, hlow.1, ih]
    by_cases hq : zb_tb set x = true
    · rw [hq, Bool.true_and, Bool.true_and, Bool.eq_iff_iff]
      simp only [Bool.and_eq_true, decide_eq_true_iff, Bool.not_eq_true', decide_eq_false_iff_not]
      constructor
      · intro ⟨a, b⟩
        rcases Nat.lt_or_ge k (zb_ct (zb_tb set) x) with c | c
        · exact c
        · exfalso
          have e : zb_ct (zb_tb set) x = k := by omega
          rcases Nat.lt_trichotomy x l with d | d | d
          · have := zb_ct_step hq d; omega
          · exact b d
          · have := zb_ct_step h1 d; omega
      · intro a
        exact ⟨by omega, fun e => by subst e; omega⟩
    · simp [hq]
/-- pick: none, or the place before which just i of the set lie -/
theorem zl_pick (set : Int64) (i : Int32) : (¬ (0 ≤ i.toInt ∧ i.toInt < zb_ct (zb_tb set) 64) ∧ fn_X1_pick set i = some (-9, ())) ∨ ∃ k x : Nat, i = nI k ∧ x < 64 ∧ zb_tb set x = true ∧ zb_ct (zb_tb set) x = k ∧ k < zb_ct (zb_tb set) 64 ∧ fn_X1_pick set i = some (nI x, ()) := by
  have hct := zb_ct_le (zb_tb set) 64
  by_cases h1 : 0 ≤ i.toInt ∧ i.toInt < zb_ct (zb_tb set) 64
  · right
    obtain ⟨k, hk, rfl⟩ := zi_rng (B := 63) h1.1 (by omega) (by decide)
    have hk2 : k < zb_ct (zb_tb set) 64 := by have := h1.2; rw [nI_toInt (by omega)] at this; omega
    obtain ⟨l, hl, q1, q2⟩ := zb_ct_kth hk2
    have hlow := zl_low (x := zl_D set k) hl (fun j hj => by
      rw [zl_D_bits set k (by omega)]
      by_cases hq : zb_tb set j = true
      · have := zb_ct_step hq hj
        simp; intro _; omega
      · simp [hq]) (by rw [zl_D_bits set k (by omega), q1, q2]; simp)
    refine ⟨k, l, rfl, hl, q1, q2, hk2, ?_⟩
    unfold fn_X1_pick
    refine pe_ifn (nI_pos (by omega)) (pe_b2 (zb_bc set) (pe_if (nI_lt hk2 (by omega)) (pe_b1 (a1 := zl_D set k) (pe_itE (fun j => (zl_D set j, nI j)) k rfl ?_ ?_ (by omega)) (pe_b2 (zb_bc _) ?_))))
    · intro j hj
      unfold fb_X1_pick_20
      exact pe_ifn (nI_ge hj (by omega)) (pe_nm rfl (pe_nm (nI_1 j) rfl))
    · unfold fb_X1_pick_20
      exact pe_if (Int32.le_refl _) rfl
    · rw [zb_ct_cong (fun j _ => hlow.2 j), zb_ct_lt, if_neg (by omega)]
  · left
    refine ⟨h1, ?_⟩
    unfold fn_X1_pick
    by_cases h2 : i.toInt < 0
    · exact pe_if ((zi_ltc (by decide)).mpr h2) rfl
    · refine pe_ifn (fun h => h2 ((zi_ltc (by decide)).mp h)) (pe_b2 (zb_bc set) (pe_ifn (fun h => h1 ⟨by omega, ?_⟩) rfl))
      have := zi_lt.mp h
      rw [nI_toInt (by omega)] at this
      exact this
