/-! plans as functions: handings, runs, the cost -/
/-- a handing at night i -/
def zc_h (p : Nat → Bool) (i : Nat) : Bool := decide (0 < i) && (p i ^^ p (i - 1))
/-- the run behind k nights -/
def zc_R (p : Nat → Bool) : Nat → Nat
  | 0 => 0
  | k + 1 => if zc_h p k = true then 1 else zc_R p k + 1
theorem zc_R_le (p : Nat → Bool) : ∀ k, zc_R p k ≤ k
  | 0 => Nat.le_refl _
  | k + 1 => by
    have := zc_R_le p k
    rw [zc_R]; split <;> omega
theorem zc_R_run (p : Nat → Bool) : ∀ i k, k < zc_R p (i + 1) ↔ k ≤ i ∧ ∀ j, j ≤ k → p (i - j) = p i := by
  intro i
  induction i with
  | zero =>
    intro k
    have : zc_R p (0 + 1) = 1 := by rw [zc_R, if_neg (by simp [zc_h])]; rfl
    rw [this]
    constructor
    · intro h
      exact ⟨by omega, fun j hj => by rw [show 0 - j = 0 by omega]⟩
    · intro h; omega
  | succ i ih =>
    intro k
    rw [zc_R]
    by_cases hh : zc_h p (i + 1) = true
    · rw [if_pos hh]
      have hne : p (i + 1) ≠ p i := by
        simp [zc_h] at hh
        exact fun e => by rw [e] at hh; simp at hh
      constructor
      · intro h
        have : k = 0 := by omega
        subst this
        exact ⟨by omega, fun j hj => by rw [show i + 1 - j = i + 1 by omega]⟩
      · intro ⟨h1, h2⟩
        rcases Nat.eq_zero_or_pos k with h | h
        · omega
        · exact absurd (h2 1 (by omega)).symm hne
    · rw [if_neg hh]
      have he : p (i + 1) = p i := by
        simp [zc_h] at hh
        exact hh
      constructor
      · intro h
        rcases Nat.eq_zero_or_pos k with h0 | h0
        · subst h0
          exact ⟨by omega, fun j hj => by rw [show i + 1 - j = i + 1 by omega]⟩
        · obtain ⟨a1, a2⟩ := (ih (k - 1)).mp (by omega)
          refine ⟨by omega, fun j hj => ?_⟩
          rcases Nat.eq_zero_or_pos j with q | q
          · subst q; rfl
          · have := a2 (j - 1) (by omega)
            rw [show i + 1 - j = i - (j - 1) by omega, this, he]
      · intro ⟨h1, h2⟩
        rcases Nat.eq_zero_or_pos k with h0 | h0
        · subst h0; omega
        · have := (ih (k - 1)).mpr ⟨by omega, fun j hj => by
            have e := h2 (j + 1) (by omega)
            rw [show i + 1 - (j + 1) = i - j by omega, he] at e
            exact e⟩
          omega
def zc_long (p : Nat → Bool) (m i : Nat) : Bool := decide (m < zc_R p (i + 1))
def zc_sum (f : Nat → Nat) : Nat → Nat
  | 0 => 0
  | n + 1 => zc_sum f n + f n
def zc_b (x : Bool) : Nat := if x = true then 1 else 0
/-- THE COST of the first k nights -/
def zc_cost (m a j : Nat) (pr : Nat → Nat → Nat) (p : Nat → Bool) (k : Nat) : Nat := j * zb_ct (zc_h p) k + a * zb_ct (zc_long p m) k + zc_sum (fun n => pr n (zc_b (p n))) k
theorem zc_cong_h {p q : Nat → Bool} {N : Nat} (h : ∀ i, i < N → p i = q i) : ∀ i, i < N → zc_h p i = zc_h q i := fun i hi => by
  unfold zc_h; rw [h i hi, h (i - 1) (by omega)]
theorem zc_cong_R {p q : Nat → Bool} {N : Nat} (h : ∀ i, i < N → p i = q i) : ∀ k, k ≤ N → zc_R p k = zc_R q k
  | 0, _ => rfl
  | k + 1, hk => by rw [zc_R, zc_R, zc_cong_h h k (by omega), zc_cong_R h k (by omega)]
theorem zc_sum_cong {f g : Nat → Nat} : ∀ {n : Nat}, (∀ k, k < n → f k = g k) → zc_sum f n = zc_sum g n
  | 0, _ => rfl
  | n + 1, h => by rw [zc_sum, zc_sum, zc_sum_cong (fun k hk => h k (by omega)), h n (by omega)]
theorem zc_cost_cong {m a j : Nat} {pr : Nat → Nat → Nat} {p q : Nat → Bool} {N : Nat} (h : ∀ i, i < N → p i = q i) : zc_cost m a j pr p N = zc_cost m a j pr q N := by
  unfold zc_cost
  rw [zb_ct_cong (zc_cong_h h), zb_ct_cong (p := zc_long p m) (q := zc_long q m) (fun i hi => by unfold zc_long; rw [zc_cong_R h (i + 1) (by omega)]), zc_sum_cong (fun k hk => by rw [h k hk])]
theorem zb_m2 (i : Nat) : zb_tb (-2) i = decide (0 < i ∧ i < 64) := by
  rw [show (-2 : Int64) = (1 : Int64) ^^^ (-1) by decide, zb_xor, zb_1, zb_m1, Bool.eq_iff_iff]
  by_cases h1 : i = 0 <;> by_cases h2 : i < 64 <;> simp [h1, h2] <;> omega
theorem zb_ct_cut {q : Nat → Bool} (h : ∀ i, 56 ≤ i → q i = false) : zb_ct q 64 = zb_ct q 56 := by
  rw [show (64 : Nat) = 56 + 8 by rfl, zb_ct_split]
  have : zb_ct (fun k => q (56 + k)) 8 = zb_ct (fun _ => false) 8 := zb_ct_cong (fun k _ => h _ (by omega))
  rw [this]; rfl
theorem zi_handings (pl : Int64) : ∃ o, fn_X1_handings pl = some (o, ()) ∧ ∀ i, zb_tb o i = (decide (i < 56) && zc_h (zb_tb pl) i) := by
  refine ⟨_, rfl, fun i => ?_⟩
  by_cases h64 : i < 64
  · rw [zb_and, zb_and, zb_xor, show (1 : Int32) = nI 1 from rfl, zb_shl _ (by decide), zb_ALL, zb_m2, Bool.eq_iff_iff]
    unfold zc_h
    rcases Nat.eq_zero_or_pos i with h | h
    · subst h; simp
    · have e1 : ¬ i < 1 := by omega
      simp [h64, e1, h]
      constructor
      · intro ⟨a, b⟩; exact ⟨b, a⟩
      · intro ⟨a, b⟩; exact ⟨b, a⟩
  · rw [zb_big _ (by omega), show decide (i < 56) = false by simp; omega]; rfl
theorem zi_behind (pl : Int64) {m : Nat} (h1 : 1 ≤ m) (hm : m ≤ 14) : ∃ o, fn_X1_behindLongRuns pl (nI m) = some (o, ()) ∧ ∀ i, zb_tb o i = (decide (i < 56) && zc_long (zb_tb pl) m i) := by
  obtain ⟨hd, e1, hb⟩ := zi_handings pl
  unfold fn_X1_behindLongRuns
  obtain ⟨st, est⟩ : ∃ x : Int64, x = 72057594037927934 &&& (hd ^^^ (-1)) := ⟨_, rfl⟩
  have hst : ∀ i, zb_tb st i = (decide (0 < i ∧ i < 56) && (zb_tb pl i == zb_tb pl (i - 1))) := by
    intro i
    by_cases h64 : i < 64
    · rw [est, zb_and, zb_not _ h64, hb, show (72057594037927934 : Int64) = 72057594037927935 &&& (-2) by decide, zb_and, zb_ALL, zb_m2]
      unfold zc_h
      by_cases a : i < 56 <;> by_cases b : 0 < i <;> cases zb_tb pl i <;> cases zb_tb pl (i - 1) <;> simp [a, b, h64]
    · rw [zb_big _ (by omega)]
      have : ¬ i < 56 := by omega
      simp [this]
  let B : Nat → Int64 := fun k => Nat.rec st (fun b acc => acc &&& (st <<< ((nI (b + 1)).toInt64 &&& 63))) k
  have hB : ∀ k, k ≤ 13 → ∀ i, zb_tb (B k) i = decide (∀ b, b ≤ k → b ≤ i ∧ zb_tb st (i - b) = true) := by
    intro k
    induction k with
    | zero =>
      intro _ i
      show zb_tb st i = _
      rw [Bool.eq_iff_iff, decide_eq_true_iff]
      constructor
      · intro h b hb; have : b = 0 := by omega
        subst this; exact ⟨by omega, h⟩
      · intro h; exact (h 0 (by omega)).2
    | succ k ih =>
      intro hk i
      show zb_tb (B k &&& (st <<< ((nI (k + 1)).toInt64 &&& 63))) i = _
      rw [zb_and, ih (by omega), zb_shl _ (by omega), Bool.eq_iff_iff]
      simp only [Bool.and_eq_true, decide_eq_true_iff, Bool.not_eq_true', decide_eq_false_iff_not]
      constructor
      · intro ⟨a1, ⟨a2, a3⟩, a4⟩ b hb
        rcases Nat.lt_or_ge b (k + 1) with q | q
        · exact a1 b (by omega)
        · have : b = k + 1 := by omega
          subst this; exact ⟨by omega, a4⟩
      · intro h
        have q := h (k + 1) (by omega)
        have h64 : i < 64 := by
          rcases Nat.lt_or_ge i 64 with z | z
          · exact z
          · have := (h 0 (by omega)).2
            rw [show i - 0 = i by omega, zb_big _ z] at this; cases this
        exact ⟨fun b hb => h b (by omega), ⟨h64, by omega⟩, q.2⟩
  refine ⟨B (m - 1), pe_b2 e1 (pe_nm est.symm (pe_b1 (pe_itE (fun k => (B k, nI (k + 1))) (m - 1) rfl ?_ ?_ (by omega)) rfl)), fun i => ?_⟩
  · intro k hk
    unfold fb_X1_behindLongRuns_19
    exact pe_ifn (nI_ge (by omega) (by omega)) (pe_nm rfl (pe_nm (nI_1 (k + 1)) rfl))
  · unfold fb_X1_behindLongRuns_19
    refine pe_if ?_ rfl
    show nI m ≤ nI (m - 1 + 1)
    rw [show m - 1 + 1 = m by omega]
    exact Int32.le_refl _
  · rw [hB (m - 1) (by omega), Bool.eq_iff_iff]
    simp only [Bool.and_eq_true, decide_eq_true_iff, zc_long]
    constructor
    · intro h
      have s0 := (h 0 (by omega)).2
      rw [show i - 0 = i by omega, hst] at s0
      simp only [Bool.and_eq_true, decide_eq_true_iff] at s0
      have key : ∀ j, j ≤ m → j ≤ i ∧ zb_tb pl (i - j) = zb_tb pl i := by
        intro j
        induction j with
        | zero => intro _; exact ⟨by omega, rfl⟩
        | succ j ih =>
          intro hj
          obtain ⟨z1, z2⟩ := ih (by omega)
          obtain ⟨y1, y2⟩ := h j (by omega)
          rw [hst] at y2
          simp only [Bool.and_eq_true, decide_eq_true_iff, beq_iff_eq] at y2
          refine ⟨by omega, ?_⟩
          rw [show i - (j + 1) = i - j - 1 by omega, ← y2.2, z2]
      refine ⟨s0.1.2, (zc_R_run _ i m).mpr ⟨(key m (by omega)).1, fun j hj => (key j hj).2⟩⟩
    · intro ⟨h56, hr⟩
      obtain ⟨a1, a2⟩ := (zc_R_run _ i m).mp hr
      intro b hb
      refine ⟨by omega, ?_⟩
      rw [hst]
      simp only [Bool.and_eq_true, decide_eq_true_iff, beq_iff_eq]
      refine ⟨by omega, ?_⟩
      rw [show i - b - 1 = i - (b + 1) by omega, a2 b (by omega), a2 (b + 1) (by omega)]
/-- what the class holds of the wants is what the model adds up -/
theorem zi_priceOf {ag : Nat → Int32} {n h : Nat} {v : Nat} (hn : n < 56) (hh : h < 2) (e : ag (h * 56 + n) = nI v) : fn_X7_priceOf ag (nI n) (nI h) = some (nI v, ()) := by
  unfold fn_X7_priceOf
  have hq : h * 56 + n < 112 := by
    have : h = 0 ∨ h = 1 := by omega
    rcases this with rfl | rfl <;> omega
  refine pe_nm (show nI h * 56 + nI n = nI (h * 56 + n) by rw [show (56 : Int32) = nI 56 from rfl, pk_mul, nI_add]) (pe_ifn (nI_pos (by omega)) (pe_ifn (nI_ge (b := 112) hq (by decide)) (pe_chk hq (by decide) ?_)))
  rw [nI_clamp (by omega), e]
theorem zi_unwanted {w : Nat} {wn wh ww : Nat → Int32} (hw : w ≤ 12) (g : ∀ k, k < w → wn k = nI (zi_g wn k) ∧ zi_g wn k < 56 ∧ wh k = nI (zi_g wh k) ∧ zi_g wh k ≤ 1 ∧ ww k = nI (zi_g ww k) ∧ zi_g ww k ≤ 9) {n h : Nat} (hn : n < 2 ^ 31) (hh : h < 2 ^ 31) : fn_X9_unwanted (nI w) wh wn ww (nI n) (nI h) = some (nI (zi_price wn wh ww n h w), ()) := by
  unfold fn_X9_unwanted
  refine pe_b1 (pe_itE (fun k => (nI (zi_price wn wh ww n h k), nI k)) w rfl ?_ ?_ (by omega)) rfl
  · intro k hk
    unfold fb_X9_unwanted_5
    obtain ⟨g1, g2, g3, g4, g5, g6⟩ := g k hk
    have ck : (nI k).toNatClampNeg = k := nI_clamp (by omega)
    refine pe_ifn (nI_ge hk (by omega)) (pe_chk (by omega) (by decide) ?_)
    by_cases c1 : zi_g wn k = n
    · refine pe_if (by show wn (nI k).toNatClampNeg = nI n; rw [ck, g1, c1]) (pe_chk (by omega) (by decide) ?_)
      by_cases c2 : zi_g wh k = h
      · refine pe_if (by show wh (nI k).toNatClampNeg = nI h; rw [ck, g3, c2]) (pe_nm ?_ (pe_nm (nI_1 k) rfl))
        show nI _ + 0 = nI (zi_price wn wh ww n h (k + 1))
        rw [zi_price, if_neg (fun z => z.2 c2), show (0 : Int32) = nI 0 from rfl, nI_add]
      · refine pe_ifn (fun z => c2 ?_) (pe_chk (by omega) (by decide) (pe_nm ?_ (pe_nm (nI_1 k) rfl)))
        · have z : wh (nI k).toNatClampNeg = nI h := z
          rw [ck, g3] at z
          exact (nI_eq (by omega) hh).mp z
        · show nI _ + ww (nI k).toNatClampNeg = nI (zi_price wn wh ww n h (k + 1))
          rw [ck, g5, nI_add, zi_price, if_pos ⟨c1, c2⟩]
    · refine pe_ifn (fun z => c1 ?_) (pe_nm ?_ (pe_nm (nI_1 k) rfl))
      · have z : wn (nI k).toNatClampNeg = nI n := z
        rw [ck, g1] at z
        exact (nI_eq (by omega) hn).mp z
      · show nI _ + 0 = nI (zi_price wn wh ww n h (k + 1))
        rw [zi_price, if_neg (fun z => c1 z.1), show (0 : Int32) = nI 0 from rfl, nI_add]
  · unfold fb_X9_unwanted_5
    exact pe_if (Int32.le_refl _) rfl
theorem zc_b01 (x : Bool) : nI (zc_b x) = if x = true then 1 else 0 := by cases x <;> rfl
theorem zc_b2 (x : Bool) : zc_b x < 2 := by cases x <;> decide
theorem zi_price0 (wn wh ww : Nat → Int32) (n h : Nat) : zi_price wn wh ww n h 0 = 0 := rfl
theorem zc_sum0 {f : Nat → Nat} (h : ∀ n, f n = 0) : ∀ k, zc_sum f k = 0
  | 0 => rfl
  | k + 1 => by rw [zc_sum, zc_sum0 h k, h k]
theorem zi_cost8 {m a j w : Nat} {ag wn wh ww : Nat → Int32} (h1 : 1 ≤ m) (hm : m ≤ 14) (hw : w ≤ 12) (hag : ∀ n h, n < 56 → h < 2 → ag (h * 56 + n) = nI (zi_price wn wh ww n h w)) (pl : Int64) (hpl : ∀ i, 56 ≤ i → zb_tb pl i = false) : fn_X7_costOf (nI m) (nI a) (nI j) (nI w) ag pl = some (nI (zc_cost m a j (fun n h => zi_price wn wh ww n h w) (zb_tb pl) 56), ()) := by
  obtain ⟨o1, e1, b1⟩ := zi_handings pl
  obtain ⟨o2, e2, b2⟩ := zi_behind pl h1 hm
  have c1 : zb_ct (zb_tb o1) 64 = zb_ct (zc_h (zb_tb pl)) 56 := by
    rw [zb_ct_cut (fun i hi => by rw [b1, show decide (i < 56) = false by simp; omega]; rfl)]
    exact zb_ct_cong (fun i hi => by rw [b1]; simp [hi])
  have c2 : zb_ct (zb_tb o2) 64 = zb_ct (zc_long (zb_tb pl) m) 56 := by
    rw [zb_ct_cut (fun i hi => by rw [b2, show decide (i < 56) = false by simp; omega]; rfl)]
    exact zb_ct_cong (fun i hi => by rw [b2]; simp [hi])
  have e0 : nI j * nI (zb_ct (zb_tb o1) 64) + nI a * nI (zb_ct (zb_tb o2) 64) = nI (j * zb_ct (zc_h (zb_tb pl)) 56 + a * zb_ct (zc_long (zb_tb pl) m) 56) := by
    rw [c1, c2, pk_mul, pk_mul, nI_add]
  unfold fn_X7_costOf
  refine pe_b2 e1 (pe_b2 (zb_bc o1) (pe_b2 e2 (pe_b2 (zb_bc o2) (pe_nm e0 ?_))))
  by_cases c0 : w = 0
  · subst c0
    refine pe_if rfl ?_
    unfold zc_cost
    rw [zc_sum0 (fun n => zi_price0 wn wh ww n _)]; rfl
  · refine pe_ifn (fun z => c0 ((nI_eq (b := 0) (by omega) (by decide)).mp z)) (pe_b1 (pe_itE (fun k => (nI (j * zb_ct (zc_h (zb_tb pl)) 56 + a * zb_ct (zc_long (zb_tb pl) m) 56 + zc_sum (fun n => zi_price wn wh ww n (zc_b (zb_tb pl n)) w) k), nI k)) 56 rfl ?_ ?_ (by decide)) rfl)
    · intro k hk
      unfold fb_X7_costOf_42
      refine pe_ifn (nI_ge (b := 56) hk (by decide)) (pe_b2 (zi_houseAt pl (by omega)) (pe_b2 (a1 := nI (zi_price wn wh ww k (zc_b (zb_tb pl k)) w)) (a2 := ()) ?_ (pe_nm ?_ (pe_nm (nI_1 k) rfl))))
      · rw [← zc_b01]; exact zi_priceOf hk (zc_b2 _) (hag _ _ hk (zc_b2 _))
      · rw [nI_add, zc_sum]; exact congrArg nI (by omega)
    · unfold fb_X7_costOf_42
      exact pe_if (Int32.le_refl _) rfl
