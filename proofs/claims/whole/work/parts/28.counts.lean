/-! counts -/
/-- the longest run of a house among the first nights -/
def zq_L (p : Nat → Bool) (v : Bool) : Nat → Nat
  | 0 => 0
  | n + 1 => if p n = v ∧ zq_L p v n < zc_R p (n + 1) then zc_R p (n + 1) else zq_L p v n
theorem zq_L_le (p : Nat → Bool) (v : Bool) (k : Nat) : ∀ n, zq_L p v n ≤ k ↔ ∀ i, i < n → p i = v → zc_R p (i + 1) ≤ k
  | 0 => ⟨fun _ i h => absurd h (Nat.not_lt_zero i), fun _ => Nat.zero_le k⟩
  | n + 1 => by
    have ih := zq_L_le p v k n
    rw [zq_L]
    constructor
    · intro h i hi hv
      rcases Nat.lt_or_ge i n with q | q
      · refine ih.mp ?_ i q hv
        split at h
        · omega
        · exact h
      · have : i = n := by omega
        subst this
        split at h
        · exact h
        · next h2 =>
          have : ¬ zq_L p v i < zc_R p (i + 1) := fun e => h2 ⟨hv, e⟩
          omega
    · intro h
      split
      · next h2 => exact h n (by omega) h2.1
      · exact ih.mpr (fun i hi => h i (by omega))
theorem zq_L_n (p : Nat → Bool) (v : Bool) (n : Nat) : zq_L p v n ≤ n := (zq_L_le p v n n).mpr (fun i hi _ => Nat.le_trans (zc_R_le p (i + 1)) (by omega))
def zq_E (x : Int64) : Nat → Int64
  | 0 => x
  | k + 1 => zq_E x k &&& (zq_E x k <<< ((1 : Int32).toInt64 &&& 63))
theorem zq_Eb {x : Int64} {p : Nat → Bool} {v : Bool} (hx : ∀ i, zb_tb x i = (decide (i < 56) && (p i == v))) : ∀ k i, zb_tb (zq_E x k) i = (decide (i < 56) && (p i == v) && decide (k < zc_R p (i + 1)))
  | 0, i => by
    have h := (zc_R_run p i 0).mpr ⟨Nat.zero_le _, fun j hj => by rw [show i - j = i by omega]⟩
    show zb_tb x i = _
    rw [hx]; simp [h]
  | k + 1, i => by
    rw [zq_E, zb_and, zq_Eb hx k i, show (1 : Int32) = nI 1 from rfl, zb_shl _ (by decide), zq_Eb hx k (i - 1), Bool.eq_iff_iff]
    rcases Nat.eq_zero_or_pos i with h | h
    · subst h
      have : zc_R p 1 ≤ 1 := zc_R_le p 1
      simp
      omega
    · have e : i - 1 + 1 = i := by omega
      rw [e, show zc_R p (i + 1) = if zc_h p i = true then 1 else zc_R p i + 1 from rfl]
      have e2 : zc_h p i = (p i ^^ p (i - 1)) := by unfold zc_h; simp [h]
      rw [e2]
      by_cases q : p i = p (i - 1)
      · have q2 : (p i ^^ p (i - 1)) = false := by rw [q]; simp
        rw [q2, ← q]
        by_cases h56 : i < 56
        · by_cases hv : p i = v
          · have a1 : i < 64 := by omega
            have a2 : ¬ i < 1 := by omega
            have a3 : i - 1 < 56 := by omega
            simp [h56, hv, a1, a2, a3]
            omega
          · simp [hv]
        · simp [h56]
      · have q2 : (p i ^^ p (i - 1)) = true := by
          cases a : p i <;> cases b : p (i - 1) <;> simp_all
        rw [q2]
        by_cases hv : p i = v
        · have hv' : ¬ p (i - 1) = v := fun e => q (hv.trans e.symm)
          simp [hv']
        · simp [hv]
theorem zi_row {x : Int64} {p : Nat → Bool} {v : Bool} (hx : ∀ i, zb_tb x i = (decide (i < 56) && (p i == v))) : fn_X1_longestRow x = some (nI (zq_L p v 56), ()) := by
  have hL := zq_L_n p v 56
  unfold fn_X1_longestRow
  refine pe_b1 (pe_itE (fun k => (zq_E x k, nI k)) (zq_L p v 56) rfl ?_ ?_ (by omega)) rfl
  · intro k hk
    unfold fb_X1_longestRow_5
    refine pe_ifn (nI_ge (b := 56) (by omega) (by decide)) (pe_ifn ?_ (pe_nm (nI_1 k) (pe_nm rfl rfl)))
    intro hz
    have hz' : zq_E x k = 0 := (zi_cmp_eq _ _).mp hz
    have : zq_L p v 56 ≤ k := (zq_L_le p v k 56).mpr (fun i hi hv => by
      have b := zq_Eb hx k i
      rw [hz', zb_0] at b
      simp [hi, hv] at b
      exact b)
    omega
  · unfold fb_X1_longestRow_5
    rcases Nat.lt_or_ge (zq_L p v 56) 56 with q | q
    · refine pe_ifn (nI_ge (b := 56) q (by decide)) (pe_if ((zi_cmp_eq _ _).mpr ?_) rfl)
      refine zb_ext (fun i _ => ?_)
      show zb_tb (zq_E x (zq_L p v 56)) i = _
      rw [zb_0, zq_Eb hx]
      by_cases h1 : i < 56
      · by_cases h2 : p i = v
        · have := (zq_L_le p v (zq_L p v 56) 56).mp (Nat.le_refl _) i h1 h2
          simp [h1, h2]; exact this
        · simp [h2]
      · simp [h1]
    · exact pe_if (nI_le (a := 56) q (by omega)) rfl
theorem zi_atHouse (P : Int64) (v : Bool) (c : Int32) (hc : c = if v = true then 1 else 0) : ∃ x, fn_X1_atHouse P c = some (x, ()) ∧ ∀ i, zb_tb x i = (decide (i < 56) && (zb_tb P i == v)) := by
  subst hc
  unfold fn_X1_atHouse
  cases v
  · refine ⟨_, pe_if rfl rfl, fun i => ?_⟩
    rw [zb_and, zb_ALL]
    by_cases h : i < 56
    · rw [zb_not _ (by omega)]; simp [h]
    · simp [h]
  · refine ⟨_, pe_ifn (by decide) rfl, fun i => ?_⟩
    rw [zb_and, zb_ALL]; simp
theorem zi_counts9 {mpl : Nat → Int32} {p : Nat → Bool} (hp : ∀ i, i < 56 → mpl i = if p i = true then 1 else 0) : zz_it (fun z => fb_X9_counts_16 mpl z.1 z.2.1 z.2.2.1 z.2.2.2.1 z.2.2.2.2.1 z.2.2.2.2.2) zz_fuel (0, 0, 0, 0, 0, 0) = some (nI (zb_ct p 56), nI (zb_ct (zc_h p) 56), nI (zq_L p false 56), nI (zq_L p true 56)) := by
  refine pe_itE (fun k => (nI (zb_ct p k), nI (zb_ct (zc_h p) k), nI (zc_R p k), nI (zq_L p false k), nI (zq_L p true k), nI k)) 56 rfl ?_ ?_ (by decide)
  · intro k hk
    unfold fb_X9_counts_16
    have ck : (nI k).toNatClampNeg = k := nI_clamp (by omega)
    have hR := zc_R_le p (k + 1)
    have hm : mpl (nI k).toNatClampNeg = if p k = true then 1 else 0 := by rw [ck]; exact hp k hk
    have hL0 := zq_L_n p false k
    have hL1 := zq_L_n p true k
    have r1 : (if nI (zc_b (zc_h p k)) = 0 then some (nI (zc_R p k) + 1) else some 1) = some (nI (zc_R p (k + 1))) := by
      cases h : zc_h p k
      · refine pe_if rfl ?_
        rw [nI_1, zc_R, h]; rfl
      · refine pe_ifn (by decide) ?_
        rw [zc_R, h]; rfl
    have r2 : (if nI (zc_b (zc_h p k)) = 0 then some (0 : Int32) else some 1) = some (nI (zc_b (zc_h p k))) := by
      cases h : zc_h p k
      · exact pe_if rfl rfl
      · exact pe_ifn (by decide) rfl
    refine pe_ifn (nI_ge (b := 56) hk (by decide)) (pe_chk hk (by decide) (pe_nm (x := nI (zb_ct p (k + 1))) ?_ (pe_b1 (zi_hands hp hk) (pe_b1 r2 (pe_nm (nI_add _ _) (pe_b1 r1 (pe_chk hk (by decide) (pe_b1 (a1 := nI (zq_L p false (k + 1))) ?_ (pe_chk hk (by decide) ?_)))))))))
    · show nI (zb_ct p k) + mpl (nI k).toNatClampNeg = _
      rw [hm, ← zc_b01, nI_add]; rfl
    · show (if mpl (nI k).toNatClampNeg = 0 then _ else _) = _
      rw [hm, zq_L]
      cases q : p k
      · by_cases h : zq_L p false k < zc_R p (k + 1)
        · rw [if_pos (c := false = false ∧ zq_L p false k < zc_R p (k + 1)) ⟨rfl, h⟩]
          exact pe_if rfl (pe_ifn (nI_ge h (by omega)) rfl)
        · rw [if_neg (c := false = false ∧ zq_L p false k < zc_R p (k + 1)) (fun e => h e.2)]
          exact pe_if rfl (pe_if (nI_le (by omega) (by omega)) rfl)
      · rw [if_neg (c := true = false ∧ _) (fun e => Bool.noConfusion e.1)]
        exact pe_ifn (by decide) rfl
    · show (if mpl (nI k).toNatClampNeg = 1 then _ else _) = _
      rw [hm]
      show _ = some (Sum.inl (_, _, _, _, nI (zq_L p true (k + 1)), _))
      rw [show zq_L p true (k + 1) = if p k = true ∧ zq_L p true k < zc_R p (k + 1) then zc_R p (k + 1) else zq_L p true k from rfl]
      cases q : p k
      · rw [if_neg (c := false = true ∧ _) (fun e => Bool.noConfusion e.1)]
        exact pe_ifn (by decide) (pe_nm (nI_1 k) rfl)
      · by_cases h : zq_L p true k < zc_R p (k + 1)
        · rw [if_pos (c := true = true ∧ zq_L p true k < zc_R p (k + 1)) ⟨rfl, h⟩]
          exact pe_if rfl (pe_ifn (nI_ge h (by omega)) (pe_nm (nI_1 k) rfl))
        · rw [if_neg (c := true = true ∧ zq_L p true k < zc_R p (k + 1)) (fun e => h e.2)]
          exact pe_if rfl (pe_if (nI_le (by omega) (by omega)) (pe_nm (nI_1 k) rfl))
  · unfold fb_X9_counts_16
    exact pe_if (Int32.le_refl _) rfl
theorem pf_counts {P : Int64} {mpl : Nat → Int32} (hL : zi_plan P mpl 0) (p1 : Int32) : ∃ r, fn_X8_counts P p1 = some (r, ()) ∧ fn_X9_counts mpl p1 = some (r, ()) := by
  have h9 := zi_counts9 (mpl := mpl) (p := zb_tb P) (fun i hi => zi_planD hL hi)
  obtain ⟨x0, e0, b0⟩ := zi_atHouse P false 0 rfl
  obtain ⟨x1, e1, b1⟩ := zi_atHouse P true 1 rfl
  obtain ⟨xh, eh, bh⟩ := zi_handings P
  have c56 : ∀ {x : Int64} {q : Nat → Bool}, (∀ i, zb_tb x i = (decide (i < 56) && q i)) → zb_ct (zb_tb x) 64 = zb_ct q 56 := by
    intro x q h
    rw [zb_ct_cut (fun i hi => by rw [h, show decide (i < 56) = false by simp; omega]; rfl)]
    exact zb_ct_cong (fun i hi => by rw [h]; simp [hi])
  unfold fn_X8_counts fn_X9_counts
  by_cases q0 : p1 = 0
  · refine ⟨_, pe_if q0 (pe_b2 e0 (pe_b2 (zb_bc x0) rfl)), pe_b4 h9 (pe_if q0 ?_)⟩
    rw [c56 b0]
    have := zb_ct_not (zb_tb P) 56
    have e : zb_ct (fun i => zb_tb P i == false) 56 = zb_ct (fun i => !zb_tb P i) 56 := zb_ct_cong (fun i _ => by simp)
    rw [e, show (56 : Int32) = nI 56 from rfl, pk_sub (by omega)]
    congr 3; omega
  · by_cases q1 : p1 = 1
    · refine ⟨_, pe_ifn q0 (pe_if q1 (pe_b2 e1 (pe_b2 (zb_bc x1) rfl))), pe_b4 h9 (pe_ifn q0 (pe_if q1 ?_))⟩
      rw [c56 b1]
      have e : zb_ct (fun i => zb_tb P i == true) 56 = zb_ct (zb_tb P) 56 := zb_ct_cong (fun i _ => by simp)
      rw [e]
    · by_cases q2 : p1 = 2
      · refine ⟨_, pe_ifn q0 (pe_ifn q1 (pe_if q2 (pe_b2 eh (pe_b2 (zb_bc xh) rfl)))), pe_b4 h9 (pe_ifn q0 (pe_ifn q1 (pe_if q2 ?_)))⟩
        rw [c56 bh]
      · by_cases q3 : p1 = 3
        · exact ⟨_, pe_ifn q0 (pe_ifn q1 (pe_ifn q2 (pe_if q3 (pe_b2 e0 (pe_b2 (zi_row b0) rfl))))), pe_b4 h9 (pe_ifn q0 (pe_ifn q1 (pe_ifn q2 (pe_if q3 rfl))))⟩
        · by_cases q4 : p1 = 4
          · exact ⟨_, pe_ifn q0 (pe_ifn q1 (pe_ifn q2 (pe_ifn q3 (pe_if q4 (pe_b2 e1 (pe_b2 (zi_row b1) rfl)))))), pe_b4 h9 (pe_ifn q0 (pe_ifn q1 (pe_ifn q2 (pe_ifn q3 (pe_if q4 rfl)))))⟩
          · exact ⟨_, pe_ifn q0 (pe_ifn q1 (pe_ifn q2 (pe_ifn q3 (pe_ifn q4 rfl)))), pe_b4 h9 (pe_ifn q0 (pe_ifn q1 (pe_ifn q2 (pe_ifn q3 (pe_ifn q4 rfl)))))⟩
