/-! near, brief -/
def zn_K (st i : Nat) : Nat := (55 - i) / st + 1
def zn_o (p : Nat → Bool) (st i k : Nat) : Nat := zb_ct (fun j => p (i + j * st)) k
def zn_z (p : Nat → Bool) (st i k : Nat) : Nat := zb_ct (fun j => !p (i + j * st)) k
def zn_m (p : Nat → Bool) (st i : Nat) : Nat := min (zn_z p st i (zn_K st i)) (zn_o p st i (zn_K st i))
def zn_v (p : Nat → Bool) (w : Nat) : Nat := zc_sum (zn_m p (7 * w)) (7 * w)
theorem zn_Kb {st i : Nat} (hs : 1 ≤ st) (hi : i < 56) : (∀ k, k < zn_K st i → i + k * st < 56) ∧ 56 ≤ i + zn_K st i * st ∧ zn_K st i ≤ 56 := by
  unfold zn_K
  have hd : (55 - i) / st ≤ 55 - i := Nat.div_le_self _ _
  have hm := Nat.div_add_mod (55 - i) st
  have hl := Nat.mod_lt (55 - i) (show 0 < st by omega)
  refine ⟨fun k hk => ?_, ?_, by omega⟩
  · have : k * st ≤ (55 - i) / st * st := Nat.mul_le_mul_right st (by omega)
    have h2 : (55 - i) / st * st ≤ 55 - i := Nat.div_mul_le_self _ _
    omega
  · rw [Nat.add_mul, Nat.one_mul, Nat.mul_comm]
    omega
theorem zn_le (p : Nat → Bool) {st i : Nat} (hs : 1 ≤ st) (hi : i < 56) : zn_o p st i (zn_K st i) ≤ 56 ∧ zn_z p st i (zn_K st i) ≤ 56 := by
  have h := (zn_Kb hs hi).2.2
  have a := zb_ct_le (fun j => p (i + j * st)) (zn_K st i)
  have b := zb_ct_le (fun j => !p (i + j * st)) (zn_K st i)
  exact ⟨Nat.le_trans a h, Nat.le_trans b h⟩
theorem zi_near8 (P : Int64) {w : Nat} (h1 : 1 ≤ w) (h8 : w ≤ 8) : fn_X8_offWeeks P (nI w) = some (nI (zn_v (zb_tb P) w), ()) := by
  unfold fn_X8_offWeeks
  have e : (if nI w < 1 then 1 else nI w) * 7 = nI (7 * w) := by
    rw [if_neg (show ¬ nI w < 1 from nI_nlt (b := 1) h1 (by omega)), show (7 : Int32) = nI 7 from rfl, pk_mul, Nat.mul_comm]
  refine pe_nm e (pe_b1 (pe_itE (fun i => (nI (zc_sum (zn_m (zb_tb P) (7 * w)) i), nI i)) (7 * w) rfl ?_ ?_ (by omega)) rfl)
  · intro i hi
    unfold fb_X8_offWeeks_14
    have hi56 : i < 56 := by omega
    obtain ⟨k1, k2, k3⟩ := zn_Kb (st := 7 * w) (by omega) hi56
    obtain ⟨l1, l2⟩ := zn_le (zb_tb P) (st := 7 * w) (by omega) hi56
    refine pe_ifn (nI_ge hi (by omega)) (pe_ifn (nI_ge (b := 56) hi56 (by decide)) (pe_b2 (a1 := nI (zn_z (zb_tb P) (7 * w) i (zn_K (7 * w) i))) (a2 := nI (zn_o (zb_tb P) (7 * w) i (zn_K (7 * w) i))) (pe_itE (fun k => (nI (zn_z (zb_tb P) (7 * w) i k), nI (zn_o (zb_tb P) (7 * w) i k), nI (i + k * (7 * w)))) (zn_K (7 * w) i) (by rw [Nat.zero_mul]; rfl) ?_ ?_ (by omega)) (pe_nm ?_ (pe_nm (nI_1 i) rfl))))
    · intro k hk
      unfold fb_X8_offWeeks_37
      have b := k1 k hk
      have en : nI (i + k * (7 * w)) + nI (7 * w) = nI (i + (k + 1) * (7 * w)) := by rw [nI_add, Nat.add_mul, Nat.one_mul, Nat.add_assoc]
      refine pe_ifn (nI_ge (b := 56) b (by decide)) (pe_b2 (zi_houseAt P (by omega)) ?_)
      cases q : zb_tb P (i + k * (7 * w))
      · refine pe_if rfl (pe_nm (nI_1 _) (pe_nm en ?_))
        unfold zn_z zn_o
        rw [zb_ct, zb_ct, q]; rfl
      · refine pe_ifn (by decide) (pe_nm (nI_1 _) (pe_nm en ?_))
        unfold zn_z zn_o
        rw [zb_ct, zb_ct, q]; rfl
    · unfold fb_X8_offWeeks_37
      refine pe_if ?_ rfl
      have := Nat.mul_le_mul k3 (show 7 * w ≤ 56 by omega)
      exact nI_le (a := 56) k2 (by omega)
    · have : (if nI (zn_o (zb_tb P) (7 * w) i (zn_K (7 * w) i)) < nI (zn_z (zb_tb P) (7 * w) i (zn_K (7 * w) i)) then nI (zn_o (zb_tb P) (7 * w) i (zn_K (7 * w) i)) else nI (zn_z (zb_tb P) (7 * w) i (zn_K (7 * w) i))) = nI (zn_m (zb_tb P) (7 * w) i) := by
        unfold zn_m
        by_cases q : zn_o (zb_tb P) (7 * w) i (zn_K (7 * w) i) < zn_z (zb_tb P) (7 * w) i (zn_K (7 * w) i)
        · rw [if_pos (nI_lt q (by omega)), Nat.min_eq_right (by omega)]
        · rw [if_neg (nI_nlt (by omega) (by omega)), Nat.min_eq_left (by omega)]
      rw [this, nI_add, zc_sum]
  · unfold fb_X8_offWeeks_14
    exact pe_if (Int32.le_refl _) rfl
theorem zi_near9 {mpl : Nat → Int32} {p : Nat → Bool} (hp : ∀ i, i < 56 → mpl i = if p i = true then 1 else 0) {w : Nat} (h1 : 1 ≤ w) (h8 : w ≤ 8) : fn_X9_nearOf mpl (nI w) = some (nI (zn_v p w), ()) := by
  unfold fn_X9_nearOf
  have e7 : (7 : Int32) * nI w = nI (7 * w) := pk_mul 7 w
  refine pe_b1 (pe_itE (fun i => (nI (zc_sum (zn_m p (7 * w)) i), nI i)) (7 * w) rfl ?_ ?_ (by omega)) rfl
  · intro i hi
    unfold fb_X9_nearOf_4
    have hi56 : i < 56 := by omega
    obtain ⟨k1, k2, k3⟩ := zn_Kb (st := 7 * w) (by omega) hi56
    obtain ⟨l1, l2⟩ := zn_le p (st := 7 * w) (by omega) hi56
    refine pe_ifn (by rw [e7]; exact nI_ge hi (by omega)) (pe_b2 (a1 := nI (zn_z p (7 * w) i (zn_K (7 * w) i))) (a2 := nI (zn_o p (7 * w) i (zn_K (7 * w) i))) (pe_itE (fun k => (nI (zn_z p (7 * w) i k), nI (zn_o p (7 * w) i k), nI (i + k * (7 * w)))) (zn_K (7 * w) i) (by rw [Nat.zero_mul]; rfl) ?_ ?_ (by omega)) ?_)
    · intro k hk
      unfold fb_X9_nearOf_21
      have b := k1 k hk
      have en : nI (i + k * (7 * w)) + 7 * nI w = nI (i + (k + 1) * (7 * w)) := by rw [e7, nI_add, Nat.add_mul, Nat.one_mul, Nat.add_assoc]
      have hv : mpl (nI (i + k * (7 * w))).toNatClampNeg = if p (i + k * (7 * w)) = true then 1 else 0 := by rw [nI_clamp (by omega)]; exact hp _ b
      refine pe_ifn (nI_ge (b := 56) b (by decide)) (pe_chk b (by decide) ?_)
      rw [hv]
      cases q : p (i + k * (7 * w))
      · refine pe_b1 (a1 := 1) (pe_if rfl rfl) (pe_nm (nI_1 _) (pe_chk b (by decide) (pe_nm (nI_add _ 0) (pe_nm en ?_))))
        unfold zn_z zn_o
        rw [zb_ct, zb_ct, q]; rfl
      · refine pe_b1 (a1 := 0) (pe_ifn (by decide) rfl) (pe_nm (nI_add _ 0) (pe_chk b (by decide) (pe_nm (nI_1 _) (pe_nm en ?_))))
        unfold zn_z zn_o
        rw [zb_ct, zb_ct, q]; rfl
    · unfold fb_X9_nearOf_21
      refine pe_if ?_ rfl
      have := Nat.mul_le_mul k3 (show 7 * w ≤ 56 by omega)
      exact nI_le (a := 56) k2 (by omega)
    · by_cases q : zn_o p (7 * w) i (zn_K (7 * w) i) ≤ zn_z p (7 * w) i (zn_K (7 * w) i)
      · refine pe_if (nI_le q (by omega)) (pe_nm ?_ (pe_nm (nI_1 i) rfl))
        rw [nI_add, zc_sum, zn_m, Nat.min_eq_right q]
      · refine pe_ifn (nI_ge (by omega) (by omega)) (pe_nm ?_ (pe_nm (nI_1 i) rfl))
        rw [nI_add, zc_sum, zn_m, Nat.min_eq_left (by omega)]
  · unfold fb_X9_nearOf_4
    exact pe_if (by rw [e7]; exact Int32.le_refl _) rfl
theorem zn_v8 (p : Nat → Bool) : zn_v p 8 = 0 := by
  have key : ∀ n, n ≤ 56 → zc_sum (zn_m p (7 * 8)) n = 0 := by
    intro n
    induction n with
    | zero => intro _; rfl
    | succ n ih =>
      intro hn
      rw [zc_sum, ih (by omega), Nat.zero_add]
      have hK : zn_K (7 * 8) n = 1 := by
        unfold zn_K
        rw [Nat.div_eq_of_lt (by omega)]
      unfold zn_m zn_z zn_o
      rw [hK]
      show min (0 + (if (!p (n + 0 * (7 * 8))) = true then 1 else 0)) (0 + (if p (n + 0 * (7 * 8)) = true then 1 else 0)) = 0
      cases p (n + 0 * (7 * 8)) <;> rfl
  exact key 56 (Nat.le_refl _)
theorem zn_vb (p : Nat → Bool) {w : Nat} (h1 : 1 ≤ w) (h8 : w ≤ 8) : zn_v p w ≤ 56 * 56 := by
  have key : ∀ n, n ≤ 7 * w → zc_sum (zn_m p (7 * w)) n ≤ n * 56 := by
    intro n
    induction n with
    | zero => intro _; exact Nat.le_refl _
    | succ n ih =>
      intro hn
      rw [zc_sum]
      have := ih (by omega)
      have l := (zn_le p (st := 7 * w) (i := n) (by omega) (by omega)).1
      have m : zn_m p (7 * w) n ≤ zn_o p (7 * w) n (zn_K (7 * w) n) := Nat.min_le_right _ _
      omega
  have := key (7 * w) (Nat.le_refl _)
  unfold zn_v
  omega
theorem pf_near {P : Int64} {mpl : Nat → Int32} (hL : zi_plan P mpl 0) (p1 : Int32) : ∃ r, fn_X8_near P p1 = some (r, ()) ∧ fn_X9_near mpl p1 = some (r, ()) := by
  unfold fn_X8_near fn_X9_near
  by_cases h1 : 1 ≤ p1.toInt ∧ p1.toInt ≤ 8
  · obtain ⟨w, hw, rfl⟩ := zi_rng (B := 8) (by omega) h1.2 (by decide)
    have hw1 : 1 ≤ w := by have := h1.1; rw [nI_toInt (by omega)] at this; omega
    exact ⟨_, pe_ifn (nI_nlt (b := 1) hw1 (by omega)) (pe_if (nI_le (b := 8) hw (by decide)) (pe_b2 (zi_near8 P hw1 hw) rfl)), pe_b2 (zi_in _ (A := 1) (B := 8) (by decide) (by decide)) (pe_ifn (zi_i1 h1) (pe_b2 (zi_near9 (p := zb_tb P) (fun i hi => zi_planD hL hi) hw1 hw) rfl))⟩
  · refine ⟨-2, ?_, pe_b2 (zi_in _ (A := 1) (B := 8) (by decide) (by decide)) (pe_if (zi_i0 h1) rfl)⟩
    by_cases q : p1.toInt < 1
    · exact pe_if ((zi_ltc (by decide)).mpr q) rfl
    · exact pe_ifn (fun h => q ((zi_ltc (by decide)).mp h)) (pe_ifn (fun h => h1 ⟨by omega, (zi_lec (by decide)).mp h⟩) rfl)
theorem pf_brief {P : Int64} {mpl : Nat → Int32} (hL : zi_plan P mpl 0) (p1 : Int32) : ∃ r, fn_X8_brief P p1 = some (r, ()) ∧ fn_X9_brief mpl p1 = some (r, ()) := by
  unfold fn_X8_brief fn_X9_brief
  by_cases h1 : 0 ≤ p1.toInt ∧ p1.toInt ≤ 56
  · obtain ⟨x, hx, rfl⟩ := zi_rng (B := 56) h1.1 h1.2 (by decide)
    obtain ⟨N, hN, hmin⟩ := pk_least (fun k => 7 ≤ k ∨ zn_v (zb_tb P) (k + 1) ≤ x) ⟨7, Or.inl (Nat.le_refl _)⟩
    have hN7 : N ≤ 7 := by
      rcases Nat.lt_or_ge 7 N with q | q
      · exact absurd (Or.inl (Nat.le_refl _)) (hmin 7 q)
      · exact q
    have hv : zn_v (zb_tb P) (N + 1) ≤ x := by
      rcases hN with q | q
      · rw [show N + 1 = 8 by omega, zn_v8]; exact Nat.zero_le _
      · exact q
    have hgt : ∀ k, k < N → x < zn_v (zb_tb P) (k + 1) := fun k hk => by
      have := hmin k hk
      omega
    refine ⟨nI (N + 1), pe_ifn (nI_pos (by omega)) (pe_if (nI_le (b := 56) hx (by decide)) (pe_b1 (a1 := nI (N + 1)) (pe_itE (fun k => nI (k + 1)) N rfl ?_ ?_ (by omega)) rfl)), pe_b2 (zi_in _ (A := 0) (B := 56) (by decide) (by decide)) (pe_ifn (zi_i1 h1) (pe_b1 (a1 := nI (N + 1)) (pe_itE (fun k => nI (k + 1)) N rfl ?_ ?_ (by omega)) rfl))⟩
    · intro k hk
      unfold fb_X8_brief_15
      have vb := zn_vb (zb_tb P) (w := k + 1) (by omega) (by omega)
      exact pe_ifn (nI_ge (b := 8) (by omega) (by decide)) (pe_b2 (zi_near8 P (by omega) (by omega)) (pe_ifn (nI_ge (hgt k hk) (by omega)) (pe_nm (nI_1 _) rfl)))
    · unfold fb_X8_brief_15
      by_cases q : N = 7
      · subst q; exact pe_if (Int32.le_refl _) rfl
      · exact pe_ifn (nI_ge (b := 8) (by omega) (by decide)) (pe_b2 (zi_near8 P (by omega) (by omega)) (pe_if (nI_le hv (by omega)) rfl))
    · intro k hk
      unfold fb_X9_brief_17
      have vb := zn_vb (zb_tb P) (w := k + 1) (by omega) (by omega)
      exact pe_b2 (zi_near9 (p := zb_tb P) (fun i hi => zi_planD hL hi) (by omega) (by omega)) (pe_ifn (nI_ge (hgt k hk) (by omega)) (pe_nm (nI_1 _) rfl))
    · unfold fb_X9_brief_17
      exact pe_b2 (zi_near9 (p := zb_tb P) (fun i hi => zi_planD hL hi) (by omega) (by omega)) (pe_if (nI_le hv (by omega)) rfl)
  · refine ⟨-2, ?_, pe_b2 (zi_in _ (A := 0) (B := 56) (by decide) (by decide)) (pe_if (zi_i0 h1) rfl)⟩
    by_cases q : p1.toInt < 0
    · exact pe_if ((zi_ltc (by decide)).mpr q) rfl
    · exact pe_ifn (fun h => q ((zi_ltc (by decide)).mp h)) (pe_ifn (fun h => h1 ⟨by omega, (zi_lec (by decide)).mp h⟩) rfl)
