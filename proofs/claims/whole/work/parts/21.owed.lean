/-! count, owed, even -/
theorem pf_count {y my size len mlen wa mw : Int32} {ranks turns byRank : Nat → Int32} {told ones : Nat → Int64} {mp mm : Nat → Int32} {P : Int64} {mpl : Nat → Int32} (hY : zi_year y my) (hP : zi_paper size ranks told ones turns byRank mp mm 0) (hL : zi_plan P mpl 0) (e1 : len = mlen) (e2 : wa = mw) (z o f : Int64) (w : Int32) (g : Nat → Int32) (p1 : Int32) : ∃ r o1 o2 o3 w1 w2, fn_X8_count y P size byRank ones ranks told turns z o f len wa p1 = some (r, o1, o2, o3) ∧ fn_X9_count mlen my w mw mm mp mpl g p1 = some (r, w1, w2) := by
  have e3 : size = mm 0 := by
    obtain ⟨n, -, a, b, -⟩ := hP
    rw [a, b]
  unfold fn_X8_count fn_X9_count
  obtain ⟨h, h4, ⟨x, Z, O, F, e, hx⟩, hl⟩ := pf_off hY hP hL
  obtain ⟨w', g', ew, hg⟩ := hl w g
  have hct : zb_ct (zb_tb x) 64 = zb_ct (zc_off h (zb_tb P)) 56 := by
    rw [zb_ct_cut (fun i hi => by rw [hx, show decide (i < 56) = false by simp; omega]; rfl)]
    exact zb_ct_cong (fun i hi => by rw [hx]; simp [hi])
  have hloop : zz_it (fun z => fb_X9_count_8 g' mpl z.1 z.2) zz_fuel (0, 0) = some (nI (zb_ct (zb_tb x) 64)) := by
    rw [hct]
    refine pe_itE (fun j => (nI (zb_ct (zc_off h (zb_tb P)) j), nI j)) 56 rfl ?_ ?_ (by decide)
    · intro j hj
      unfold fb_X9_count_8
      refine pe_ifn (nI_ge (b := 56) hj (by decide)) (pe_chk hj (by decide) (zi_offt h4 hj (hg j hj) (zi_planD hL hj) (fun q => pe_nm ?_ (pe_nm (nI_1 j) rfl)) (fun q => pe_nm ?_ (pe_nm (nI_1 j) rfl)) (fun q => pe_nm ?_ (pe_nm (nI_1 j) rfl))))
      · rw [zb_ct, q]; exact nI_add _ 0
      · rw [zb_ct, q]; exact nI_add _ 0
      · rw [zb_ct, q]; exact nI_1 _
    · unfold fb_X9_count_8
      exact pe_if (Int32.le_refl _) rfl
  by_cases c0 : p1 = 0
  · exact ⟨len, z, o, f, w', g', pe_if c0 rfl, pe_b2 ew (pe_b1 hloop (pe_if c0 (by rw [e1])))⟩
  · by_cases c1 : p1 = 1
    · refine ⟨size, z, o, f, w', g', pe_ifn c0 (pe_if c1 rfl), pe_b2 ew (pe_b1 hloop (pe_ifn c0 (pe_if c1 (pe_chk (i := 0) (by decide) (by decide) ?_))))⟩
      rw [e3]; rfl
    · by_cases c2 : p1 = 2
      · exact ⟨wa, z, o, f, w', g', pe_ifn c0 (pe_ifn c1 (pe_if c2 rfl)), pe_b2 ew (pe_b1 hloop (pe_ifn c0 (pe_ifn c1 (pe_if c2 (by rw [e2])))))⟩
      · by_cases c3 : p1 = 3
        · exact ⟨_, Z, O, F, w', g', pe_ifn c0 (pe_ifn c1 (pe_ifn c2 (pe_if c3 (pe_b4 e (pe_b2 (zb_bc x) rfl))))), pe_b2 ew (pe_b1 hloop (pe_ifn c0 (pe_ifn c1 (pe_ifn c2 (pe_if c3 rfl)))))⟩
        · exact ⟨-2, z, o, f, w', g', pe_ifn c0 (pe_ifn c1 (pe_ifn c2 (pe_ifn c3 rfl))), pe_b2 ew (pe_b1 hloop (pe_ifn c0 (pe_ifn c1 (pe_ifn c2 (pe_ifn c3 rfl)))))⟩
theorem zb_2 (j : Nat) : zb_tb 2 j = decide (j = 1) := by
  rw [zb_tb_N, show zb_N 2 = 2 ^ 1 by decide +kernel, Nat.testBit_two_pow, Bool.eq_iff_iff]
  simp [eq_comm]
theorem zi_upTo {k : Nat} (hk : k < 62) : ∃ u, fn_X1_upTo (nI k) = some (u, ()) ∧ ∀ i, zb_tb u i = decide (i ≤ k) := by
  refine ⟨_, rfl, fun i => ?_⟩
  have hN : zb_N ((2 : Int64) <<< ((nI k).toInt64 &&& 63)) = 2 ^ (k + 1) := by
    apply Nat.eq_of_testBit_eq
    intro j
    rw [← zb_tb_N, zb_shl _ (by omega), zb_2, Nat.testBit_two_pow, Bool.eq_iff_iff]
    simp
    omega
  have hp : 0 < 2 ^ (k + 1) := Nat.pow_pos (by decide)
  have h1 : zb_N 1 = 1 := by decide +kernel
  rw [zb_tb_N, zb_N_sub (by rw [h1, hN]; omega), hN, h1, Nat.testBit_two_pow_sub_one, Bool.eq_iff_iff]
  simp
  omega
theorem zb_ct_upto {q : Nat → Bool} {k : Nat} (hk : k < 64) : zb_ct (fun i => q i && decide (i ≤ k)) 64 = zb_ct q (k + 1) := by
  rw [show (64 : Nat) = (k + 1) + (63 - k) by omega, zb_ct_split]
  have e1 : zb_ct (fun i => q i && decide (i ≤ k)) (k + 1) = zb_ct q (k + 1) := zb_ct_cong (fun i hi => by simp; intro _; omega)
  have e2 : zb_ct (fun j => (fun i => q i && decide (i ≤ k)) (k + 1 + j)) (63 - k) = zb_ct (fun _ => false) (63 - k) := zb_ct_cong (fun j _ => by
    have : ¬ k + 1 + j ≤ k := by omega
    simp [this])
  have e3 : ∀ n, zb_ct (fun _ => false) n = 0 := by
    intro n
    induction n with
    | zero => rfl
    | succ n ih => rw [zb_ct, ih]; rfl
  rw [e1, e2, e3, Nat.add_zero]
/-- given by house 1, by house 0 -/
def zc_A (h : Nat → Nat) (p : Nat → Bool) (i : Nat) : Bool := decide (h i = 2) && !p i
def zc_B (h : Nat → Nat) (p : Nat → Bool) (i : Nat) : Bool := decide (h i = 1) && p i
def zc_D (h : Nat → Nat) (p : Nat → Bool) (k : Nat) : Int32 := nI (zb_ct (zc_A h p) k) - nI (zb_ct (zc_B h p) k)
theorem zc_D0 {h : Nat → Nat} {p : Nat → Bool} : zc_D h p 0 = 0 := (by decide : nI 0 - nI 0 = 0)
theorem zc_Ds {h : Nat → Nat} {p : Nat → Bool} {k : Nat} : zc_D h p (k + 1) = zc_D h p k + (if zc_A h p k = true then 1 else if zc_B h p k = true then -1 else 0) := by
  unfold zc_D
  rw [zb_ct, zb_ct]
  have hx : zc_A h p k = true → zc_B h p k = false := by
    unfold zc_A zc_B
    cases p k <;> simp
  cases a : zc_A h p k <;> cases b : zc_B h p k
  · simp
  · simp only [Bool.false_eq_true, if_false, if_true, Nat.add_zero, ← nI_1]
    rw [Int32.sub_eq_add_neg, Int32.sub_eq_add_neg, Int32.neg_add, Int32.sub_eq_add_neg, Int32.add_assoc]
  · simp only [Bool.false_eq_true, if_false, if_true, Nat.add_zero, ← nI_1]
    rw [Int32.sub_eq_add_neg, Int32.sub_eq_add_neg, Int32.add_assoc, Int32.add_assoc, Int32.add_comm 1]
  · rw [hx a] at b; cases b
theorem zi_owes {h : Nat → Nat} (h4 : ∀ i, h i < 4) {p : Nat → Bool} {g mpl : Nat → Int32} {k : Nat} (hk : k < 56) (hg : g k = nI (zw_of (h k))) (hp : mpl k = if p k = true then 1 else 0) : fn_X9_owes mpl g (nI k) = some (if zc_A h p k = true then 1 else if zc_B h p k = true then -1 else 0, ()) := by
  unfold fn_X9_owes
  have ck : (nI k).toNatClampNeg = k := nI_clamp (by omega)
  have h44 := h4 k
  have cs : h k = 0 ∨ h k = 1 ∨ h k = 2 ∨ h k = 3 := by omega
  refine pe_chk hk (by decide) ?_
  rw [ck, hg, hp]
  unfold zc_A zc_B
  rcases cs with c | c | c | c <;> rw [c]
  · exact pe_if (by decide) (by simp)
  · refine pe_ifn (by decide) (pe_chk hk (by decide) (pe_chk hk (by decide) ?_))
    cases q : p k
    · exact pe_if rfl (by simp)
    · exact pe_ifn (by decide) (pe_chk hk (by decide) (pe_ifn (by decide) (by simp)))
  · refine pe_ifn (by decide) (pe_chk hk (by decide) (pe_chk hk (by decide) ?_))
    cases q : p k
    · exact pe_ifn (by decide) (pe_chk hk (by decide) (pe_if rfl (by simp)))
    · exact pe_if rfl (by simp)
  · exact pe_if (by decide) (by simp)
theorem pf_among {y my size : Int32} {ranks turns byRank : Nat → Int32} {told ones : Nat → Int64} {mp mm : Nat → Int32} {P : Int64} {mpl : Nat → Int32} (hY : zi_year y my) (hP : zi_paper size ranks told ones turns byRank mp mm 0) (hL : zi_plan P mpl 0) : ∃ h : Nat → Nat, (∀ i, h i < 4) ∧ (∃ Z O F, ∀ k u, k < 56 → fn_X1_upTo (nI k) = some (u, ()) → fn_X8_owedAmong y P size byRank ones ranks told turns u = some (zc_D h (zb_tb P) (k + 1), Z, O, F)) ∧ ∀ w0 g0, ∃ w g, fn_X9_layWhose my w0 mm mp g0 = some (w, g) ∧ ∀ i, i < 56 → g i = nI (zw_of (h i)) := by
  obtain ⟨h, h4, ⟨Z, O, F, e, hb⟩, -, hl⟩ := pf_read hY hP
  refine ⟨h, h4, ⟨Z, O, F, fun k u hk eu => ?_⟩, hl⟩
  obtain ⟨u', eu', hu⟩ := zi_upTo (k := k) (by omega)
  have : u = u' := by
    have z := eu.symm.trans eu'
    exact congrArg Prod.fst (Option.some.inj z)
  subst this
  unfold fn_X8_owedAmong
  have c1 : zb_ct (zb_tb ((O &&& (P ^^^ (-1))) &&& u)) 64 = zb_ct (zc_A h (zb_tb P)) (k + 1) := by
    rw [← zb_ct_upto (q := zc_A h (zb_tb P)) (k := k) (by omega)]
    refine zb_ct_cong (fun i hi => ?_)
    rw [zb_and, zb_and, zb_not _ hi, hu]
    by_cases q : i < 56
    · rw [((hb i).1 q).2.1]; rfl
    · have : ¬ i ≤ k := by omega
      simp [this]
  have c2 : zb_ct (zb_tb ((Z &&& P) &&& u)) 64 = zb_ct (zc_B h (zb_tb P)) (k + 1) := by
    rw [← zb_ct_upto (q := zc_B h (zb_tb P)) (k := k) (by omega)]
    refine zb_ct_cong (fun i hi => ?_)
    rw [zb_and, zb_and, hu]
    by_cases q : i < 56
    · rw [((hb i).1 q).1]; rfl
    · have : ¬ i ≤ k := by omega
      simp [this]
  refine pe_b3 e (pe_b2 (zb_bc _) (pe_b2 (zb_bc _) ?_))
  rw [c1, c2]; rfl
theorem pf_owed {y my size : Int32} {ranks turns byRank : Nat → Int32} {told ones : Nat → Int64} {mp mm : Nat → Int32} {P : Int64} {mpl : Nat → Int32} (hY : zi_year y my) (hP : zi_paper size ranks told ones turns byRank mp mm 0) (hL : zi_plan P mpl 0) (z o f : Int64) (w : Int32) (g : Nat → Int32) (p1 : Int32) : ∃ r o1 o2 o3 w1 w2, fn_X8_owed y P size byRank ones ranks told turns z o f p1 = some (r, o1, o2, o3) ∧ fn_X9_owed my w mm mp mpl g p1 = some (r, w1, w2) := by
  unfold fn_X8_owed fn_X9_owed
  by_cases h1 : 0 ≤ p1.toInt ∧ p1.toInt ≤ 55
  · obtain ⟨k, hk, rfl⟩ := zi_rng (B := 55) h1.1 h1.2 (by decide)
    obtain ⟨h, h4, ⟨Z, O, F, ha⟩, hl⟩ := pf_among hY hP hL
    obtain ⟨w', g', ew, hg⟩ := hl w g
    obtain ⟨u, eu, -⟩ := zi_upTo (k := k) (by omega)
    refine ⟨zc_D h (zb_tb P) (k + 1) + 100, Z, O, F, w', g', pe_b2 (zi_night8 _) (pe_ifn (zi_i1 h1) (pe_b2 eu (pe_b4 (ha k u (by omega) eu) rfl))), pe_b2 (zi_night9 _) (pe_ifn (zi_i1 h1) (pe_b2 ew (pe_b1 (a1 := zc_D h (zb_tb P) (k + 1) + 100) (pe_itE (fun j => (zc_D h (zb_tb P) j + 100, nI j)) (k + 1) (by rw [zc_D0, Int32.zero_add]; rfl) ?_ ?_ (by omega)) rfl)))⟩
    · intro j hj
      unfold fb_X9_owed_18
      refine pe_ifn (nI_nlt (by omega) (by omega)) (pe_b2 (zi_owes h4 (by omega) (hg j (by omega)) (zi_planD hL (by omega))) (pe_nm ?_ (pe_nm (nI_1 j) rfl)))
      rw [zc_Ds, Int32.add_assoc, Int32.add_comm 100, ← Int32.add_assoc]
    · unfold fb_X9_owed_18
      exact pe_if (nI_lt (by omega) (by omega)) rfl
  · exact ⟨-1, z, o, f, w, g, pe_b2 (zi_night8 _) (pe_if (zi_i0 h1) rfl), pe_b2 (zi_night9 _) (pe_if (zi_i0 h1) rfl)⟩
/-- even from, of the first j nights -/
def zc_E (d : Nat → Int32) : Nat → Nat
  | 0 => 0
  | j + 1 => if d (j + 1) = 0 then zc_E d j else j + 1
theorem zc_Ep (d : Nat → Int32) : ∀ j, zc_E d j ≤ j ∧ (∀ n, zc_E d j ≤ n → n < j → d (n + 1) = 0) ∧ (0 < zc_E d j → ¬ d (zc_E d j) = 0)
  | 0 => ⟨Nat.le_refl _, fun n _ h => absurd h (Nat.not_lt_zero n), fun h => absurd h (Nat.lt_irrefl 0)⟩
  | j + 1 => by
    obtain ⟨a, b, c⟩ := zc_Ep d j
    rw [zc_E]
    by_cases q : d (j + 1) = 0
    · rw [if_pos q]
      refine ⟨by omega, fun n h1 h2 => ?_, c⟩
      rcases Nat.lt_or_ge n j with z | z
      · exact b n h1 z
      · rw [show n = j by omega]; exact q
    · rw [if_neg q]
      exact ⟨Nat.le_refl _, fun n h1 h2 => by omega, fun _ => q⟩
theorem pf_even {y my size : Int32} {ranks turns byRank : Nat → Int32} {told ones : Nat → Int64} {mp mm : Nat → Int32} {P : Int64} {mpl : Nat → Int32} (hY : zi_year y my) (hP : zi_paper size ranks told ones turns byRank mp mm 0) (hL : zi_plan P mpl 0) (z o f : Int64) (w : Int32) (g : Nat → Int32) : ∃ r o1 o2 o3 w1 w2, fn_X8_even y P size byRank ones ranks told turns z o f = some (r, o1, o2, o3) ∧ fn_X9_even my w mm mp mpl g = some (r, w1, w2) := by
  unfold fn_X8_even fn_X9_even
  obtain ⟨h, h4, ⟨Z, O, F, ha⟩, hl⟩ := pf_among hY hP hL
  obtain ⟨w', g', ew, hg⟩ := hl w g
  obtain ⟨d, hd⟩ : ∃ d, d = zc_D h (zb_tb P) := ⟨_, rfl⟩
  rw [← hd] at ha
  obtain ⟨E, hE⟩ : ∃ E, E = zc_E d 56 := ⟨_, rfl⟩
  obtain ⟨p1, p2, p3⟩ := zc_Ep d 56
  rw [← hE] at p1 p2 p3
  have m : zz_it (fun z => fb_X9_even_10 g' mpl z.1 z.2.1 z.2.2) zz_fuel (0, 0, 0) = some (nI E) := by
    rw [hE]
    refine pe_itE (fun j => (d j, nI (zc_E d j), nI j)) 56 (by rw [hd, zc_D0]; rfl) ?_ ?_ (by decide)
    · intro j hj
      unfold fb_X9_even_10
      have ed : d j + (if zc_A h (zb_tb P) j = true then 1 else if zc_B h (zb_tb P) j = true then -1 else 0) = d (j + 1) := by rw [hd]; exact zc_Ds.symm
      refine pe_ifn (nI_ge (b := 56) hj (by decide)) (pe_b2 (zi_owes h4 hj (hg j hj) (zi_planD hL hj)) (pe_nm ed ?_))
      by_cases q : d (j + 1) = 0
      · refine pe_if q (pe_nm (nI_1 j) ?_)
        rw [zc_E, if_pos q]
      · refine pe_ifn q (pe_nm (nI_1 j) (pe_nm (nI_1 j) ?_))
        rw [zc_E, if_neg q]
    · unfold fb_X9_even_10
      exact pe_if (Int32.le_refl _) rfl
  -- the class goes down
  have ups : ∀ k, k < 56 → ∃ u, fn_X1_upTo (nI k) = some (u, ()) := fun k hk => by
    obtain ⟨u, eu, -⟩ := zi_upTo (k := k) (by omega)
    exact ⟨u, eu⟩
  obtain ⟨st, hst⟩ : ∃ st : Nat → Int32 × Int32 × Int64 × Int64 × Int64, st = fun k => (if k = 0 then -9 else nI (56 - k), nI (56 - k) + (-1), if k = 0 then z else Z, if k = 0 then o else O, if k = 0 then f else F) := ⟨_, rfl⟩
  have hs0 : st 0 = (-9, 55, z, o, f) := by rw [hst]; rfl
  have hs1 : ∀ k, st (k + 1) = (nI (55 - k), nI (55 - k) + (-1), Z, O, F) := fun k => by
    rw [hst]
    show (if k + 1 = 0 then -9 else nI (56 - (k + 1)), nI (56 - (k + 1)) + (-1), if k + 1 = 0 then z else Z, if k + 1 = 0 then o else O, if k + 1 = 0 then f else F) = _
    rw [if_neg (Nat.succ_ne_zero k), if_neg (Nat.succ_ne_zero k), if_neg (Nat.succ_ne_zero k), if_neg (Nat.succ_ne_zero k), show 56 - (k + 1) = 55 - k by omega]
  have nt : ∀ k, k < 56 → nI (56 - k) + (-1) = nI (55 - k) := fun k hk => by rw [show 56 - k = (55 - k) + 1 by omega, pk_m1]
  have step : ∀ k, k < 56 - E → (fun z : Int32 × Int32 × Int64 × Int64 × Int64 => fb_X8_even_6 y P size byRank ones ranks told turns z.1 z.2.1 z.2.2.1 z.2.2.2.1 z.2.2.2.2) (st k) = some (.inl (st (k + 1))) := by
    intro k hk
    obtain ⟨u, eu⟩ := ups (55 - k) (by omega)
    rw [hs1, hst]
    show fb_X8_even_6 y P size byRank ones ranks told turns _ (nI (56 - k) + (-1)) _ _ _ = _
    unfold fb_X8_even_6
    rw [nt k (by omega)]
    refine pe_ifn (nI_pos (by omega)) (pe_b2 eu (pe_b4 (ha (55 - k) u (by omega) eu) (pe_if (p2 (55 - k) (by omega) (by omega)) (pe_nm rfl rfl))))
  by_cases e0 : E = 0
  · refine ⟨nI 0, Z, O, F, w', g', pe_mtl (t := (nI 0, Z, O, F)) (pe_itE st 56 hs0 (fun k hk => step k (by omega)) ?_ (by decide)) rfl, pe_b2 ew (pe_b1 m ?_)⟩
    · rw [hst]; rfl
    · rw [e0]; exact pe_ifn (by decide) rfl
  · have hl2 : (fun z : Int32 × Int32 × Int64 × Int64 × Int64 => fb_X8_even_6 y P size byRank ones ranks told turns z.1 z.2.1 z.2.2.1 z.2.2.2.1 z.2.2.2.2) (st (56 - E)) = some (.inr (.inr (if 56 - E = 0 then -9 else nI (56 - (56 - E)), Z, O, F))) := by
      obtain ⟨u, eu⟩ := ups (E - 1) (by omega)
      rw [hst]
      show fb_X8_even_6 y P size byRank ones ranks told turns _ (nI (56 - (56 - E)) + (-1)) _ _ _ = _
      unfold fb_X8_even_6
      rw [nt (56 - E) (by omega), show 55 - (56 - E) = E - 1 by omega]
      refine pe_ifn (nI_pos (by omega)) (pe_b2 eu (pe_b4 (ha (E - 1) u (by omega) eu) (pe_ifn ?_ rfl)))
      rw [show E - 1 + 1 = E by omega]; exact p3 (by omega)
    refine ⟨_, Z, O, F, w', g', pe_mtr (pe_itE st (56 - E) hs0 step hl2 (by omega)), pe_b2 ew (pe_b1 m ?_)⟩
    by_cases e56 : E = 56
    · rw [e56]; exact pe_if rfl rfl
    · refine pe_ifn (fun q => e56 ((nI_eq (b := 56) (by omega) (by decide)).mp q)) ?_
      rw [if_neg (by omega), show 56 - (56 - E) = E by omega]
