/-! the model's planner -/
def zs_A (K : zs_T) (g : Nat → Int32) (d : Nat) : Prop := ∀ d' b r, d' ≤ d → 1 ≤ r → r ≤ zs_m K + 1 → g (32 * (56 - d') + 16 * zc_b b + r) = nI (zs_V K d' b r)
/-- what the model asks of the paper and of the wishes -/
def zs_Q (K : zs_T) (W : Int32) (wh wn ww gw : Nat → Int32) (pm : Int32) : Prop := (∀ n h, n < 56 → fn_X9_mayBe gw (nI n) (nI (zc_b h)) pm = some (if zs_ok K n h = true then 1 else 0, ())) ∧ ∀ n h, n < 56 → fn_X9_unwanted W wh wn ww (nI n) (nI (zc_b h)) = some (nI (zs_pr K n (zc_b h)), ())
theorem zs_Fb {K : zs_T} (g : zs_G K) {d : Nat} (hd : d < 56) (h b : Bool) (r : Nat) : zs_F K (zs_V K d) d h b r < 2 ^ 30 := by
  have v := zs_Vb g d (by omega) h (zs_nw K b r h)
  obtain ⟨g1, g2, g3, g4, g5, g6⟩ := g
  have p := g5 (55 - d) (zc_b h)
  unfold zs_F
  split
  · have e1 : (if zs_hd b r h = true then zs_j K else 0) ≤ 9 := by split <;> omega
    have e2 : (if zs_m K < zs_nw K b r h then zs_a K else 0) ≤ 9 := by split <;> omega
    omega
  · omega
theorem zc_b_inj {x y : Bool} (h : nI (zc_b x) = nI (zc_b y)) : x = y := by
  cases x <;> cases y
  · rfl
  · exact absurd h (by decide)
  · exact absurd h (by decide)
  · rfl
theorem zs_from {K : zs_T} (gd : zs_G K) {W : Int32} {wh wn ww gw : Nat → Int32} {pm : Int32} (hQ : zs_Q K W wh wn ww gw pm) {g : Nat → Int32} {d : Nat} (hd : d < 56) (hA : zs_A K g d) (h b : Bool) {r : Nat} (hr : r ≤ zs_m K + 1) : fn_X9_from (nI (zs_m K)) (nI (zs_a K)) (nI (zs_j K)) W g wh wn ww gw (nI (55 - d)) (nI (zc_b h)) (nI (zc_b b)) (nI r) pm = some (nI (zs_F K (zs_V K d) d h b r), ()) := by
  have hm14 := gd.2.1
  obtain ⟨n1, n2⟩ := zs_nw_b (K := K) (b := b) (h := h) hr gd.1
  have hb2 := zc_b2 h
  unfold fn_X9_from
  refine pe_b2 (hQ.1 (55 - d) h (by omega)) ?_
  unfold zs_F
  by_cases ok : zs_ok K (55 - d) h = true
  · rw [if_pos ok, if_pos ok]
    have y7 : (if nI r ≤ 0 then some (0 : Int32) else (if nI (zc_b h) = nI (zc_b b) then some 0 else some 1)) = some (nI (zc_b (zs_hd b r h))) := by
      unfold zs_hd
      by_cases r0 : r = 0
      · subst r0
        exact pe_if (Int32.le_refl _) rfl
      · rw [show decide (0 < r) = true from decide_eq_true (by omega), Bool.true_and]
        refine pe_ifn (nI_nle (by omega) (by omega)) ?_
        by_cases c : h = b
        · exact pe_if (by rw [c]) (by rw [decide_eq_true c]; rfl)
        · exact pe_ifn (fun e => c (zc_b_inj e)) (by rw [decide_eq_false c]; rfl)
    have y12 : (if nI (zc_b (zs_hd b r h)) = 0 then (if nI r = 0 then some 1 else (if nI r ≤ nI (zs_m K) then some (nI r + 1) else some (nI r))) else some 1) = some (nI (zs_nw K b r h)) := by
      unfold zs_nw zs_hd
      by_cases r0 : r = 0
      · subst r0
        exact pe_if rfl (pe_if rfl rfl)
      · rw [show decide (0 < r) = true from decide_eq_true (by omega), Bool.true_and, if_neg r0]
        by_cases c : h = b
        · rw [if_pos c, decide_eq_true c]
          refine pe_if rfl (pe_ifn (nI_ne0 (by omega) (by omega)) ?_)
          by_cases c2 : zs_m K < r
          · rw [if_pos c2]; exact pe_ifn (nI_ge c2 (by omega)) rfl
          · rw [if_neg c2]; exact pe_if (nI_le (by omega) (by omega)) (by rw [nI_1])
        · rw [if_neg c, decide_eq_false c]
          exact pe_ifn (by decide) rfl
    have yi : (((32 * nI (55 - d)) + 32) + (16 * nI (zc_b h))) + nI (zs_nw K b r h) = nI (32 * (56 - d) + 16 * zc_b h + zs_nw K b r h) := by
      rw [show (32 : Int32) = nI 32 from rfl, show (16 : Int32) = nI 16 from rfl, pk_mul, pk_mul, nI_add, nI_add, nI_add]
      congr 1
      omega
    have bi : 32 * (56 - d) + 16 * zc_b h + zs_nw K b r h < 1824 := by omega
    refine pe_ifn (by decide) (pe_b1 y7 (pe_b1 y12 (pe_chkE yi bi (by decide) (pe_nm (x := nI (zs_V K d h (zs_nw K b r h))) ?_ (pe_b1 (a1 := nI (if zs_hd b r h = true then zs_j K else 0)) ?_ (pe_b1 (a1 := nI (if zs_m K < zs_nw K b r h then zs_a K else 0)) ?_ (pe_b2 (hQ.2 (55 - d) h (by omega)) ?_)))))))
    · rw [yi, nI_clamp (by omega)]
      exact hA d h _ (Nat.le_refl d) n1 n2
    · cases e : zs_hd b r h
      · exact pe_if rfl rfl
      · exact pe_ifn (by decide) rfl
    · by_cases c : zs_m K < zs_nw K b r h
      · rw [if_pos c]; exact pe_ifn (nI_ge c (by omega)) rfl
      · rw [if_neg c]; exact pe_if (nI_le (by omega) (by omega)) rfl
    · rw [nI_add, nI_add, nI_add]
  · rw [if_neg ok, if_neg ok]
    exact pe_if rfl rfl
def zs_as (K : zs_T) (d k : Nat) : Prop := if d = 55 then k = 0 else 1 ≤ k % 16 ∧ k % 16 ≤ zs_m K + 1
theorem zs_cell {K : zs_T} (gd : zs_G K) {W : Int32} {wh wn ww gw : Nat → Int32} {pm : Int32} (hQ : zs_Q K W wh wn ww gw pm) {g : Nat → Int32} {d : Nat} (hd : d < 56) (hA : zs_A K g d) {k : Nat} (hk : k < 32) : ∃ v, fb_X9_layBest_38 pm (nI (zs_m K)) (nI (zs_a K)) (nI (zs_j K)) W gw wh wn ww (nI (55 - d)) (nI k) g = some (.inl (nI (k + 1), upd g (32 * (55 - d) + k) v)) ∧ (zs_as K d k → v = nI (zs_V K (d + 1) (decide (k / 16 = 1)) (k % 16))) := by
  have hm14 := gd.2.1
  have yi : (32 * nI (55 - d)) + nI k = nI (32 * (55 - d) + k) := by
    rw [show (32 : Int32) = nI 32 from rfl, pk_mul, nI_add]
  have bi : 32 * (55 - d) + k < 1824 := by omega
  have yr : nI k - nI k / 16 * 16 = nI (k % 16) := zi_rem (d := 16) (by omega) (by decide) (by decide)
  have yd : nI k / 16 = nI (zc_b (decide (k / 16 = 1))) := by
    rw [show (16 : Int32) = nI 16 from rfl, pk_div (by omega) (by decide) (by decide)]
    congr 1
    have : k / 16 = 0 ∨ k / 16 = 1 := by omega
    rcases this with e | e <;> rw [e] <;> rfl
  have ya : ∃ x : Int32, (if nI (55 - d) = 0 then (if nI k = 0 then some 1 else some 0) else (if nI (k % 16) ≤ 0 then some 0 else (if (nI (zs_m K) + 1) < nI (k % 16) then some 0 else some 1))) = some x ∧ ((zs_as K d k ∧ x = 1) ∨ (¬ zs_as K d k ∧ x = 0)) := by
    unfold zs_as
    by_cases c : d = 55
    · rw [if_pos c]
      by_cases c2 : k = 0
      · exact ⟨1, pe_if (by rw [c]; rfl) (pe_if (by rw [c2]; rfl) rfl), Or.inl ⟨c2, rfl⟩⟩
      · exact ⟨0, pe_if (by rw [c]; rfl) (pe_ifn (nI_ne0 (by omega) (by omega)) rfl), Or.inr ⟨c2, rfl⟩⟩
    · rw [if_neg c]
      have n0 : ¬ nI (55 - d) = 0 := nI_ne0 (by omega) (by omega)
      by_cases c1 : k % 16 = 0
      · exact ⟨0, pe_ifn n0 (pe_if (by rw [c1]; exact Int32.le_refl _) rfl), Or.inr ⟨by omega, rfl⟩⟩
      · have n1 : ¬ nI (k % 16) ≤ 0 := nI_nle (by omega) (by omega)
        by_cases c2 : zs_m K + 1 < k % 16
        · exact ⟨0, pe_ifn n0 (pe_ifn n1 (pe_if (by rw [nI_1]; exact nI_lt c2 (by omega)) rfl)), Or.inr ⟨by omega, rfl⟩⟩
        · exact ⟨1, pe_ifn n0 (pe_ifn n1 (pe_ifn (by rw [nI_1]; exact nI_nlt (by omega) (by omega)) rfl)), Or.inl ⟨by omega, rfl⟩⟩
  obtain ⟨x, ex, hx⟩ := ya
  unfold fb_X9_layBest_38
  rcases hx with ⟨has, rfl⟩ | ⟨has, rfl⟩
  · have hr : k % 16 ≤ zs_m K + 1 := by
      unfold zs_as at has
      split at has
      · rw [has]; omega
      · exact has.2
    have f0 := zs_from gd hQ hd hA false (decide (k / 16 = 1)) hr
    have f1 := zs_from gd hQ hd hA true (decide (k / 16 = 1)) hr
    have l0 := zs_Fb gd hd false (decide (k / 16 = 1)) (k % 16)
    have l1 := zs_Fb gd hd true (decide (k / 16 = 1)) (k % 16)
    rw [← yd] at f0 f1
    have b0 : (if (1 : Int32) = 0 then some (1000000 : Int32) else zz_b2 (fn_X9_from (nI (zs_m K)) (nI (zs_a K)) (nI (zs_j K)) W g wh wn ww gw (nI (55 - d)) (0 : Int32) (nI k / 16) (nI (k % 16)) pm) (fun x457 u458 => some x457)) = some (nI (zs_F K (zs_V K d) d false (decide (k / 16 = 1)) (k % 16))) := pe_ifn (by decide) (pe_b2 f0 rfl)
    have b1 : (if (1 : Int32) = 0 then some (1000000 : Int32) else zz_b2 (fn_X9_from (nI (zs_m K)) (nI (zs_a K)) (nI (zs_j K)) W g wh wn ww gw (nI (55 - d)) (1 : Int32) (nI k / 16) (nI (k % 16)) pm) (fun x457 u458 => some x457)) = some (nI (zs_F K (zs_V K d) d true (decide (k / 16 = 1)) (k % 16))) := pe_ifn (by decide) (pe_b2 f1 rfl)
    by_cases c : zs_F K (zs_V K d) d true (decide (k / 16 = 1)) (k % 16) ≤ zs_F K (zs_V K d) d false (decide (k / 16 = 1)) (k % 16)
    · refine ⟨nI (zs_F K (zs_V K d) d true (decide (k / 16 = 1)) (k % 16)), pe_ifn (nI_ge (b := 32) hk (by decide)) (pe_nm yr (pe_b1 ex (pe_b1 b0 (pe_b1 b1 (pe_if (nI_le c (by omega)) (pe_chkE yi bi (by decide) (pe_nm (by rw [yi, nI_clamp (by omega)]) (pe_nm (nI_1 k) rfl)))))))), fun _ => ?_⟩
      rw [zs_V]
      congr 1
      split <;> omega
    · refine ⟨nI (zs_F K (zs_V K d) d false (decide (k / 16 = 1)) (k % 16)), pe_ifn (nI_ge (b := 32) hk (by decide)) (pe_nm yr (pe_b1 ex (pe_b1 b0 (pe_b1 b1 (pe_ifn (nI_ge (by omega) (by omega)) (pe_chkE yi bi (by decide) (pe_nm (by rw [yi, nI_clamp (by omega)]) (pe_nm (nI_1 k) rfl)))))))), fun _ => ?_⟩
      rw [zs_V, if_neg (by omega)]
  · exact ⟨1000000, pe_ifn (nI_ge (b := 32) hk (by decide)) (pe_nm yr (pe_b1 ex (pe_b1 (a1 := 1000000) (pe_if rfl rfl) (pe_b1 (a1 := 1000000) (pe_if rfl rfl) (pe_if (Int32.le_refl _) (pe_chkE yi bi (by decide) (pe_nm (by rw [yi, nI_clamp (by omega)]) (pe_nm (nI_1 k) rfl)))))))), fun h => absurd h has⟩
theorem zs_rowfill {K : zs_T} (gd : zs_G K) {W : Int32} {wh wn ww gw : Nat → Int32} {pm : Int32} (hQ : zs_Q K W wh wn ww gw pm) {g : Nat → Int32} {d : Nat} (hd : d < 56) (hA : zs_A K g d) : ∃ g', zz_it (fun z => fb_X9_layBest_38 pm (nI (zs_m K)) (nI (zs_a K)) (nI (zs_j K)) W gw wh wn ww (nI (55 - d)) z.1 z.2) zz_fuel (0, g) = some g' ∧ zs_A K g' d ∧ ∀ k, k < 32 → zs_as K d k → g' (32 * (55 - d) + k) = nI (zs_V K (d + 1) (decide (k / 16 = 1)) (k % 16)) := by
  have hm14 := gd.2.1
  refine pe_itI (fun k st => ∃ g', st = (nI k, g') ∧ zs_A K g' d ∧ ∀ k', k' < k → zs_as K d k' → g' (32 * (55 - d) + k') = nI (zs_V K (d + 1) (decide (k' / 16 = 1)) (k' % 16))) 32 (fun g' => zs_A K g' d ∧ ∀ k, k < 32 → zs_as K d k → g' (32 * (55 - d) + k) = nI (zs_V K (d + 1) (decide (k / 16 = 1)) (k % 16))) ⟨g, rfl, hA, fun k h => absurd h (Nat.not_lt_zero k)⟩ ?_ ?_ (by decide)
  · intro k st hk ⟨g', e, hA', hk'⟩
    subst e
    obtain ⟨v, ev, hv⟩ := zs_cell gd hQ hd hA' hk
    refine ⟨_, ev, _, rfl, fun d' b r h1 h2 h3 => ?_, fun k' h1 h2 => ?_⟩
    · have := zc_b2 b
      rw [pk_un (by omega)]
      exact hA' d' b r h1 h2 h3
    · by_cases e : k' = k
      · subst e; rw [pk_us]; exact hv h2
      · rw [pk_un (by omega)]; exact hk' k' (by omega) h2
  · intro st ⟨g', e, hA', hk'⟩
    subst e
    refine ⟨g', ?_, hA', hk'⟩
    show fb_X9_layBest_38 _ _ _ _ _ _ _ _ _ _ (nI 32) g' = _
    unfold fb_X9_layBest_38
    exact pe_if (Int32.le_refl _) rfl
theorem zs_table {K : zs_T} (gd : zs_G K) {W : Int32} {wh wn ww gw : Nat → Int32} {pm : Int32} (hQ : zs_Q K W wh wn ww gw pm) {g : Nat → Int32} (hA : zs_A K g 0) : ∃ g', zz_it (fun z => fb_X9_layBest_32 pm (nI (zs_m K)) (nI (zs_a K)) (nI (zs_j K)) W gw wh wn ww z.1 z.2) zz_fuel (55, g) = some g' ∧ zs_A K g' 55 ∧ g' 0 = nI (zs_V K 56 false 0) := by
  have hm14 := gd.2.1
  refine pe_itI (fun d st => ∃ g', st = ((if d = 56 then -1 else nI (55 - d)), g') ∧ (d ≤ 55 → zs_A K g' d) ∧ (d = 56 → zs_A K g' 55 ∧ g' 0 = nI (zs_V K 56 false 0))) 56 (fun g' => zs_A K g' 55 ∧ g' 0 = nI (zs_V K 56 false 0)) ⟨g, rfl, fun _ => hA, fun h => absurd h (by decide)⟩ ?_ ?_ (by decide)
  · intro d st hd ⟨g', e, hA', _⟩
    rw [if_neg (by omega)] at e
    subst e
    obtain ⟨g2, eg, hA2, hk⟩ := zs_rowfill gd hQ hd (hA' (by omega))
    refine ⟨((if d + 1 = 56 then -1 else nI (55 - (d + 1))), g2), ?_, g2, rfl, fun h => ?_, fun h => ?_⟩
    · show fb_X9_layBest_32 _ _ _ _ _ _ _ _ _ (nI (55 - d)) g' = _
      unfold fb_X9_layBest_32
      refine pe_ifn (nI_pos (by omega)) (pe_b1 eg (pe_nm ?_ rfl))
      by_cases c : d = 55
      · rw [c]; rfl
      · rw [if_neg (by omega), show 55 - d = (55 - (d + 1)) + 1 by omega, pk_m1]
    · intro d' b r h1 h2 h3
      by_cases e : d' = d + 1
      · subst e
        have hb := zc_b2 b
        have e1 : (16 * zc_b b + r) % 16 = r := by omega
        have e2 : (16 * zc_b b + r) / 16 = zc_b b := by omega
        have := hk (16 * zc_b b + r) (by omega) (by unfold zs_as; rw [if_neg (by omega), e1]; exact ⟨h2, h3⟩)
        rw [e1, e2] at this
        rw [show 32 * (56 - (d + 1)) + 16 * zc_b b + r = 32 * (55 - d) + (16 * zc_b b + r) by omega, this]
        cases b <;> rfl
      · exact hA2 d' b r (by omega) h2 h3
    · have e : d = 55 := by omega
      subst e
      exact ⟨hA2, hk 0 (by decide) (by unfold zs_as; rw [if_pos rfl])⟩
  · intro st ⟨g', e, _, h⟩
    rw [if_pos rfl] at e
    subst e
    refine ⟨g', ?_, h rfl⟩
    show fb_X9_layBest_32 _ _ _ _ _ _ _ _ _ (-1) g' = _
    unfold fb_X9_layBest_32
    exact pe_if (by decide) rfl
theorem zs_walk {K : zs_T} (gd : zs_G K) {W : Int32} {wh wn ww gw : Nat → Int32} {pm : Int32} (hQ : zs_Q K W wh wn ww gw pm) {g : Nat → Int32} (hA : zs_A K g 55) (h0 : g 0 = nI (zs_V K 56 false 0)) (be : Nat → Int32) : ∃ be', zz_it (fun z => fb_X9_layBest_183 pm (nI (zs_m K)) (nI (zs_a K)) (nI (zs_j K)) W gw wh wn ww g z.1 z.2.1 z.2.2.1 z.2.2.2) zz_fuel (0, 0, 0, be) = some be' ∧ ∀ i, i < 56 → be' i = if zs_P K 56 false 0 i = true then 1 else 0 := by
  have hm14 := gd.2.1
  refine pe_itI (fun n st => ∃ (b : Bool) (r : Nat) (be' : Nat → Int32), st = (nI (zc_b b), nI r, nI n, be') ∧ r ≤ zs_m K + 1 ∧ (1 ≤ n → 1 ≤ r) ∧ (n = 0 → b = false ∧ r = 0) ∧ (∀ i, i < n → be' i = if zs_P K 56 false 0 i = true then 1 else 0) ∧ ∀ i, n ≤ i → i < 56 → zs_P K (56 - n) b r i = zs_P K 56 false 0 i) 56 (fun (be' : Nat → Int32) => ∀ i, i < 56 → be' i = if zs_P K 56 false 0 i = true then 1 else 0) ⟨false, 0, be, rfl, by omega, fun h => absurd h (by decide), fun _ => ⟨rfl, rfl⟩, fun i h => absurd h (Nat.not_lt_zero i), fun i _ _ => rfl⟩ ?_ ?_ (by decide)
  · intro n st hn ⟨b, r, be', e, hr, hr1, hr0, hbe, hP⟩
    subst e
    have hb := zc_b2 b
    have f0 := zs_from gd hQ (d := 55 - n) (by omega) (fun d' b r h1 h2 h3 => hA d' b r (by omega) h2 h3) false b hr
    rw [show 55 - (55 - n) = n by omega] at f0
    have l0 := zs_Fb gd (d := 55 - n) (by omega) false b r
    have l1 := zs_Fb gd (d := 55 - n) (by omega) true b r
    have cn : (nI n).toNatClampNeg = n := nI_clamp (by omega)
    have yi : ((32 * nI n) + (16 * nI (zc_b b))) + nI r = nI (32 * n + 16 * zc_b b + r) := by
      rw [show (32 : Int32) = nI 32 from rfl, show (16 : Int32) = nI 16 from rfl, pk_mul, pk_mul, nI_add, nI_add]
    have bi : 32 * n + 16 * zc_b b + r < 1824 := by omega
    have hg : g (((32 * nI n) + (16 * nI (zc_b b))) + nI r).toNatClampNeg = nI (zs_V K (55 - n + 1) b r) := by
      rw [yi, nI_clamp (by omega)]
      rcases Nat.eq_zero_or_pos n with z | z
      · obtain ⟨rfl, rfl⟩ := hr0 z
        subst z
        exact h0
      · have := hA (56 - n) b r (by omega) (hr1 z) hr
        rw [show 56 - (56 - n) = n by omega] at this
        rw [this, show 56 - n = 55 - n + 1 by omega]
    have yc : (if nI (zs_F K (zs_V K (55 - n)) (55 - n) false b r) = nI (zs_V K (55 - n + 1) b r) then some (0 : Int32) else some 1) = some (nI (zc_b (zs_c K (55 - n) b r))) := by
      rw [zs_V]
      unfold zs_c
      by_cases c : zs_F K (zs_V K (55 - n)) (55 - n) true b r < zs_F K (zs_V K (55 - n)) (55 - n) false b r
      · rw [if_pos c, decide_eq_true c]
        exact pe_ifn (fun e => by have := (nI_eq (by omega) (by omega)).mp e; omega) rfl
      · rw [if_neg c, decide_eq_false c]
        exact pe_if rfl rfl
    obtain ⟨c, hc⟩ : ∃ c, zs_c K (55 - n) b r = c := ⟨_, rfl⟩
    rw [hc] at yc
    have hPs : ∀ i, zs_P K (56 - n) b r i = if i = n then c else zs_P K (56 - (n + 1)) c (zs_nw K b r c) i := by
      intro i
      rw [show 56 - n = 55 - n + 1 by omega, zs_P, hc, show 55 - (55 - n) = n by omega, show 56 - (n + 1) = 55 - n by omega]
    obtain ⟨n1, n2⟩ := zs_nw_b (K := K) (b := b) (h := c) hr gd.1
    refine ⟨(nI (zc_b c), nI (zs_nw K b r c), nI (n + 1), upd be' n (nI (zc_b c))), ?_, c, zs_nw K b r c, _, rfl, n2, fun _ => n1, fun h => absurd h (by omega), fun i hi => ?_, fun i h1 h2 => ?_⟩
    · show fb_X9_layBest_183 _ _ _ _ _ _ _ _ _ _ (nI (zc_b b)) (nI r) (nI n) be' = _
      unfold fb_X9_layBest_183
      refine pe_ifn (nI_ge (b := 56) hn (by decide)) (pe_b2 f0 (pe_chkE yi bi (by decide) (pe_b1 (a1 := nI (zc_b c)) (by rw [hg]; exact yc) (pe_chk hn (by decide) (pe_nm (x := upd be' n (nI (zc_b c))) (by rw [cn]) ?_)))))
      unfold zs_nw
      by_cases z : r = 0
      · rw [if_pos z]
        exact pe_if (by rw [z]; rfl) (pe_nm (nI_1 n) rfl)
      · rw [if_neg z]
        refine pe_ifn (nI_ne0 (by omega) (by omega)) ?_
        by_cases e : c = b
        · rw [if_pos e]
          refine pe_if (by rw [e]) ?_
          by_cases m2 : zs_m K < r
          · rw [if_pos m2]; exact pe_ifn (nI_ge m2 (by omega)) (pe_nm (nI_1 n) rfl)
          · rw [if_neg m2]; exact pe_if (nI_le (by omega) (by omega)) (pe_nm (nI_1 r) (pe_nm (nI_1 n) rfl))
        · rw [if_neg e]
          exact pe_ifn (fun q => e (zc_b_inj q)) (pe_nm (nI_1 n) rfl)
    · by_cases e : i = n
      · subst e
        rw [pk_us, ← hP i (Nat.le_refl i) hn, hPs, if_pos rfl, zc_b01]
      · rw [pk_un e]; exact hbe i (by omega)
    · rw [← hP i (by omega) h2, hPs, if_neg (by omega)]
  · intro st ⟨b, r, be', e, _, _, _, hbe, _⟩
    subst e
    refine ⟨be', ?_, hbe⟩
    show fb_X9_layBest_183 _ _ _ _ _ _ _ _ _ _ _ _ (nI 56) be' = _
    unfold fb_X9_layBest_183
    exact pe_if (Int32.le_refl _) rfl
theorem zs_lay {K : zs_T} (gd : zs_G K) {W : Int32} {wh wn ww gw g0 : Nat → Int32} {pm my w0 w1 : Int32} {mm mp : Nat → Int32} (hQ : zs_Q K W wh wn ww gw pm) (hl : fn_X9_layWhose my w0 mm mp g0 = some (w1, gw)) (ah be : Nat → Int32) : ∃ ah' be', fn_X9_layBest my w0 (nI (zs_m K)) (nI (zs_a K)) (nI (zs_j K)) W ah be mm mp wh wn ww g0 pm = some (nI (zs_V K 56 false 0), w1, ah', be', gw) ∧ ∀ i, i < 56 → be' i = if zs_P K 56 false 0 i = true then 1 else 0 := by
  have hm14 := gd.2.1
  have i1 : ∃ g, zz_it (fun z => fb_X9_layBest_6 z.1 z.2) zz_fuel (0, ah) = some g ∧ zs_A K g 0 := by
    refine ⟨fun j => if 1792 ≤ j ∧ j < 1792 + 32 then (fun _ => (0 : Int32)) (j - 1792) else ah j, ?_, ?_⟩
    · refine pe_itE (fun k => (nI k, (fun j => if 1792 ≤ j ∧ j < 1792 + k then (fun _ => (0 : Int32)) (j - 1792) else ah j))) 32 ?_ ?_ ?_ (by decide)
      · exact congrArg (fun z => ((0 : Int32), z)) (zi_fillB0 ah (fun _ => 0) 1792)
      · intro k hk
        unfold fb_X9_layBest_6
        have ei : 1792 + nI k = nI (1792 + k) := nI_add 1792 k
        exact pe_ifn (nI_ge (b := 32) hk (by decide)) (pe_chkE ei (by omega) (by decide) (pe_nm (by rw [ei, nI_clamp (by omega)]; exact zi_fillB ah (fun _ => 0) 1792 k) (pe_nm (nI_1 k) rfl)))
      · unfold fb_X9_layBest_6
        exact pe_if (Int32.le_refl _) rfl
    · intro d' b r h1 h2 h3
      have := zc_b2 b
      have e : d' = 0 := by omega
      subst e
      exact if_pos (by omega)
  obtain ⟨g1, e1, hA⟩ := i1
  obtain ⟨g2, e2, hA2, h0⟩ := zs_table gd hQ hA
  obtain ⟨be', e3, hbe⟩ := zs_walk gd hQ hA2 h0 be
  refine ⟨g2, be', pe_b2 hl (pe_b1 e1 (pe_b1 e2 (pe_b1 e3 (pe_chk (i := 0) (by decide) (by decide) ?_)))), hbe⟩
  rw [show (0 : Int32).toNatClampNeg = 0 from rfl, h0]
