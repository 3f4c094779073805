/-! a move, what a rule says, years, brothers -/
def zc_sch (i : Nat) : Bool := decide (i % 7 = 6) || decide (i % 7 < 4)
theorem zb_sch64 : ∀ i, i < 64 → zb_tb 44823227787372495 i = (decide (i < 56) && zc_sch i) := by decide +kernel
theorem zb_sch (i : Nat) : zb_tb 44823227787372495 i = (decide (i < 56) && zc_sch i) := by
  by_cases h : i < 64
  · exact zb_sch64 i h
  · rw [zb_big _ (by omega), show decide (i < 56) = false by simp; omega]; rfl
/-- whether a night may be at a house -/
def zd_ok (h : Nat → Nat) (mv : Bool) (k hh : Nat) : Bool := if (mv && zc_sch k) = true then decide (hh = 0) else (decide (1 < zw_of (h k)) || decide (zw_of (h k) = hh))
theorem zi_mayBe {h : Nat → Nat} (h4 : ∀ i, h i < 4) {g : Nat → Int32} {k hh : Nat} (hk : k < 56) (hh2 : hh < 2) (hg : g k = nI (zw_of (h k))) (mv : Bool) : fn_X9_mayBe g (nI k) (nI hh) (if mv = true then 1 else 0) = some (if zd_ok h mv k hh = true then 1 else 0, ()) := by
  unfold fn_X9_mayBe
  have ck : (nI k).toNatClampNeg = k := nI_clamp (by omega)
  have m7 : nI k - nI k / 7 * 7 = nI (k % 7) := pk_rem (d := 7) (by omega) (by decide) (by decide)
  have h3 := zw_of3 (h4 k)
  have base : zz_chk (nI k) 56 (if 1 < g (nI k).toNatClampNeg then some ((1 : Int32), ()) else zz_chk (nI k) 56 (if g (nI k).toNatClampNeg = nI hh then some (1, ()) else some (0, ()))) = some (if (decide (1 < zw_of (h k)) || decide (zw_of (h k) = hh)) = true then 1 else 0, ()) := by
    refine pe_chk hk (by decide) ?_
    rw [ck, hg]
    by_cases q : 1 < zw_of (h k)
    · exact pe_if (nI_lt (a := 1) q (by omega)) (by simp [q])
    · refine pe_ifn (nI_nlt (b := zw_of (h k)) (a := 1) (by omega) (by decide)) (pe_chk hk (by decide) ?_)
      by_cases q2 : zw_of (h k) = hh
      · exact pe_if (by rw [q2]) (by simp [q2])
      · exact pe_ifn (fun z => q2 ((nI_eq (by omega) (by omega)).mp z)) (by simp [q, q2])
  have sch : (if nI hh = 0 then some ((1 : Int32), ()) else some (0, ())) = some (if decide (hh = 0) = true then 1 else 0, ()) := by
    by_cases q : hh = 0
    · subst q; exact pe_if rfl rfl
    · exact pe_ifn (fun z => q ((nI_eq (b := 0) (by omega) (by decide)).mp z)) (by simp [q])
  unfold zd_ok
  refine pe_nm m7 ?_
  cases mv
  · refine pe_if rfl ?_
    rw [base]; simp
  · refine pe_ifn (by decide) ?_
    by_cases q6 : k % 7 = 6
    · refine pe_if (by rw [q6]; rfl) ?_
      rw [sch]; simp [zc_sch, q6]
    · refine pe_ifn (fun z => q6 ((nI_eq (b := 6) (by omega) (by decide)).mp z)) ?_
      by_cases q4 : 4 ≤ k % 7
      · refine pe_if (nI_le (a := 4) q4 (by omega)) ?_
        rw [base]
        have : zc_sch k = false := by simp [zc_sch, q6]; omega
        simp [this]
      · refine pe_ifn (nI_ge (b := 4) (by omega) (by decide)) ?_
        rw [sch]
        have : zc_sch k = true := by simp [zc_sch]; omega
        simp [this]
theorem pf_move {y my size : Int32} {ranks turns byRank : Nat → Int32} {told ones : Nat → Int64} {mp mm : Nat → Int32} (hY : zi_year y my) (hP : zi_paper size ranks told ones turns byRank mp mm 0) (z o f : Int64) (w : Int32) (g : Nat → Int32) (p1 : Int32) : ∃ r o1 o2 o3 w1 w2, fn_X8_move y size byRank ones ranks told turns z o f p1 = some (r, o1, o2, o3) ∧ fn_X9_move my w mm mp g p1 = some (r, w1, w2) := by
  unfold fn_X8_move fn_X9_move
  by_cases h1 : 0 ≤ p1.toInt ∧ p1.toInt ≤ 99
  · obtain ⟨k, hk, rfl⟩ := zi_rng (B := 99) h1.1 h1.2 (by decide)
    obtain ⟨h, h4, ⟨Z, O, F, e, hb⟩, -, hl⟩ := pf_read hY hP
    obtain ⟨w', g', ew, hg⟩ := hl w g
    have c1 : ¬ nI k < 0 := nI_pos (by omega)
    have c2 : nI k ≤ 99 := nI_le (b := 99) hk (by decide)
    by_cases c45 : k ≤ 45
    · have hz : zb_ct (zb_tb (O &&& 0)) 64 = 0 := by
        rw [zb_ct_cong (q := fun i => decide (i < 0)) (fun i _ => by rw [zb_and, zb_0]; simp), zb_ct_lt]; rfl
      refine ⟨nI 0, Z, O, F, w', g', pe_ifn c1 (pe_if c2 (pe_b3 e (pe_b2 (pe_if (nI_le (b := 45) c45 (by decide)) rfl) (pe_b2 (zb_bc _) (by rw [hz]))))), pe_b2 (zi_in _ (A := 0) (B := 99) (by decide) (by decide)) (pe_ifn (zi_i1 h1) (pe_b2 ew (pe_b1 (a1 := nI 0) (pe_itE (fun j => (nI 0, nI j)) 0 rfl (fun j hj => absurd hj (Nat.not_lt_zero j)) ?_ (by decide)) rfl)))⟩
      unfold fb_X9_move_23
      exact pe_ifn (by decide) (pe_if (nI_le (b := 45) c45 (by decide)) rfl)
    · have hct : zb_ct (zb_tb (O &&& 44823227787372495)) 64 = zb_ct (fun i => decide (h i = 2) && zc_sch i) 56 := by
        rw [zb_ct_cut (fun i hi => by rw [zb_and, zb_sch, show decide (i < 56) = false by simp; omega]; simp)]
        exact zb_ct_cong (fun i hi => by rw [zb_and, zb_sch, ((hb i).1 hi).2.1]; simp [hi])
      refine ⟨nI (zb_ct (fun i => decide (h i = 2) && zc_sch i) 56), Z, O, F, w', g', pe_ifn c1 (pe_if c2 (pe_b3 e (pe_b2 (pe_ifn (nI_ge (a := 45) (by omega) (by omega)) rfl) (pe_b2 (zb_bc _) (by rw [hct]))))), pe_b2 (zi_in _ (A := 0) (B := 99) (by decide) (by decide)) (pe_ifn (zi_i1 h1) (pe_b2 ew (pe_b1 (a1 := nI (zb_ct (fun i => decide (h i = 2) && zc_sch i) 56)) (pe_itE (fun j => (nI (zb_ct (fun i => decide (h i = 2) && zc_sch i) j), nI j)) 56 rfl ?_ ?_ (by decide)) rfl)))⟩
      · intro j hj
        unfold fb_X9_move_23
        have cj : (nI j).toNatClampNeg = j := nI_clamp (by omega)
        have h44 := h4 j
        refine pe_ifn (nI_ge (b := 56) hj (by decide)) (pe_ifn (nI_ge (a := 45) (by omega) (by omega)) (pe_chk hj (by decide) ?_))
        by_cases q : h j = 2
        · have e1 : zw_of (h j) = 1 := by rw [q]; rfl
          refine pe_if (by show g' (nI j).toNatClampNeg = 1; rw [cj, hg j hj, e1]; rfl) (pe_b2 (zi_mayBe (hh := 1) h4 hj (by decide) (hg j hj) true) ?_)
          have ok : zd_ok h true j 1 = !zc_sch j := by
            unfold zd_ok
            rw [e1]
            cases zc_sch j <;> rfl
          rw [ok]
          cases s : zc_sch j
          · refine pe_ifn (by decide) (pe_nm ?_ (pe_nm (nI_1 j) rfl))
            rw [zb_ct, if_neg (by simp [s])]; exact nI_add _ 0
          · refine pe_if rfl (pe_nm ?_ (pe_nm (nI_1 j) rfl))
            rw [zb_ct, if_pos (by simp [s, q])]; exact nI_1 _
        · refine pe_ifn (fun z => q ?_) (pe_nm ?_ (pe_nm (nI_1 j) rfl))
          · have z : g' (nI j).toNatClampNeg = 1 := z
            rw [cj, hg j hj] at z
            have := (nI_eq (b := 1) (by have := zw_of3 (h4 j); omega) (by decide)).mp z
            have cs : h j = 0 ∨ h j = 1 ∨ h j = 2 ∨ h j = 3 := by omega
            rcases cs with c | c | c | c <;> rw [c] at this <;> first | exact c | (exact absurd this (by decide))
          · rw [zb_ct, if_neg (by simp [q])]; exact nI_add _ 0
      · unfold fb_X9_move_23
        exact pe_if (Int32.le_refl _) rfl
  · refine ⟨-2, z, o, f, w, g, ?_, pe_b2 (zi_in _ (A := 0) (B := 99) (by decide) (by decide)) (pe_if (zi_i0 h1) rfl)⟩
    by_cases q : p1.toInt < 0
    · exact pe_if ((zi_ltc (by decide)).mpr q) rfl
    · exact pe_ifn (fun z => q ((zi_ltc (by decide)).mp z)) (pe_ifn (fun z => h1 ⟨by omega, (zi_lec (by decide)).mp z⟩) rfl)
theorem pf_says {y my size : Int32} {ranks turns byRank : Nat → Int32} {told ones : Nat → Int64} {mp mm : Nat → Int32} (hY : zi_year y my) (hP : zi_paper size ranks told ones turns byRank mp mm 0) (p1 p2 : Int32) : ∃ r, fn_X8_says y size byRank ones told turns p1 p2 = some (r, ()) ∧ fn_X9_says my mm mp p1 p2 = some (r, ()) := by
  obtain ⟨Y, hY1, rfl, rfl⟩ := hY
  obtain ⟨n, hn, rfl, hm, hok, b, hb1, hb2, -, hrule⟩ := hP
  unfold fn_X8_says fn_X9_says
  have tm : ((mm (0 : Int32).toNatClampNeg - 1).toInt64).toInt = (n : Int) - 1 := by
    rw [Int32.toInt_toInt64, show (0 : Int32).toNatClampNeg = 0 from rfl, hm]
    exact pk_sub_toInt (b := 1) (by omega) (by decide)
  by_cases h1 : 0 ≤ p1.toInt ∧ p1.toInt ≤ (n : Int) - 1
  · obtain ⟨r, hr, rfl⟩ := zi_rng (B := 10) h1.1 (by omega) (by decide)
    have hrn : r < n := by have := h1.2; rw [nI_toInt (by omega)] at this; omega
    have c1 : ¬ nI r < 0 := nI_pos (by omega)
    have c2 : ¬ nI n ≤ nI r := nI_ge hrn (by omega)
    by_cases h2 : 0 ≤ p2.toInt ∧ p2.toInt ≤ 55
    · obtain ⟨i, hi, rfl⟩ := zi_rng (B := 55) h2.1 h2.2 (by decide)
      obtain ⟨j, hj, ebj⟩ := fb_onto (fun j hj => (hb1 j hj).2) hb2 hrn
      have ok := hok r hrn
      have hi56 : i < 56 := by omega
      have key : zz_mt (zz_it (fun z => fb_X2_tells_3 (nI r) (nI i) (nI Y) (nI n) byRank told ones turns z) zz_fuel 0) (fun z => fk_X2_tells_3) = some (zi_code (zi_S mp (60 * 0 + 6 * r) i (decide (Y % 2 = 0))), ()) := by
        have hother : ∀ k, k < n → k ≠ j → ¬ byRank (nI k).toNatClampNeg = nI r := by
          intro k hk hne z
          rw [nI_clamp (by omega), (hb1 k hk).1] at z
          have hbk := (hb1 k hk).2
          have z := (nI_eq (by omega) (by omega)).mp z
          rcases Nat.lt_or_ge k j with q | q
          · exact hb2 k j q hj (by omega)
          · exact hb2 j k (by omega) hk (by omega)
        have hstep : ∀ k, k < n → k ≠ j → fb_X2_tells_3 (nI r) (nI i) (nI Y) (nI n) byRank told ones turns (nI k) = some (.inl (nI (k + 1))) := by
          intro k hk hne
          unfold fb_X2_tells_3
          exact pe_ifn (nI_ge hk (by omega)) (pe_ifn (nI_ge (b := 10) (by omega) (by decide)) (pe_chk (by omega) (by decide) (pe_ifn (hother k hk hne) (pe_nm (nI_1 k) rfl))))
        have hrl := hrule j hj
        rw [ebj] at hrl
        obtain ⟨x, ex, hx⟩ := zr_ones (y := Y) hrl (by omega) hY1
        obtain ⟨-, -, -, htold, -⟩ := hrl
        have cj : (nI j).toNatClampNeg = j := nI_clamp (by omega)
        have enb : byRank (nI j).toNatClampNeg = nI r := by rw [cj, (hb1 j hj).1, ebj]
        have hv : ∀ X : Bool, (if (decide (i < 56) && X) = true then (1 : Int32) else 0) = if X = true then 1 else 0 := fun X => by simp [hi56]
        cases hS : zi_S mp (60 * 0 + 6 * r) i (decide (Y % 2 = 0)) with
        | none =>
          refine pe_mtl (t := ()) (pe_itE (fun k => nI k) n rfl ?_ ?_ (by omega)) rfl
          · intro k hk
            by_cases q : k = j
            · subst q
              show fb_X2_tells_3 (nI r) (nI i) (nI Y) (nI n) byRank told ones turns (nI k) = _
              unfold fb_X2_tells_3
              refine pe_ifn (nI_ge hk (by omega)) (pe_ifn (nI_ge (b := 10) (by omega) (by decide)) (pe_chk (by omega) (by decide) (pe_if enb (pe_chk (by omega) (by decide) (pe_b2 (zi_holds _ (by omega)) (pe_if ?_ (pe_nm (nI_1 k) rfl)))))))
              rw [cj, htold i (by omega), ← zi_S_some mp _ i (decide (Y % 2 = 0)), hS, hv]; rfl
            · exact hstep k hk q
          · show fb_X2_tells_3 (nI r) (nI i) (nI Y) (nI n) byRank told ones turns (nI n) = _
            unfold fb_X2_tells_3
            exact pe_if (Int32.le_refl _) rfl
        | some c =>
          refine pe_mtr (pe_itE (fun k => nI k) j rfl (fun k hk => hstep k (by omega) (by omega)) ?_ (by omega))
          show fb_X2_tells_3 (nI r) (nI i) (nI Y) (nI n) byRank told ones turns (nI j) = _
          unfold fb_X2_tells_3
          refine pe_ifn (nI_ge hj (by omega)) (pe_ifn (nI_ge (b := 10) (by omega) (by decide)) (pe_chk (by omega) (by decide) (pe_if enb (pe_chk (by omega) (by decide) (pe_b2 (zi_holds _ (by omega)) (pe_ifn ?_ (pe_b2 ex (pe_b2 (zi_houseAt x (by omega)) ?_))))))))
          · rw [cj, htold i (by omega), ← zi_S_some mp _ i (decide (Y % 2 = 0)), hS, hv]; simp
          · rw [hx i (by omega), hS]
            cases c <;> simp [hi56, zi_code]
      refine ⟨zi_code (zi_S mp (60 * 0 + 6 * r) i (decide (Y % 2 = 0))), pe_ifn c1 (pe_ifn c2 (pe_b2 (zi_night8 _) (pe_ifn (zi_i1 h2) (pe_b2 (a2 := ()) key rfl)))), pe_chk (i := 0) (by decide) (by decide) (pe_b2 (zi_in _ (A := 0) (by decide) tm) (pe_ifn (zi_i1 h1) (pe_b2 (zi_night9 _) (pe_ifn (zi_i1 h2) (pe_b2 (zi_says9 (p := 0) (by decide) (by omega) (by omega) hY1 ok) rfl)))))⟩
    · exact ⟨-1, pe_ifn c1 (pe_ifn c2 (pe_b2 (zi_night8 _) (pe_if (zi_i0 h2) rfl))), pe_chk (i := 0) (by decide) (by decide) (pe_b2 (zi_in _ (A := 0) (by decide) tm) (pe_ifn (zi_i1 h1) (pe_b2 (zi_night9 _) (pe_if (zi_i0 h2) rfl))))⟩
  · refine ⟨-1, ?_, pe_chk (i := 0) (by decide) (by decide) (pe_b2 (zi_in _ (A := 0) (by decide) tm) (pe_if (zi_i0 h1) rfl))⟩
    by_cases q : p1.toInt < 0
    · exact pe_if ((zi_ltc (by decide)).mpr q) rfl
    · refine pe_ifn (fun z => q ((zi_ltc (by decide)).mp z)) (pe_if ?_ rfl)
      rw [zi_le, nI_toInt (by omega)]; omega
/-- decided for house 0 less those for house 1 -/
def zc_Y (h : Nat → Nat) (k : Nat) : Int32 := nI (zb_ct (fun i => decide (h i = 1)) k) - nI (zb_ct (fun i => decide (h i = 2)) k)
theorem zc_Y0 {h : Nat → Nat} : zc_Y h 0 = 0 := (by decide : nI 0 - nI 0 = 0)
theorem zc_Ys {h : Nat → Nat} {k : Nat} : zc_Y h (k + 1) = zc_Y h k + (if h k = 1 then 1 else if h k = 2 then -1 else 0) := by
  unfold zc_Y
  rw [zb_ct, zb_ct]
  by_cases a : h k = 1
  · have : ¬ h k = 2 := by omega
    simp only [a, decide_true, if_true, ← nI_1]
    rw [if_neg (by simp), Nat.add_zero, Int32.sub_eq_add_neg, Int32.sub_eq_add_neg, Int32.add_assoc, Int32.add_assoc, Int32.add_comm 1]
  · by_cases b : h k = 2
    · simp only [b, decide_true, if_true, ← nI_1]
      rw [if_neg (by simp), Nat.add_zero, if_neg (by decide), Int32.sub_eq_add_neg, Int32.sub_eq_add_neg, Int32.neg_add, Int32.sub_eq_add_neg, Int32.add_assoc]
    · simp [a, b]
theorem zi_zeroMore {size : Int32} {ranks turns byRank : Nat → Int32} {told ones : Nat → Int64} {mp mm : Nat → Int32} {Y : Nat} (hY : Y ≤ 99) (hP : zi_paper size ranks told ones turns byRank mp mm 0) : ∃ Z O F, fn_X8_zeroMoreThanOne size byRank ones ranks told turns (nI Y) = some (zc_Y (zw_h mp mm 0 0 (decide (Y % 2 = 0))) 56, Z, O, F) := by
  obtain ⟨Z, O, F, e, hb⟩ := zr_read (wo := 0) hY (by decide) hP
  refine ⟨Z, O, F, pe_b3 e (pe_b2 (zb_bc Z) (pe_b2 (zb_bc O) ?_))⟩
  have c1 : zb_ct (zb_tb Z) 64 = zb_ct (fun i => decide (zw_h mp mm 0 0 (decide (Y % 2 = 0)) i = 1)) 56 := by
    rw [zb_ct_cut (fun i hi => ((hb i).2 hi).1)]
    exact zb_ct_cong (fun i hi => ((hb i).1 hi).1)
  have c2 : zb_ct (zb_tb O) 64 = zb_ct (fun i => decide (zw_h mp mm 0 0 (decide (Y % 2 = 0)) i = 2)) 56 := by
    rw [zb_ct_cut (fun i hi => ((hb i).2 hi).2.1)]
    exact zb_ct_cong (fun i hi => ((hb i).1 hi).2.1)
  rw [c1, c2]; rfl
theorem pf_years {size : Int32} {ranks turns byRank : Nat → Int32} {told ones : Nat → Int64} {mp mm : Nat → Int32} (hP : zi_paper size ranks told ones turns byRank mp mm 0) (w : Int32) : ∃ r o1 o2 o3 w1, fn_X8_years size byRank ones ranks told turns = some (r, o1, o2, o3) ∧ fn_X9_years w mm mp = some (r, w1) := by
  obtain ⟨Z1, O1, F1, e1⟩ := zi_zeroMore (Y := 1) (by decide) hP
  obtain ⟨Z2, O2, F2, e2⟩ := zi_zeroMore (Y := 2) (by decide) hP
  obtain ⟨n, hn, rfl, hm, hok, -⟩ := hP
  have d1 : decide (1 % 2 = 0) = false := by decide
  have d2 : decide (2 % 2 = 0) = true := by decide
  rw [d1] at e1
  rw [d2] at e2
  obtain ⟨he, ehe⟩ : ∃ h, h = zw_h mp mm 0 0 true := ⟨_, rfl⟩
  obtain ⟨ho, eho⟩ : ∃ h, h = zw_h mp mm 0 0 false := ⟨_, rfl⟩
  rw [← eho] at e1
  rw [← ehe] at e2
  have h4 : ∀ ev i, zw_h mp mm 0 0 ev i < 4 := fun ev => zw_h4 hm hn hok
  let S : Nat → Int32 := fun k => 200 + zc_Y he (min k 56) + zc_Y ho (k - 56)
  have hw : ∀ k, k < 112 → ∃ w', fn_X9_whoseOf mm mp 0 (nI k - nI k / 56 * 56) (nI k / 56) 0 = some (nI (zw_of (if k < 56 then he k else ho (k - 56))), w') := by
    intro k hk
    have m1 : nI k - nI k / 56 * 56 = nI (k % 56) := pk_rem (d := 56) (by omega) (by decide) (by decide)
    have m2 : nI k / 56 = nI (k / 56) := pk_div (d := 56) (by omega) (by decide) (by decide)
    rw [m1, m2]
    have := zi_whoseOf (mp := mp) (mm := mm) (p := 0) (wo := 0) (i := k % 56) (y := k / 56) (by decide) (by omega) (by omega) (by decide) hn hm hok
    refine ⟨nI (zw_t (zw_s mp 0 (k % 56) 0 (decide (k / 56 % 2 = 0))) (zw_rk mp 0) n).2.2, this.trans ?_⟩
    · have key : (zw_t (zw_s mp 0 (k % 56) 0 (decide (k / 56 % 2 = 0))) (zw_rk mp 0) n).2.1 = if k < 56 then he k else ho (k - 56) := ?_
      · rw [key]
      by_cases q : k < 56
      · rw [if_pos q, ehe]
        unfold zw_h
        rw [zi_gn hm (by omega), show k % 56 = k by omega, show decide (k / 56 % 2 = 0) = true by simp; omega]
      · rw [if_neg q, eho]
        unfold zw_h
        rw [zi_gn hm (by omega), show k % 56 = k - 56 by omega, show decide (k / 56 % 2 = 0) = false by simp; omega]
  have hS : ∀ k, k < 112 → S (k + 1) = S k + (if (if k < 56 then he k else ho (k - 56)) = 1 then 1 else if (if k < 56 then he k else ho (k - 56)) = 2 then -1 else 0) := by
    intro k hk
    show 200 + zc_Y he (min (k + 1) 56) + zc_Y ho (k + 1 - 56) = 200 + zc_Y he (min k 56) + zc_Y ho (k - 56) + _
    by_cases q : k < 56
    · rw [if_pos q, show min (k + 1) 56 = k + 1 by omega, show min k 56 = k by omega, show k + 1 - 56 = 0 by omega, show k - 56 = 0 by omega, zc_Ys, zc_Y0, Int32.add_zero, Int32.add_zero, Int32.add_assoc]
    · rw [if_neg q, show min (k + 1) 56 = 56 by omega, show min k 56 = 56 by omega, show k + 1 - 56 = (k - 56) + 1 by omega, zc_Ys (h := ho) (k := k - 56), ← Int32.add_assoc]
  obtain ⟨⟨r, w'⟩, er, hr⟩ := pe_itI (b := fun z => fb_X9_years_6 mm mp z.1 z.2.1 z.2.2) (s0 := (200, 0, w)) (fun k st => ∃ w', st = (S k, nI k, w')) 112 (fun r => r.1 = S 112) ⟨w, by show _ = (200 + zc_Y he 0 + zc_Y ho 0, nI 0, w); rw [zc_Y0, zc_Y0]; rfl⟩ (by
    intro k st hk ⟨w', e⟩
    subst e
    obtain ⟨w2, ew⟩ := hw k hk
    refine ⟨(S (k + 1), nI (k + 1), w2), ?_, w2, rfl⟩
    show fb_X9_years_6 mm mp (S k) (nI k) w' = _
    unfold fb_X9_years_6
    rw [hS k hk]
    have hv4 : (if k < 56 then he k else ho (k - 56)) < 4 := by
      split
      · rw [ehe]; exact h4 _ _
      · rw [eho]; exact h4 _ _
    generalize (if k < 56 then he k else ho (k - 56)) = v at *
    refine pe_ifn (nI_ge (b := 112) hk (by decide)) (pe_b2 ew ?_)
    have cs : v = 0 ∨ v = 1 ∨ v = 2 ∨ v = 3 := by omega
    rcases cs with rfl | rfl | rfl | rfl
    · exact pe_ifn (by decide) (pe_ifn (by decide) (pe_nm rfl (pe_nm (nI_1 k) rfl)))
    · exact pe_if rfl (pe_nm rfl (pe_nm (nI_1 k) rfl))
    · exact pe_ifn (by decide) (pe_if rfl (pe_nm rfl (pe_nm (nI_1 k) rfl)))
    · exact pe_ifn (by decide) (pe_ifn (by decide) (pe_nm rfl (pe_nm (nI_1 k) rfl)))) (by
    intro st ⟨w', e⟩
    subst e
    refine ⟨(S 112, w'), ?_, rfl⟩
    show fb_X9_years_6 mm mp (S 112) (nI 112) w' = _
    unfold fb_X9_years_6
    exact pe_if (Int32.le_refl _) rfl) (by decide)
  refine ⟨(zc_Y ho 56 + zc_Y he 56) + 200, Z2, O2, F2, w', pe_b4 e1 (pe_b4 e2 rfl), pe_b2 er ?_⟩
  have hr : r = 200 + zc_Y he 56 + zc_Y ho 56 := hr
  rw [hr, Int32.add_comm (zc_Y ho 56), Int32.add_comm 200, Int32.add_assoc, Int32.add_comm 200, ← Int32.add_assoc]
