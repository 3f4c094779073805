/-! the two readings side by side; whose, nights, night, judge, count -/
theorem zw_h4 {mp mm : Nat → Int32} {p wo : Nat} {ev : Bool} {n : Nat} (hm : mm p = nI n) (hn : n ≤ 10) (ok : ∀ r, r < n → zi_ok mp (60 * p + 6 * r)) (i : Nat) : zw_h mp mm p wo ev i < 4 := by
  unfold zw_h
  rw [zi_gn hm (by omega)]
  exact (zw_inv _ _ n (fun r hr => (ok r hr).2.2.2.1)).2.1
theorem zw_of3 {h : Nat} (hh : h < 4) : zw_of h ≤ 3 := by
  have : h = 0 ∨ h = 1 ∨ h = 2 ∨ h = 3 := by omega
  rcases this with rfl | rfl | rfl | rfl <;> decide
theorem pf_read {y my size : Int32} {ranks turns byRank : Nat → Int32} {told ones : Nat → Int64} {mp mm : Nat → Int32} (hY : zi_year y my) (hP : zi_paper size ranks told ones turns byRank mp mm 0) : ∃ h : Nat → Nat, (∀ i, h i < 4) ∧ (∃ Z O F, fn_X8_readPaper y size byRank ones ranks told turns = some (Z, O, F) ∧ zr_bits Z O F h) ∧ (∀ i, i < 56 → ∃ w, fn_X9_whoseOf mm mp 0 (nI i) my 0 = some (nI (zw_of (h i)), w)) ∧ ∀ w0 g0, ∃ w g, fn_X9_layWhose my w0 mm mp g0 = some (w, g) ∧ ∀ i, i < 56 → g i = nI (zw_of (h i)) := by
  obtain ⟨Y, hY1, rfl, rfl⟩ := hY
  obtain ⟨Z, O, F, e, hb⟩ := zr_read (wo := 0) hY1 (by decide) hP
  obtain ⟨n, hn, rfl, hm, hok, -⟩ := hP
  have hw : ∀ i, i < 56 → ∃ w, fn_X9_whoseOf mm mp 0 (nI i) (nI Y) 0 = some (nI (zw_of (zw_h mp mm 0 0 (decide (Y % 2 = 0)) i)), w) := by
    intro i hi
    refine ⟨nI (zw_t (zw_s mp 0 i 0 (decide (Y % 2 = 0))) (zw_rk mp 0) n).2.2, ?_⟩
    unfold zw_h
    rw [zi_gn hm (by omega)]
    exact zi_whoseOf (p := 0) (wo := 0) (by decide) hi hY1 (by decide) hn hm hok
  refine ⟨zw_h mp mm 0 0 (decide (Y % 2 = 0)), zw_h4 hm hn hok, ⟨Z, O, F, pe_b3 e rfl, hb⟩, hw, ?_⟩
  intro w0 g0
  unfold fn_X9_layWhose
  obtain ⟨⟨w, g⟩, e2, hg⟩ := pe_itI (b := fun z => fb_X9_layWhose_2 (nI Y) mm mp z.1 z.2.1 z.2.2) (s0 := (0, w0, g0)) (fun k st => ∃ w g, st = (nI k, w, g) ∧ ∀ i, i < k → g i = nI (zw_of (zw_h mp mm 0 0 (decide (Y % 2 = 0)) i))) 56 (fun r => ∀ i, i < 56 → r.2 i = nI (zw_of (zw_h mp mm 0 0 (decide (Y % 2 = 0)) i))) ⟨w0, g0, rfl, fun i h => absurd h (Nat.not_lt_zero i)⟩ (by
    intro k st hk ⟨w, g, e, hg⟩
    subst e
    obtain ⟨w', ew⟩ := hw k hk
    have ck : (nI k).toNatClampNeg = k := nI_clamp (by omega)
    refine ⟨(nI (k + 1), w', upd g k (nI (zw_of (zw_h mp mm 0 0 (decide (Y % 2 = 0)) k)))), ?_, w', _, rfl, fun i hi => ?_⟩
    · show fb_X9_layWhose_2 _ _ _ (nI k) w g = _
      unfold fb_X9_layWhose_2
      exact pe_ifn (nI_ge (b := 56) hk (by decide)) (pe_b2 ew (pe_chk hk (by decide) (pe_nm (by rw [ck]) (pe_nm (nI_1 k) rfl))))
    · by_cases q : i = k
      · subst q; rw [pk_us]
      · rw [pk_un q]; exact hg i (by omega)) (by
    intro st ⟨w, g, e, hg⟩
    subst e
    refine ⟨(w, g), ?_, hg⟩
    show fb_X9_layWhose_2 _ _ _ (nI 56) w g = _
    unfold fb_X9_layWhose_2
    exact pe_if (Int32.le_refl _) rfl) (by decide)
  exact ⟨w, g, pe_b2 e2 rfl, hg⟩
theorem zr_that {Z O F : Int64} {h : Nat → Nat} (hb : zr_bits Z O F h) (h4 : ∀ i, h i < 4) {k : Nat} (hk : k ≤ 3) : ∃ x, fn_X4_nightsThatAre Z O F (nI k) = some (x, ()) ∧ ∀ i, zb_tb x i = (decide (i < 56) && decide (zw_of (h i) = k)) := by
  unfold fn_X4_nightsThatAre
  have hk4 : k = 0 ∨ k = 1 ∨ k = 2 ∨ k = 3 := by omega
  have cs : ∀ i, h i = 0 ∨ h i = 1 ∨ h i = 2 ∨ h i = 3 := fun i => by have := h4 i; omega
  rcases hk4 with rfl | rfl | rfl | rfl
  · refine ⟨Z, pe_if rfl rfl, fun i => ?_⟩
    by_cases q : i < 56
    · rw [((hb i).1 q).1]
      rcases cs i with c | c | c | c <;> rw [c] <;> simp [q, zw_of]
    · rw [((hb i).2 (by omega)).1]; simp [q]
  · refine ⟨O, pe_ifn (by decide) (pe_if rfl rfl), fun i => ?_⟩
    by_cases q : i < 56
    · rw [((hb i).1 q).2.1]
      rcases cs i with c | c | c | c <;> rw [c] <;> simp [q, zw_of]
    · rw [((hb i).2 (by omega)).2.1]; simp [q]
  · refine ⟨zr_f Z O F, pe_ifn (by decide) (pe_ifn (by decide) (pe_if rfl rfl)), fun i => ?_⟩
    by_cases q : i < 56
    · rw [zr_fb Z O F (by omega), ((hb i).1 q).1, ((hb i).1 q).2.1, ((hb i).1 q).2.2]
      rcases cs i with c | c | c | c <;> rw [c] <;> simp [q, zw_of]
    · by_cases q2 : i < 64
      · rw [zr_fb Z O F q2]; simp [q]
      · rw [zb_big _ (by omega)]; simp [q]
  · refine ⟨F, pe_ifn (by decide) (pe_ifn (by decide) (pe_ifn (by decide) rfl)), fun i => ?_⟩
    by_cases q : i < 56
    · rw [((hb i).1 q).2.2]
      rcases cs i with c | c | c | c <;> rw [c] <;> simp [q, zw_of]
    · rw [((hb i).2 (by omega)).2.2]; simp [q]
theorem zr_whoseIs {Z O F : Int64} {h : Nat → Nat} (hb : zr_bits Z O F h) (h4 : ∀ i, h i < 4) {i : Nat} (hi : i < 56) : fn_X4_whoseIs Z O F (nI i) = some (nI (zw_of (h i)), ()) := by
  unfold fn_X4_whoseIs
  have h3 := zw_of3 (h4 i)
  refine pe_b1 (pe_itE (fun k => nI k) (zw_of (h i)) rfl ?_ ?_ (by omega)) rfl
  · intro k hk
    unfold fb_X4_whoseIs_2
    obtain ⟨x, e, hx⟩ := zr_that hb h4 (k := k) (by omega)
    refine pe_ifn (nI_ge (b := 3) (by omega) (by decide)) (pe_b2 e (pe_b2 (zi_holds x (by omega)) (pe_if ?_ (pe_nm (nI_1 k) rfl))))
    rw [hx, show decide (zw_of (h i) = k) = false by simp; omega]; simp
  · unfold fb_X4_whoseIs_2
    by_cases q : zw_of (h i) = 3
    · rw [q]; exact pe_if (Int32.le_refl _) rfl
    · obtain ⟨x, e, hx⟩ := zr_that hb h4 (k := zw_of (h i)) h3
      refine pe_ifn (nI_ge (b := 3) (by omega) (by decide)) (pe_b2 e (pe_b2 (zi_holds x (by omega)) (pe_ifn ?_ rfl)))
      rw [hx]; simp [hi]
theorem pf_whose {y my size : Int32} {ranks turns byRank : Nat → Int32} {told ones : Nat → Int64} {mp mm : Nat → Int32} (hY : zi_year y my) (hP : zi_paper size ranks told ones turns byRank mp mm 0) (z o f : Int64) (w : Int32) (p1 : Int32) : ∃ r o1 o2 o3 w1, fn_X8_whose y size byRank ones ranks told turns z o f p1 = some (r, o1, o2, o3) ∧ fn_X9_whose my w mm mp p1 = some (r, w1) := by
  unfold fn_X8_whose fn_X9_whose
  by_cases h1 : 0 ≤ p1.toInt ∧ p1.toInt ≤ 55
  · obtain ⟨i, hi, rfl⟩ := zi_rng (B := 55) h1.1 h1.2 (by decide)
    obtain ⟨h, h4, ⟨Z, O, F, e, hb⟩, hw, -⟩ := pf_read hY hP
    obtain ⟨w', ew⟩ := hw i (by omega)
    exact ⟨_, Z, O, F, w', pe_b2 (zi_night8 _) (pe_ifn (zi_i1 h1) (pe_b3 e (pe_b2 (zr_whoseIs hb h4 (by omega)) rfl))), pe_b2 (zi_night9 _) (pe_ifn (zi_i1 h1) (pe_b2 ew rfl))⟩
  · exact ⟨-1, z, o, f, w, pe_b2 (zi_night8 _) (pe_if (zi_i0 h1) rfl), pe_b2 (zi_night9 _) (pe_if (zi_i0 h1) rfl)⟩
theorem zi_03 {p1 : Int32} (h : ¬ (0 ≤ p1.toInt ∧ p1.toInt ≤ 3)) {α : Type} {a b r : Option α} (k : b = r) (k2 : a = b) : (if p1 < 0 then b else (if p1 ≤ 3 then r else a)) = b := by
  by_cases q : p1.toInt < 0
  · exact pe_if ((zi_ltc (by decide)).mpr q) rfl
  · exact pe_ifn (fun z => q ((zi_ltc (by decide)).mp z)) (pe_ifn (fun z => h ⟨by omega, (zi_lec (by decide)).mp z⟩) k2)
theorem pf_nights {y my size : Int32} {ranks turns byRank : Nat → Int32} {told ones : Nat → Int64} {mp mm : Nat → Int32} (hY : zi_year y my) (hP : zi_paper size ranks told ones turns byRank mp mm 0) (z o f : Int64) (w : Int32) (g : Nat → Int32) (p1 : Int32) : ∃ r o1 o2 o3 w1 w2, fn_X8_nights y size byRank ones ranks told turns z o f p1 = some (r, o1, o2, o3) ∧ fn_X9_nights my w mm mp g p1 = some (r, w1, w2) := by
  unfold fn_X8_nights fn_X9_nights
  by_cases h1 : 0 ≤ p1.toInt ∧ p1.toInt ≤ 3
  · obtain ⟨k, hk, rfl⟩ := zi_rng (B := 3) h1.1 h1.2 (by decide)
    obtain ⟨h, h4, ⟨Z, O, F, e, hb⟩, -, hl⟩ := pf_read hY hP
    obtain ⟨w', g', ew, hg⟩ := hl w g
    obtain ⟨x, ex, hx⟩ := zr_that hb h4 hk
    have hct : zb_ct (zb_tb x) 64 = zb_ct (fun i => decide (zw_of (h i) = k)) 56 := by
      rw [zb_ct_cut (fun i hi => by rw [hx, show decide (i < 56) = false by simp; omega]; rfl)]
      exact zb_ct_cong (fun i hi => by rw [hx]; simp [hi])
    refine ⟨nI (zb_ct (zb_tb x) 64), Z, O, F, w', g', pe_ifn (nI_pos (by omega)) (pe_if (nI_le (b := 3) hk (by decide)) (pe_b3 e (pe_b2 ex (pe_b2 (zb_bc x) rfl)))), pe_b2 (zi_in _ (A := 0) (B := 3) (by decide) (by decide)) (pe_ifn (zi_i1 h1) (pe_b2 ew (pe_b1 (a1 := nI (zb_ct (zb_tb x) 64)) ?_ rfl)))⟩
    rw [hct]
    refine pe_itE (fun j => (nI (zb_ct (fun i => decide (zw_of (h i) = k)) j), nI j)) 56 rfl ?_ ?_ (by decide)
    · intro j hj
      unfold fb_X9_nights_23
      have cj : (nI j).toNatClampNeg = j := nI_clamp (by omega)
      have h3 := zw_of3 (h4 j)
      refine pe_ifn (nI_ge (b := 56) hj (by decide)) (pe_chk hj (by decide) ?_)
      by_cases q : zw_of (h j) = k
      · refine pe_if (by show g' (nI j).toNatClampNeg = nI k; rw [cj, hg j hj, q]) (pe_nm ?_ (pe_nm (nI_1 j) rfl))
        rw [zb_ct, if_pos (by simp [q])]; exact nI_1 _
      · refine pe_ifn (fun z => q ?_) (pe_nm ?_ (pe_nm (nI_1 j) rfl))
        · have z : g' (nI j).toNatClampNeg = nI k := z
          rw [cj, hg j hj] at z
          exact (nI_eq (by omega) (by omega)).mp z
        · rw [zb_ct, if_neg (by simp [q])]; exact nI_add _ 0
    · unfold fb_X9_nights_23
      exact pe_if (Int32.le_refl _) rfl
  · refine ⟨-2, z, o, f, w, g, ?_, pe_b2 (zi_in _ (A := 0) (B := 3) (by decide) (by decide)) (pe_if (zi_i0 h1) rfl)⟩
    by_cases q : p1.toInt < 0
    · exact pe_if ((zi_ltc (by decide)).mpr q) rfl
    · exact pe_ifn (fun z => q ((zi_ltc (by decide)).mp z)) (pe_ifn (fun z => h1 ⟨by omega, (zi_lec (by decide)).mp z⟩) rfl)
theorem zb_ct_56 {q : Nat → Bool} (h : ∀ i, 56 ≤ i → q i = false) {x : Nat} (hx : q x = true) : x < 56 := by
  rcases Nat.lt_or_ge x 56 with c | c
  · exact c
  · rw [h x c] at hx; cases hx
theorem pf_night {y my size : Int32} {ranks turns byRank : Nat → Int32} {told ones : Nat → Int64} {mp mm : Nat → Int32} (hY : zi_year y my) (hP : zi_paper size ranks told ones turns byRank mp mm 0) (z o f : Int64) (w : Int32) (g : Nat → Int32) (p1 p2 : Int32) : ∃ r o1 o2 o3 w1 w2, fn_X8_night y size byRank ones ranks told turns z o f p1 p2 = some (r, o1, o2, o3) ∧ fn_X9_night my w mm mp g p1 p2 = some (r, w1, w2) := by
  unfold fn_X8_night fn_X9_night
  by_cases h1 : 0 ≤ p1.toInt ∧ p1.toInt ≤ 3
  · obtain ⟨k, hk, rfl⟩ := zi_rng (B := 3) h1.1 h1.2 (by decide)
    obtain ⟨h, h4, ⟨Z, O, F, e, hb⟩, -, hl⟩ := pf_read hY hP
    obtain ⟨w', g', ew, hg⟩ := hl w g
    obtain ⟨x, ex, hx⟩ := zr_that hb h4 hk
    have hbig : ∀ i, 56 ≤ i → zb_tb x i = false := fun i hi => by rw [hx, show decide (i < 56) = false by simp; omega]; rfl
    have hq : ∀ j, j < 56 → (g' (nI j).toNatClampNeg = nI k ↔ zb_tb x j = true) := by
      intro j hj
      have h3 := zw_of3 (h4 j)
      rw [nI_clamp (by omega), hg j hj, hx, nI_eq (by omega) (by omega)]
      simp [hj]
    have hle := zb_ct_le (zb_tb x) 56
    have step : ∀ j, j < 56 → (zb_tb x j = true → ¬ nI (zb_ct (zb_tb x) j) = p2) → fb_X9_night_24 (nI k) p2 w' g' (nI (zb_ct (zb_tb x) j)) (nI j) = some (.inl (nI (zb_ct (zb_tb x) (j + 1)), nI (j + 1))) := by
      intro j hj hne
      unfold fb_X9_night_24
      refine pe_ifn (nI_ge (b := 56) hj (by decide)) (pe_chk hj (by decide) ?_)
      by_cases q : zb_tb x j = true
      · refine pe_if ((hq j hj).mpr q) (pe_ifn (hne q) (pe_nm ?_ (pe_nm (nI_1 j) rfl)))
        rw [zb_ct, if_pos q]; exact nI_1 _
      · refine pe_ifn (fun z => q ((hq j hj).mp z)) (pe_nm (nI_1 j) ?_)
        rw [zb_ct, if_neg q]; rfl
    rcases zl_pick x p2 with ⟨hn, ep⟩ | ⟨k2, l, rfl, hl64, q1, q2, q3, ep⟩
    · refine ⟨-9, Z, O, F, w', g', pe_ifn (nI_pos (by omega)) (pe_if (nI_le (b := 3) hk (by decide)) (pe_b3 e (pe_b2 ex (pe_b2 ep rfl)))), pe_b2 (zi_in _ (A := 0) (B := 3) (by decide) (by decide)) (pe_ifn (zi_i1 h1) (pe_b2 ew (pe_mtl (t := ()) (pe_itE (fun j => (nI (zb_ct (zb_tb x) j), nI j)) 56 rfl (fun j hj => step j hj (fun q ez => hn ?_)) ?_ (by decide)) rfl)))⟩
      · have c1 := zb_ct_le (zb_tb x) j
        have c2 := zb_ct_step (y := 64) q (by omega)
        rw [← ez, nI_toInt (by omega)]; omega
      · unfold fb_X9_night_24
        exact pe_if (Int32.le_refl _) rfl
    · have l56 := zb_ct_56 hbig q1
      refine ⟨nI l, Z, O, F, w', g', pe_ifn (nI_pos (by omega)) (pe_if (nI_le (b := 3) hk (by decide)) (pe_b3 e (pe_b2 ex (pe_b2 ep rfl)))), pe_b2 (zi_in _ (A := 0) (B := 3) (by decide) (by decide)) (pe_ifn (zi_i1 h1) (pe_b2 ew (pe_mtr (pe_itE (fun j => (nI (zb_ct (zb_tb x) j), nI j)) l rfl (fun j hj => step j (by omega) (fun q ez => ?_)) ?_ (by omega)))))⟩
      · have c1 := zb_ct_le (zb_tb x) j
        have c2 := zb_ct_step q hj
        have c3 := zb_ct_le (zb_tb x) l
        have := (nI_eq (by omega) (by omega)).mp ez
        omega
      · unfold fb_X9_night_24
        exact pe_ifn (nI_ge (b := 56) l56 (by decide)) (pe_chk l56 (by decide) (pe_if ((hq l l56).mpr q1) (pe_if (by rw [q2]) rfl)))
  · refine ⟨-2, z, o, f, w, g, ?_, pe_b2 (zi_in _ (A := 0) (B := 3) (by decide) (by decide)) (pe_if (zi_i0 h1) rfl)⟩
    by_cases q : p1.toInt < 0
    · exact pe_if ((zi_ltc (by decide)).mpr q) rfl
    · exact pe_ifn (fun z => q ((zi_ltc (by decide)).mp z)) (pe_ifn (fun z => h1 ⟨by omega, (zi_lec (by decide)).mp z⟩) rfl)
/-- the nights of the plan that are not as decided -/
def zc_off (h : Nat → Nat) (p : Nat → Bool) (i : Nat) : Bool := (decide (h i = 1) && p i) || (decide (h i = 2) && !p i)
theorem pf_off {y my size : Int32} {ranks turns byRank : Nat → Int32} {told ones : Nat → Int64} {mp mm : Nat → Int32} {P : Int64} {mpl : Nat → Int32} (hY : zi_year y my) (hP : zi_paper size ranks told ones turns byRank mp mm 0) (hL : zi_plan P mpl 0) : ∃ h : Nat → Nat, (∀ i, h i < 4) ∧ (∃ x Z O F, fn_X8_notAsDecided y P size byRank ones ranks told turns = some (x, Z, O, F) ∧ ∀ i, zb_tb x i = (decide (i < 56) && zc_off h (zb_tb P) i)) ∧ ∀ w0 g0, ∃ w g, fn_X9_layWhose my w0 mm mp g0 = some (w, g) ∧ ∀ i, i < 56 → g i = nI (zw_of (h i)) := by
  obtain ⟨h, h4, ⟨Z, O, F, e, hb⟩, -, hl⟩ := pf_read hY hP
  refine ⟨h, h4, ⟨(Z &&& P) ||| (O &&& (P ^^^ (-1))), Z, O, F, pe_b3 e rfl, fun i => ?_⟩, hl⟩
  by_cases q : i < 56
  · rw [zb_or, zb_and, zb_and, zb_not _ (by omega), ((hb i).1 q).1, ((hb i).1 q).2.1]
    simp [q, zc_off]
  · rw [zb_or, zb_and, zb_and, ((hb i).2 (by omega)).1, ((hb i).2 (by omega)).2.1]
    simp [q]
/-- the model's test of it -/
theorem zi_offt {h : Nat → Nat} (h4 : ∀ i, h i < 4) {p : Nat → Bool} {g mpl : Nat → Int32} {k : Nat} (hk : k < 56) (hg : g k = nI (zw_of (h k))) (hp : mpl k = if p k = true then 1 else 0) {α : Type} {a b c r : Option α} (ha : zc_off h p k = false → a = r) (hb : zc_off h p k = false → b = r) (hc : zc_off h p k = true → c = r) : (if 2 ≤ g (nI k).toNatClampNeg then a else zz_chk (nI k) 56 (zz_chk (nI k) 56 (if g (nI k).toNatClampNeg = mpl (nI k).toNatClampNeg then b else c))) = r := by
  have ck : (nI k).toNatClampNeg = k := nI_clamp (by omega)
  have h44 := h4 k
  have cs : h k = 0 ∨ h k = 1 ∨ h k = 2 ∨ h k = 3 := by omega
  rw [ck, hg, hp]
  unfold zc_off at *
  rcases cs with c | c | c | c <;> rw [c]
  · exact pe_if (by decide) (ha (by simp [c]))
  · refine pe_ifn (by decide) (pe_chk hk (by decide) (pe_chk hk (by decide) ?_))
    cases q : p k
    · exact pe_if rfl (hb (by simp [c, q]))
    · exact pe_ifn (by decide) (hc (by simp [c, q]))
  · refine pe_ifn (by decide) (pe_chk hk (by decide) (pe_chk hk (by decide) ?_))
    cases q : p k
    · exact pe_ifn (by decide) (hc (by simp [c, q]))
    · exact pe_if rfl (hb (by simp [c, q]))
  · exact pe_if (by decide) (ha (by simp [c]))
theorem pf_judge {y my size : Int32} {ranks turns byRank : Nat → Int32} {told ones : Nat → Int64} {mp mm : Nat → Int32} {P : Int64} {mpl : Nat → Int32} (hY : zi_year y my) (hP : zi_paper size ranks told ones turns byRank mp mm 0) (hL : zi_plan P mpl 0) (w : Int32) (g : Nat → Int32) : ∃ r o1 o2 o3 w1 w2, fn_X8_judge y P size byRank ones ranks told turns = some (r, o1, o2, o3) ∧ fn_X9_judge my w mm mp mpl g = some (r, w1, w2) := by
  unfold fn_X8_judge fn_X9_judge
  obtain ⟨h, h4, ⟨x, Z, O, F, e, hx⟩, hl⟩ := pf_off hY hP hL
  obtain ⟨w', g', ew, hg⟩ := hl w g
  have hbig : ∀ i, 56 ≤ i → zb_tb x i = false := fun i hi => by rw [hx, show decide (i < 56) = false by simp; omega]; rfl
  have hoff : ∀ i, i < 56 → zc_off h (zb_tb P) i = zb_tb x i := fun i hi => by rw [hx]; simp [hi]
  have step : ∀ j, j < 56 → zb_tb x j = false → fb_X9_judge_6 w' g' mpl (nI j) = some (.inl (nI (j + 1))) := by
    intro j hj hf
    unfold fb_X9_judge_6
    refine pe_ifn (nI_ge (b := 56) hj (by decide)) (pe_chk hj (by decide) (zi_offt h4 hj (hg j hj) (zi_planD hL hj) (fun _ => pe_nm (nI_1 j) rfl) (fun _ => pe_nm (nI_1 j) rfl) (fun q => ?_)))
    rw [hoff j hj, hf] at q; cases q
  rcases zl_pick x 0 with ⟨hn, ep⟩ | ⟨k2, l, ek, hl64, q1, q2, q3, ep⟩
  · have h0 : ∀ j, j < 56 → zb_tb x j = false := by
      intro j hj
      cases q : zb_tb x j
      · rfl
      · exfalso
        have := zb_ct_step (y := 64) q (by omega)
        refine hn ⟨by decide, ?_⟩
        rw [show (0 : Int32).toInt = 0 by decide]; omega
    refine ⟨-9, Z, O, F, w', g', pe_b4 e (pe_b2 ep rfl), pe_b2 ew (pe_mtl (t := ()) (pe_itE (fun j => nI j) 56 rfl (fun j hj => step j hj (h0 j hj)) ?_ (by decide)) rfl)⟩
    unfold fb_X9_judge_6
    exact pe_if (Int32.le_refl _) rfl
  · have l56 := zb_ct_56 hbig q1
    have k0 : k2 = 0 := by
      have c3 := zb_ct_le (zb_tb x) l
      exact ((nI_eq (a := 0) (by decide) (by omega)).mp ek).symm
    refine ⟨nI l, Z, O, F, w', g', pe_b4 e (pe_b2 ep rfl), pe_b2 ew (pe_mtr (pe_itE (fun j => nI j) l rfl (fun j hj => step j (by omega) ?_) ?_ (by omega)))⟩
    · cases q : zb_tb x j
      · rfl
      · exfalso
        have := zb_ct_step q hj
        omega
    · unfold fb_X9_judge_6
      refine pe_ifn (nI_ge (b := 56) l56 (by decide)) (pe_chk l56 (by decide) (zi_offt h4 l56 (hg l l56) (zi_planD hL l56) (fun q => ?_) (fun q => ?_) (fun _ => rfl)))
      · rw [hoff l l56, q1] at q; cases q
      · rw [hoff l l56, q1] at q; cases q
