/-! the class lays the rules of a text without fault -/
theorem zs_span {a b : Nat} (ha : a ≤ 55) (hb : b ≤ 55) : ∃ x, fn_X1_span (nI a) (nI b) = some (x, ()) ∧ ∀ i, i < 64 → zb_tb x i = decide (a ≤ i ∧ i ≤ b) := by
  obtain ⟨u, eu, hu⟩ := zi_upTo (k := b) (by omega)
  refine ⟨_, pe_b2 eu rfl, fun i hi => ?_⟩
  rw [zb_and, hu, zb_shl _ (by omega), zb_ALL, Bool.eq_iff_iff]
  simp only [Bool.and_eq_true, decide_eq_true_iff, Bool.not_eq_true', decide_eq_false_iff_not]
  omega
theorem zs_weeks {a d k : Nat} (ha : a ≤ 6) (hd : 1 ≤ d) (hd4 : d ≤ 4) (hk : k ≤ 9) : ∃ x, fn_X6_inWeeks (nI a) (nI d) (nI k) = some (x, ()) ∧ ∀ i, i < 64 → zb_tb x i = (decide (i < 56) && decide (i % 7 = a ∧ i / 7 % d = k)) := by
  obtain ⟨w, ew, hw⟩ := pe_itI (b := fun z : Int64 × Int32 => fb_X6_inWeeks_5 (nI a) (nI d) (nI k) z.1 z.2) (fun m z => z.2 = nI m ∧ ∀ i, i < 64 → zb_tb z.1 i = decide (i / 7 < m ∧ i % 7 = a ∧ i / 7 % d = k)) 8 (fun w => ∀ i, i < 64 → zb_tb w i = decide (i / 7 < 8 ∧ i % 7 = a ∧ i / 7 % d = k)) (s0 := (0, 0)) ⟨rfl, fun i hi => by
    show zb_tb 0 i = _
    rw [zb_0]
    exact (decide_eq_false (fun q => absurd q.1 (Nat.not_lt_zero _))).symm⟩ (fun m z hm hI => by
    obtain ⟨x, y⟩ := z
    obtain ⟨e, hz⟩ := hI
    have e : y = nI m := e
    subst e
    have hz : ∀ i, i < 64 → zb_tb x i = decide (i / 7 < m ∧ i % 7 = a ∧ i / 7 % d = k) := hz
    have er : nI m - nI m / nI d * nI d = nI (m % d) := pk_rem (by omega) (by omega) (by omega)
    have nd : ¬ nI d ≤ 0 := nI_nle (by omega) (by omega)
    have md : m % d < d := Nat.mod_lt _ (by omega)
    by_cases c : m % d = k
    · have es : nI m * 7 + nI a = nI (m * 7 + a) := by rw [show (7 : Int32) = nI 7 from rfl, pk_mul, nI_add]
      refine ⟨(x ||| ((1 : Int64) <<< ((nI (m * 7 + a)).toInt64 &&& 63)), nI (m + 1)), ?_, rfl, fun i hi => ?_⟩
      · show fb_X6_inWeeks_5 (nI a) (nI d) (nI k) x (nI m) = _
        unfold fb_X6_inWeeks_5
        exact pe_ifn (nI_ge (b := 8) hm (by decide)) (pe_ifn nd (pe_dv (nI_ne0 (by omega) (by omega)) (pe_if (by rw [er, c]) (pe_nm (x := x ||| ((1 : Int64) <<< ((nI (m * 7 + a)).toInt64 &&& 63))) (by rw [es]) (pe_nm (nI_1 m) rfl)))))
      · show zb_tb (x ||| ((1 : Int64) <<< ((nI (m * 7 + a)).toInt64 &&& 63))) i = _
        rw [zb_or, zb_one (by omega), hz i hi, Bool.eq_iff_iff]
        simp only [Bool.or_eq_true, decide_eq_true_iff]
        constructor
        · intro h
          rcases h with ⟨p, q⟩ | p
          · exact ⟨by omega, q⟩
          · have e7 : i / 7 = m := by omega
            rw [e7]
            exact ⟨by omega, by omega, c⟩
        · intro ⟨p, q1, q2⟩
          rcases Nat.lt_or_ge (i / 7) m with z | z
          · exact Or.inl ⟨z, q1, q2⟩
          · exact Or.inr (by omega)
    · refine ⟨(x, nI (m + 1)), ?_, rfl, fun i hi => ?_⟩
      · show fb_X6_inWeeks_5 (nI a) (nI d) (nI k) x (nI m) = _
        unfold fb_X6_inWeeks_5
        exact pe_ifn (nI_ge (b := 8) hm (by decide)) (pe_ifn nd (pe_dv (nI_ne0 (by omega) (by omega)) (pe_ifn (by rw [er]; exact fun e => c ((nI_eq (by omega) (by omega)).mp e)) (pe_nm (nI_1 m) rfl))))
      · show zb_tb x i = _
        rw [hz i hi, Bool.eq_iff_iff]
        simp only [decide_eq_true_iff]
        constructor
        · intro ⟨p, q⟩
          exact ⟨by omega, q⟩
        · intro ⟨p, q1, q2⟩
          rcases Nat.lt_or_ge (i / 7) m with z | z
          · exact ⟨z, q1, q2⟩
          · have e7 : i / 7 = m := by omega
            rw [e7] at q2
            exact absurd q2 c) (fun z hI => by
    obtain ⟨x, y⟩ := z
    obtain ⟨e, hz⟩ := hI
    have e : y = nI 8 := e
    subst e
    refine ⟨x, ?_, hz⟩
    show fb_X6_inWeeks_5 (nI a) (nI d) (nI k) x (nI 8) = _
    unfold fb_X6_inWeeks_5
    exact pe_if (Int32.le_refl _) rfl) (by decide)
  refine ⟨w, pe_b1 ew rfl, fun i hi => ?_⟩
  rw [hw i hi, Bool.eq_iff_iff]
  simp only [Bool.and_eq_true, decide_eq_true_iff]
  exact ⟨fun ⟨p, q⟩ => ⟨by omega, q⟩, fun ⟨p, q⟩ => ⟨by omega, q⟩⟩
/-! a rule is put into its place by rank -/
/-- a row whose places from r - m on are moved by one (each through φ) -/
def zs_ar {α : Type} (φ : α → α) (f : Nat → α) (r m : Nat) : Nat → α := fun j => if r - m < j ∧ j ≤ r then φ (f (j - 1)) else f j
theorem zs_ar_lo {α : Type} {φ : α → α} {f : Nat → α} {r m j : Nat} (h : j ≤ r - m) : zs_ar φ f r m j = f j := if_neg (by omega)
theorem zs_ar_hi {α : Type} {φ : α → α} {f : Nat → α} {r m j : Nat} (h1 : r - m < j) (h2 : j ≤ r) : zs_ar φ f r m j = φ (f (j - 1)) := if_pos ⟨h1, h2⟩
theorem zs_ar0 {α : Type} (φ : α → α) (f : Nat → α) (r : Nat) : zs_ar φ f r 0 = f := by
  funext j
  exact if_neg (by omega)
theorem zs_arN {α : Type} {φ : α → α} {f : Nat → α} {r m j : Nat} (h : m < r) (c : j ≠ r - m) : zs_ar φ f r m j = zs_ar φ f r (m + 1) j := by
  by_cases d : r - m < j ∧ j ≤ r
  · rw [zs_ar_hi d.1 d.2, zs_ar_hi (by omega) d.2]
  · have e1 : zs_ar φ f r m j = f j := if_neg d
    have e2 : zs_ar φ f r (m + 1) j = f j := if_neg (by omega)
    rw [e1, e2]
theorem zs_arS {φ : Int32 → Int32} {f : Nat → Int32} {r m : Nat} (h : m < r) : upd (zs_ar φ f r m) (r - m) (φ (zs_ar φ f r m (r - m - 1))) = zs_ar φ f r (m + 1) := by
  funext j
  by_cases c : j = r - m
  · rw [c, pk_us, zs_ar_lo (by omega), zs_ar_hi (by omega) (by omega)]
  · rw [pk_un c]; exact zs_arN h c
theorem zs_arL {φ : Int64 → Int64} {f : Nat → Int64} {r m : Nat} (h : m < r) : vp_updL (zs_ar φ f r m) (r - m) (φ (zs_ar φ f r m (r - m - 1))) = zs_ar φ f r (m + 1) := by
  funext j
  by_cases c : j = r - m
  · rw [c, pk_uLs, zs_ar_lo (by omega), zs_ar_hi (by omega) (by omega)]
  · rw [pk_uLn c]; exact zs_arN h c
theorem zs_cpy {nu rk tu : Nat → Int32} {on tl : Nat → Int64} {i k : Nat} (hi : i < 10) (hk : k < 10) : fn_X2_copyRule_al nu on rk tl tu (nI i) (nI k) = some (upd nu k (nu i), vp_updL on k (on i), upd rk k (rk i), vp_updL tl k (tl i), upd tu k (vp_nar .boolean (tu i))) := by
  have ci : (nI i).toNatClampNeg = i := nI_clamp (by omega)
  have ck : (nI k).toNatClampNeg = k := nI_clamp (by omega)
  unfold fn_X2_copyRule_al
  rw [ci, ck]
  exact pe_ifn (nI_pos (by omega)) (pe_ifn (nI_ge (b := 10) hi (by decide)) (pe_ifn (nI_pos (by omega)) (pe_if (nI_lt (b := 10) hk (by decide)) (pe_chk hi (by decide) (pe_chk hk (by decide) (pe_nm rfl (pe_chk hi (by decide) (pe_chk hk (by decide) (pe_nm rfl (pe_chk hi (by decide) (pe_chk hk (by decide) (pe_nm rfl (pe_chk hi (by decide) (pe_chk hk (by decide) (pe_nm rfl (pe_chk hi (by decide) (pe_chk hk (by decide) (pe_nm rfl rfl))))))))))))))))))
def zs_b (b : Nat → Nat) (k r : Nat) : Nat → Nat := fun j => if j < k then b j else if j = k then r else b (j - 1)
theorem zs_b1 {b : Nat → Nat} {k r j : Nat} (h : j < k) : zs_b b k r j = b j := if_pos h
theorem zs_b2 {b : Nat → Nat} {k r : Nat} : zs_b b k r k = r := by
  unfold zs_b
  rw [if_neg (by omega), if_pos rfl]
theorem zs_b3 {b : Nat → Nat} {k r j : Nat} (h : k < j) : zs_b b k r j = b (j - 1) := by
  unfold zs_b
  rw [if_neg (by omega), if_neg (by omega)]
theorem zs_add {ranks turns numbers mp : Nat → Int32} {told ones : Nat → Int64} {p r rk : Nat} {td on : Int64} {tu : Int32} (hr : r < 10) (hrk : rk ≤ 9) (htu : tu = 0 ∨ tu = 1) (hP : zi_paper (nI r) ranks told ones turns numbers mp (fun _ => nI r) p) (hR : zi_rule (nI rk) td on tu mp (60 * p + 6 * r)) : ∃ by1 on1 rk1 td1 tu1, fn_X2_addRule (nI r) numbers ones ranks told turns (nI rk) td on tu = some (nI (r + 1), by1, on1, rk1, td1, tu1) ∧ zi_paper (nI (r + 1)) rk1 td1 on1 tu1 by1 mp (fun _ => nI (r + 1)) p := by
  obtain ⟨n, hn, e1, -, hok, b, hb1, hb2, hb3, hrule⟩ := hP
  have en : n = r := ((nI_eq (by omega) (by omega)).mp e1).symm
  rw [en] at hok hb1 hb2 hb3 hrule
  have hk9 := hR.1.2.2.2.1
  have hkr : zi_g mp (60 * p + 6 * r + 1) = rk := ((nI_eq (by omega) (by omega)).mp hR.2.1).symm
  have hold : ∀ i, i < r → ranks i = nI (zi_g mp (60 * p + 6 * b i + 1)) ∧ zi_g mp (60 * p + 6 * b i + 1) ≤ 9 := fun i hi => by
    have := hrule i hi
    exact ⟨this.2.1, this.1.2.2.2.1⟩
  obtain ⟨k, ⟨hk1, hk2⟩, hkm⟩ := pk_least (fun k => k ≤ r ∧ ∀ i, k ≤ i → i < r → rk < zi_g mp (60 * p + 6 * b i + 1)) ⟨r, Nat.le_refl _, fun i h1 h2 => absurd h2 (by omega)⟩
  have hstop : k ≠ 0 → zi_g mp (60 * p + 6 * b (k - 1) + 1) ≤ rk := fun q => by
    refine Nat.le_of_not_lt (fun z => hkm (k - 1) (by omega) ⟨by omega, fun i h1 h2 => ?_⟩)
    by_cases e : i = k - 1
    · rw [e]; exact z
    · exact hk2 i (by omega) h2
  have look : ∀ m, m < r → nI (r - m) - 1 = nI (r - m - 1) ∧ zs_ar id ranks r m (nI (r - m) - 1).toNatClampNeg = nI (zi_g mp (60 * p + 6 * b (r - m - 1) + 1)) := fun m hm => by
    have i1 : nI (r - m) - 1 = nI (r - m - 1) := by
      have := nI_pred (r - m - 1)
      rw [show r - m - 1 + 1 = r - m by omega] at this
      exact this
    refine ⟨i1, ?_⟩
    rw [i1, nI_clamp (by omega), zs_ar_lo (by omega), (hold _ (by omega)).1]
  have loop : zz_it (fun z : Int32 × (Nat → Int32) × (Nat → Int64) × (Nat → Int32) × (Nat → Int64) × (Nat → Int32) => fb_X2_addRule_23 (nI rk) z.1 z.2.1 z.2.2.1 z.2.2.2.1 z.2.2.2.2.1 z.2.2.2.2.2) zz_fuel (nI r, numbers, ones, ranks, told, turns) = some (nI k, zs_ar id numbers r (r - k), zs_ar id ones r (r - k), zs_ar id ranks r (r - k), zs_ar id told r (r - k), zs_ar (vp_nar .boolean) turns r (r - k)) := by
    refine pe_itE (fun m => (nI (r - m), zs_ar id numbers r m, zs_ar id ones r m, zs_ar id ranks r m, zs_ar id told r m, zs_ar (vp_nar .boolean) turns r m)) (r - k) ?_ ?_ ?_ (by omega)
    · show (nI (r - 0), zs_ar id numbers r 0, zs_ar id ones r 0, zs_ar id ranks r 0, zs_ar id told r 0, zs_ar (vp_nar .boolean) turns r 0) = _
      rw [zs_ar0, zs_ar0, zs_ar0, zs_ar0, zs_ar0, Nat.sub_zero]
    · intro m hm
      show fb_X2_addRule_23 (nI rk) (nI (r - m)) (zs_ar id numbers r m) (zs_ar id ones r m) (zs_ar id ranks r m) (zs_ar id told r m) (zs_ar (vp_nar .boolean) turns r m) = _
      obtain ⟨i1, er⟩ := look m (by omega)
      have hlt := hk2 (r - m - 1) (by omega) (by omega)
      have h9 := (hold (r - m - 1) (by omega)).2
      have cp := zs_cpy (nu := zs_ar id numbers r m) (on := zs_ar id ones r m) (rk := zs_ar id ranks r m) (tl := zs_ar id told r m) (tu := zs_ar (vp_nar .boolean) turns r m) (i := r - m - 1) (k := r - m) (by omega) (by omega)
      have s1 := zs_arS (φ := id) (f := numbers) (r := r) (m := m) (by omega)
      have s2 := zs_arL (φ := id) (f := ones) (r := r) (m := m) (by omega)
      have s3 := zs_arS (φ := id) (f := ranks) (r := r) (m := m) (by omega)
      have s4 := zs_arL (φ := id) (f := told) (r := r) (m := m) (by omega)
      have s5 := zs_arS (φ := vp_nar .boolean) (f := turns) (r := r) (m := m) (by omega)
      simp only [id] at s1 s2 s3 s4
      rw [s1, s2, s3, s4, s5] at cp
      unfold fb_X2_addRule_23
      refine pe_ifn (nI_nle (by omega) (by omega)) (pe_chkE i1 (by omega) (by decide) (pe_ifn (by rw [er]; exact nI_ge hlt (by omega)) (pe_b5 (by rw [i1]; exact cp) (pe_nm (x := nI (r - (m + 1))) ?_ rfl))))
      have := pk_m1 (r - (m + 1))
      rw [show r - (m + 1) + 1 = r - m by omega] at this
      exact this
    · show fb_X2_addRule_23 (nI rk) (nI (r - (r - k))) (zs_ar id numbers r (r - k)) (zs_ar id ones r (r - k)) (zs_ar id ranks r (r - k)) (zs_ar id told r (r - k)) (zs_ar (vp_nar .boolean) turns r (r - k)) = _
      by_cases c : k = 0
      · rw [show nI (r - (r - k)) = nI k by rw [show r - (r - k) = k by omega]]
        unfold fb_X2_addRule_23
        exact pe_if (by rw [c]; decide) rfl
      · obtain ⟨i1, er⟩ := look (r - k) (by omega)
        have ek : r - (r - k) = k := by omega
        rw [ek] at i1 er
        rw [show nI (r - (r - k)) = nI k by rw [ek]]
        unfold fb_X2_addRule_23
        exact pe_ifn (nI_nle (by omega) (by omega)) (pe_chkE i1 (by omega) (by decide) (pe_if (by rw [er]; exact nI_le (hstop c) (by omega)) rfl))
  have ck : (nI k).toNatClampNeg = k := nI_clamp (by omega)
  have hnar : vp_nar .boolean tu = tu := by rcases htu with e | e <;> (rw [e]; rfl)
  refine ⟨upd (zs_ar id numbers r (r - k)) k (nI r), vp_updL (zs_ar id ones r (r - k)) k on, upd (zs_ar id ranks r (r - k)) k (nI rk), vp_updL (zs_ar id told r (r - k)) k td, upd (zs_ar (vp_nar .boolean) turns r (r - k)) k tu, ?_, r + 1, by omega, rfl, rfl, fun x hx => ?_, zs_b b k r, fun j hj => ?_, fun i j hij hj => ?_, fun i j hij hj => ?_, fun j hj => ?_⟩
  · unfold fn_X2_addRule
    exact pe_ifn (nI_pos (by omega)) (pe_if (nI_lt (b := 10) hr (by decide)) (pe_b6 loop (pe_chk (by omega) (by decide) (pe_nm (x := upd (zs_ar id numbers r (r - k)) k (nI r)) (by rw [ck]) (pe_chk (by omega) (by decide) (pe_nm (x := upd (zs_ar id ranks r (r - k)) k (nI rk)) (by rw [ck]) (pe_chk (by omega) (by decide) (pe_nm (x := vp_updL (zs_ar id told r (r - k)) k td) (by rw [ck]) (pe_chk (by omega) (by decide) (pe_nm (x := vp_updL (zs_ar id ones r (r - k)) k on) (by rw [ck]) (pe_chk (by omega) (by decide) (pe_nm (x := upd (zs_ar (vp_nar .boolean) turns r (r - k)) k tu) (by rw [ck, hnar]) (pe_nm (nI_1 r) rfl)))))))))))))
  · by_cases e : x = r
    · rw [e]; exact hR.1
    · exact hok x (by omega)
  · rcases Nat.lt_trichotomy j k with c | c | c
    · have := hb1 j (by omega)
      rw [pk_un (by omega), zs_ar_lo (by omega), zs_b1 c]
      exact ⟨this.1, by omega⟩
    · rw [c, pk_us, zs_b2]
      exact ⟨rfl, by omega⟩
    · have := hb1 (j - 1) (by omega)
      rw [pk_un (by omega), zs_ar_hi (by omega) (by omega), zs_b3 c]
      exact ⟨this.1, by omega⟩
  · rcases Nat.lt_trichotomy i k with c | c | c
    · rcases Nat.lt_trichotomy j k with d | d | d
      · rw [zs_b1 c, zs_b1 d]; exact hb2 i j hij (by omega)
      · rw [zs_b1 c, d, zs_b2]; have := (hb1 i (by omega)).2; omega
      · rw [zs_b1 c, zs_b3 d]; exact hb2 i (j - 1) (by omega) (by omega)
    · rw [c, zs_b2, zs_b3 (by omega)]; have := (hb1 (j - 1) (by omega)).2; omega
    · rw [zs_b3 c, zs_b3 (by omega)]; exact hb2 (i - 1) (j - 1) (by omega) (by omega)
  · rcases Nat.lt_trichotomy i k with c | c | c
    · rcases Nat.lt_trichotomy j k with d | d | d
      · rw [zs_b1 c, zs_b1 d]; exact hb3 i j hij (by omega)
      · rw [zs_b1 c, d, zs_b2, hkr]
        have hs := hstop (by omega)
        by_cases e : i = k - 1
        · rw [e]; exact hs
        · have := hb3 i (k - 1) (by omega) (by omega)
          omega
      · rw [zs_b1 c, zs_b3 d]; exact hb3 i (j - 1) (by omega) (by omega)
    · rw [c, zs_b2, zs_b3 (by omega), hkr]
      exact Nat.le_of_lt (hk2 (j - 1) (by omega) (by omega))
    · rw [zs_b3 c, zs_b3 (by omega)]; exact hb3 (i - 1) (j - 1) (by omega) (by omega)
  · rcases Nat.lt_trichotomy j k with c | c | c
    · rw [pk_un (by omega), pk_uLn (by omega), pk_uLn (by omega), pk_un (by omega), zs_ar_lo (by omega), zs_ar_lo (by omega), zs_ar_lo (by omega), zs_ar_lo (by omega), zs_b1 c]
      exact hrule j (by omega)
    · rw [c, pk_us, pk_uLs, pk_uLs, pk_us, zs_b2]
      exact hR
    · rw [pk_un (by omega), pk_uLn (by omega), pk_uLn (by omega), pk_un (by omega), zs_ar_hi (by omega) (by omega), zs_ar_hi (by omega) (by omega), zs_ar_hi (by omega) (by omega), zs_ar_hi (by omega) (by omega), zs_b3 c]
      have hq := hrule (j - 1) (by omega)
      have et : vp_nar .boolean (turns (j - 1)) = turns (j - 1) := by
        rw [hq.2.2.1]
        by_cases d : zi_g mp (60 * p + 6 * b (j - 1)) = 89
        · rw [if_pos d]; rfl
        · rw [if_neg d]; rfl
      rw [et]
      exact hq
/-! what a rule tells -/
theorem zs_rule {g : Nat → Int32} {q c rk a b k h : Nat} (hc : c = 87 ∨ c = 69 ∨ c = 70 ∨ c = 72 ∨ c = 89) (e0 : g q = nI c) (e1 : g (q + 1) = nI rk) (e2 : g (q + 2) = nI a) (e3 : g (q + 3) = nI b) (e4 : zi_g g (q + 4) = k) (e5 : g (q + 5) = nI h) (hrk : rk ≤ 9) (hh : h ≤ 1) (hW : c = 87 → a ≤ 6 ∧ 1 ≤ b ∧ b ≤ 4 ∧ g (q + 4) = nI k ∧ k < b) (hS : c ≠ 87 → a ≤ b ∧ b ≤ 55) {td on : Int64} {tu : Int32} (htu : tu = if c = 89 then 1 else 0) (htd : ∀ i, i < 64 → zb_tb td i = (decide (i < 56) && (zi_sy c a b k h i false).isSome)) (hon : ∀ i, i < 64 → zb_tb on i = (decide (i < 56) && (zi_sy c a b k h i false == some true))) : zi_rule (nI rk) td on tu g q := by
  have g0 : zi_g g q = c := zi_gn e0 (by omega)
  have g1 : zi_g g (q + 1) = rk := zi_gn e1 (by omega)
  have ab : a < 2 ^ 31 ∧ b < 2 ^ 31 := by
    by_cases w : c = 87
    · have := hW w; omega
    · have := hS w; omega
  have g2 : zi_g g (q + 2) = a := zi_gn e2 ab.1
  have g3 : zi_g g (q + 3) = b := zi_gn e3 ab.2
  have g5 : zi_g g (q + 5) = h := zi_gn e5 (by omega)
  unfold zi_rule zi_ok zi_S
  rw [g0, g1, g2, g3, e4, g5]
  exact ⟨⟨hc, e0, e1, hrk, e2, e3, e5, hh, hW, hS⟩, rfl, htu, htd, hon⟩
theorem zs_syS {c a b k h i : Nat} (hc : c ≠ 87) : (zi_sy c a b k h i false).isSome = decide (a ≤ i ∧ i ≤ b) ∧ (zi_sy c a b k h i false == some true) = (decide (a ≤ i ∧ i ≤ b) && (decide (h = 1) ^^ decide (c = 72 ∧ a + (b - a + 2) / 2 ≤ i))) := by
  unfold zi_sy
  rw [if_neg hc]
  by_cases d : a ≤ i ∧ i ≤ b
  · rw [if_pos d, show decide (a ≤ i ∧ i ≤ b) = true from decide_eq_true d]
    generalize decide (h = 1) = X
    generalize decide (c = 72 ∧ a + (b - a + 2) / 2 ≤ i) = Y
    generalize decide (c = 89) = Z
    cases X <;> cases Y <;> cases Z <;> exact ⟨rfl, rfl⟩
  · rw [if_neg d, show decide (a ≤ i ∧ i ≤ b) = false from decide_eq_false d]
    exact ⟨rfl, rfl⟩
theorem zs_syW {a b k h i : Nat} : (zi_sy 87 a b k h i false).isSome = decide (i % 7 = a ∧ i / 7 % b = k) ∧ (zi_sy 87 a b k h i false == some true) = (decide (i % 7 = a ∧ i / 7 % b = k) && decide (h = 1)) := by
  unfold zi_sy
  rw [if_pos rfl]
  by_cases d : i % 7 = a ∧ i / 7 % b = k
  · rw [if_pos d, show decide (i % 7 = a ∧ i / 7 % b = k) = true from decide_eq_true d]
    generalize decide (h = 1) = X
    cases X <;> exact ⟨rfl, rfl⟩
  · rw [if_neg d, show decide (i % 7 = a ∧ i / 7 % b = k) = false from decide_eq_false d]
    exact ⟨rfl, rfl⟩
theorem zs_ones {td fh : Int64} {hs : Nat} {D late : Nat → Bool} (htd : ∀ i, i < 64 → zb_tb td i = D i) (hfh : ∀ i, i < 64 → zb_tb fh i = (D i && !late i)) (hh : hs ≤ 1) : ∃ on, (if nI hs = 1 then some fh else some (td &&& (fh ^^^ (-1)))) = some on ∧ ∀ i, i < 64 → zb_tb on i = (D i && (decide (hs = 1) ^^ late i)) := by
  have c : hs = 0 ∨ hs = 1 := by omega
  rcases c with rfl | rfl
  · refine ⟨_, pe_ifn (by decide) rfl, fun i hi => ?_⟩
    rw [zb_and, zb_not _ hi, htd i hi, hfh i hi]
    cases D i <;> cases late i <;> rfl
  · refine ⟨_, pe_if rfl rfl, fun i hi => ?_⟩
    rw [hfh i hi]
    cases D i <;> cases late i <;> rfl
def zs_Tell (T : Nat → Nat) (L : Nat) (sg : Nat → Int32) (s : Nat) (mp : Nat → Int32) (q : Nat) : Prop := ∃ (td on : Int64) (tu : Int32), (tu = 0 ∨ tu = 1) ∧ zt_dg T (s + 1) ≤ 9 ∧ zi_rule (nI (zt_dg T (s + 1))) td on tu mp q ∧ ∀ (size : Int32) (byRank : Nat → Int32) (ones : Nat → Int64) (ranks : Nat → Int32) (told : Nat → Int64) (turns : Nat → Int32) (y1 : Int32) (y2 : Nat → Int32) (y3 : Nat → Int64) (y4 : Nat → Int32) (y5 : Nat → Int64) (y6 : Nat → Int32), fn_X2_addRule size byRank ones ranks told turns (nI (zt_dg T (s + 1))) td on tu = some (y1, y2, y3, y4, y5, y6) → fn_X6_tellRule size byRank ones ranks told turns (nI L) sg (nI s) = some (y1, y2, y3, y4, y5, y6)
section ZS
variable {T : Nat → Nat} {L : Nat} {sg mt mp : Nat → Int32}
theorem zs_tellE (h : zt_T T L sg mt) {s q : Nat} (hs : s < L) (hE : T s = 69) (ha : zt_all T L s) (hr : zm_rec T s mp q) : zs_Tell T L sg s mp q := by
  have h64 := h.1
  have e3 : zt_sz (T s) = 3 := by rw [hE]; rfl
  obtain ⟨a1, a2⟩ := zt_E hE (i := 3) (fun i h1 h2 => ha i h1 (by omega))
  have b1 := a1 (by decide)
  have b2 := a2 (by decide)
  obtain ⟨r0, r1, r5, -, rE, -⟩ := hr
  obtain ⟨r2, r3⟩ := rE hE
  rw [e3] at r5
  have r5 : mp (q + 5) = nI (zt_dg T (s + 2)) := r5
  obtain ⟨q69, q70, q72, q87, q89⟩ := zt_b2 _ (h.2 s hs).1
  have d1 : zt_dg T (s + 1) ≤ 9 := by unfold zt_dg; omega
  have d2 : zt_dg T (s + 2) ≤ 1 := by unfold zt_dg; omega
  obtain ⟨on, eon, hon⟩ := zs_ones (td := 72057594037927935) (fh := 72057594037927935) (D := fun i => decide (i < 56)) (late := fun _ => false) (fun i _ => zb_ALL i) (fun i _ => by rw [zb_ALL]; simp) d2
  have f1 : fn_X6_figureAt (nI L) sg (nI s + 1) = some (nI (zt_dg T (s + 1)), ()) := by rw [nI_1]; exact zt_fig h (by omega) (by omega) (by omega)
  have fh : fn_X6_figureAt (nI L) sg (nI s + nI (zt_sz (T s)) - 1) = some (nI (zt_dg T (s + 2)), ()) := by
    rw [e3, nI_add, show s + 3 = s + 2 + 1 by omega, nI_pred]; exact zt_fig h (by omega) (by omega) (by omega)
  have sy := fun i => zs_syS (c := T s) (a := 0) (b := 55) (k := zi_g mp (q + 4)) (h := zt_dg T (s + 2)) (i := i) (by omega)
  refine ⟨72057594037927935, on, 0, Or.inl rfl, d1, zs_rule (by omega) r0 r1 r2 r3 rfl r5 d1 d2 (fun e => by omega) (fun _ => by omega) (by rw [if_neg (by omega)]) (fun i hi => ?_) (fun i hi => ?_), ?_⟩
  · rw [zb_ALL, (sy i).1, Bool.eq_iff_iff]
    simp only [Bool.and_eq_true, decide_eq_true_iff]
    omega
  · rw [hon i hi, (sy i).2, show decide (T s = 72 ∧ 0 + (55 - 0 + 2) / 2 ≤ i) = false from decide_eq_false (by omega)]
    by_cases c : i < 56
    · rw [show decide (i < 56) = true from decide_eq_true c, show decide (0 ≤ i ∧ i ≤ 55) = true from decide_eq_true (by omega)]
      simp
    · rw [show decide (i < 56) = false from decide_eq_false c]; rfl
  · intro size byRank ones ranks told turns y1 y2 y3 y4 y5 y6 e
    unfold fn_X6_tellRule
    exact pe_b2 (zt_sign h hs) (pe_b2 f1 (pe_b2 (zt_size h hs) (pe_b2 fh (pe_b1 (a1 := 72057594037927935) (pe_ifn (fun z => absurd (q87.mp z) (by omega)) (pe_if (q69.mpr hE) rfl)) (pe_b1 (a1 := 72057594037927935) (pe_ifn (fun z => absurd (q72.mp z) (by omega)) rfl) (pe_b1 eon (pe_b1 (a1 := 0) (pe_ifn (fun z => absurd (q89.mp z) (by omega)) rfl) (pe_b6 e rfl))))))))
theorem zs_tellW (h : zt_T T L sg mt) {s q : Nat} (hs : s < L) (hW : T s = 87) (ha : zt_all T L s) (hr : zm_rec T s mp q) : zs_Tell T L sg s mp q := by
  have h64 := h.1
  have e6 : zt_sz (T s) = 6 := by rw [hW]; rfl
  obtain ⟨a1, a2, a3, a4, a5⟩ := zt_W hW (i := 6) (fun i h1 h2 => ha i h1 (by omega))
  have b1 := a1 (by decide)
  have b2 := a2 (by decide)
  have b3 := a3 (by decide)
  have b4 := a4 (by decide)
  have b5 := a5 (by decide)
  obtain ⟨r0, r1, r5, rW, -, -⟩ := hr
  obtain ⟨r2, r3, r4⟩ := rW hW
  rw [e6] at r5
  have r5 : mp (q + 5) = nI (zt_dg T (s + 5)) := r5
  obtain ⟨q69, q70, q72, q87, q89⟩ := zt_b2 _ (h.2 s hs).1
  have d1 : zt_dg T (s + 1) ≤ 9 := by unfold zt_dg; omega
  have d2 : zt_dg T (s + 2) ≤ 6 := by unfold zt_dg; omega
  have d3 : 1 ≤ zt_dg T (s + 3) ∧ zt_dg T (s + 3) ≤ 4 := by unfold zt_dg; omega
  have d4 : zt_dg T (s + 4) < zt_dg T (s + 3) := by unfold zt_dg; omega
  have d5 : zt_dg T (s + 5) ≤ 1 := by unfold zt_dg; omega
  obtain ⟨td, etd, htd⟩ := zs_weeks (a := zt_dg T (s + 2)) (d := zt_dg T (s + 3)) (k := zt_dg T (s + 4)) d2 d3.1 d3.2 (by omega)
  obtain ⟨on, eon, hon⟩ := zs_ones (td := td) (fh := td) (D := fun i => decide (i < 56) && decide (i % 7 = zt_dg T (s + 2) ∧ i / 7 % zt_dg T (s + 3) = zt_dg T (s + 4))) (late := fun _ => false) htd (fun i hi => by rw [htd i hi]; simp) d5
  have j2 : nI s + 2 = nI (s + 2) := nI_add s 2
  have j3 : nI s + 3 = nI (s + 3) := nI_add s 3
  have j4 : nI s + 4 = nI (s + 4) := nI_add s 4
  have f1 : fn_X6_figureAt (nI L) sg (nI s + 1) = some (nI (zt_dg T (s + 1)), ()) := by rw [nI_1]; exact zt_fig h (by omega) (by omega) (by omega)
  have f2 : fn_X6_figureAt (nI L) sg (nI s + 2) = some (nI (zt_dg T (s + 2)), ()) := by rw [j2]; exact zt_fig h (by omega) (by omega) (by omega)
  have f3 : fn_X6_figureAt (nI L) sg (nI s + 3) = some (nI (zt_dg T (s + 3)), ()) := by rw [j3]; exact zt_fig h (by omega) (by omega) (by omega)
  have f4 : fn_X6_figureAt (nI L) sg (nI s + 4) = some (nI (zt_dg T (s + 4)), ()) := by rw [j4]; exact zt_fig h (by omega) (by omega) (by omega)
  have fh : fn_X6_figureAt (nI L) sg (nI s + nI (zt_sz (T s)) - 1) = some (nI (zt_dg T (s + 5)), ()) := by
    rw [e6, nI_add, show s + 6 = s + 5 + 1 by omega, nI_pred]; exact zt_fig h (by omega) (by omega) (by omega)
  have sy := fun i => zs_syW (a := zt_dg T (s + 2)) (b := zt_dg T (s + 3)) (k := zt_dg T (s + 4)) (h := zt_dg T (s + 5)) (i := i)
  refine ⟨td, on, 0, Or.inl rfl, d1, zs_rule (c := 87) (Or.inl rfl) (by rw [r0, hW]) r1 r2 r3 (zi_gn r4 (by omega)) r5 d1 d5 (fun _ => ⟨d2, d3.1, d3.2, r4, d4⟩) (fun e => absurd rfl e) rfl (fun i hi => ?_) (fun i hi => ?_), ?_⟩
  · rw [htd i hi, (sy i).1]
  · rw [hon i hi, (sy i).2, Bool.xor_false, Bool.and_assoc]
  · intro size byRank ones ranks told turns y1 y2 y3 y4 y5 y6 e
    unfold fn_X6_tellRule
    exact pe_b2 (zt_sign h hs) (pe_b2 f1 (pe_b2 (zt_size h hs) (pe_b2 fh (pe_b1 (a1 := td) (pe_if (q87.mpr hW) (pe_b2 f2 (pe_b2 f3 (pe_b2 f4 (pe_b2 etd rfl))))) (pe_b1 (a1 := td) (pe_ifn (fun z => absurd (q72.mp z) (by omega)) rfl) (pe_b1 eon (pe_b1 (a1 := 0) (pe_ifn (fun z => absurd (q89.mp z) (by omega)) rfl) (pe_b6 e rfl))))))))
theorem zs_tellS (h : zt_T T L sg mt) {s q : Nat} (hs : s < L) (h7 : zt_sz (T s) = 7) (hl : T s = 70 ∨ T s = 72 ∨ T s = 89) (ha : zt_all T L s) (hr : zm_rec T s mp q) : zs_Tell T L sg s mp q := by
  have h64 := h.1
  obtain ⟨a1, a2, a3, a4, a5, a6⟩ := zt_S h7 (by omega) (i := 7) (fun i h1 h2 => ha i h1 (by omega))
  have b1 := a1 (by decide)
  have b2 := a2 (by decide)
  have b3 := a3 (by decide)
  have b4 := a4 (by decide)
  have b5 := a5 (by decide)
  have b6 := a6 (by decide)
  obtain ⟨r0, r1, r5, -, -, rS⟩ := hr
  obtain ⟨r2, r3⟩ := rS h7
  rw [h7] at r5
  have r5 : mp (q + 5) = nI (zt_dg T (s + 6)) := r5
  obtain ⟨q69, q70, q72, q87, q89⟩ := zt_b2 _ (h.2 s hs).1
  have d1 : zt_dg T (s + 1) ≤ 9 := by unfold zt_dg; omega
  have d6 : zt_dg T (s + 6) ≤ 1 := by unfold zt_dg; omega
  have j2 : nI s + 2 = nI (s + 2) := nI_add s 2
  have j4 : nI s + 4 = nI (s + 4) := nI_add s 4
  have f1 : fn_X6_figureAt (nI L) sg (nI s + 1) = some (nI (zt_dg T (s + 1)), ()) := by rw [nI_1]; exact zt_fig h (by omega) (by omega) (by omega)
  have fh : fn_X6_figureAt (nI L) sg (nI s + nI (zt_sz (T s)) - 1) = some (nI (zt_dg T (s + 6)), ()) := by
    rw [h7, nI_add, show s + 7 = s + 6 + 1 by omega, nI_pred]; exact zt_fig h (by omega) (by omega) (by omega)
  have na : fn_X6_nightAt (nI L) sg (nI s + 2) = some (nI (10 * zt_dg T (s + 2) + zt_dg T (s + 3)), ()) := by
    rw [j2]; exact zt_night h (j := s + 2) (by omega) (by omega) (by omega) (by show 48 ≤ T (s + 3); omega) (by show T (s + 3) ≤ 57; omega)
  have nb : fn_X6_nightAt (nI L) sg (nI s + 4) = some (nI (10 * zt_dg T (s + 4) + zt_dg T (s + 5)), ()) := by
    rw [j4]; exact zt_night h (j := s + 4) (by omega) (by omega) (by omega) (by show 48 ≤ T (s + 5); omega) (by show T (s + 5) ≤ 57; omega)
  have dab : 10 * zt_dg T (s + 2) + zt_dg T (s + 3) ≤ 10 * zt_dg T (s + 4) + zt_dg T (s + 5) ∧ 10 * zt_dg T (s + 4) + zt_dg T (s + 5) ≤ 55 := by unfold zt_dg; omega
  generalize 10 * zt_dg T (s + 2) + zt_dg T (s + 3) = a at *
  generalize 10 * zt_dg T (s + 4) + zt_dg T (s + 5) = b at *
  obtain ⟨td, etd, htd⟩ := zs_span (a := a) (b := b) (by omega) (by omega)
  have sy := fun i => zs_syS (c := T s) (a := a) (b := b) (k := zi_g mp (q + 4)) (h := zt_dg T (s + 6)) (i := i) (by omega)
  have hcut : ∀ i (X : Bool), (decide (a ≤ i ∧ i ≤ b) && X) = (decide (i < 56) && (decide (a ≤ i ∧ i ≤ b) && X)) := fun i X => by
    by_cases c : i < 56
    · rw [show decide (i < 56) = true from decide_eq_true c, Bool.true_and]
    · rw [show decide (i < 56) = false from decide_eq_false c, show decide (a ≤ i ∧ i ≤ b) = false from decide_eq_false (by omega)]; rfl
  have hfh : ∃ fo, (if (nI (T s)).toInt8.toInt32 = 72 then zz_b2 (fn_X6_nightAt (nI L) sg (nI s + 2)) (fun x64 u65 => zz_b2 (fn_X6_nightAt (nI L) sg (nI s + 4)) (fun x67 u68 => zz_b2 (fn_X1_span x64 (x64 + ((x67 - x64) / 2))) (fun x71 u72 => some x71))) else some td) = some fo ∧ ∀ i, i < 64 → zb_tb fo i = (decide (a ≤ i ∧ i ≤ b) && !decide (T s = 72 ∧ a + (b - a + 2) / 2 ≤ i)) := by
    by_cases c : T s = 72
    · obtain ⟨fo, efo, hfo⟩ := zs_span (a := a) (b := a + (b - a) / 2) (by omega) (by omega)
      have em : nI a + (nI b - nI a) / 2 = nI (a + (b - a) / 2) := by
        rw [pk_sub dab.1, show (2 : Int32) = nI 2 from rfl, pk_div (by omega) (by decide) (by decide), nI_add]
      refine ⟨fo, pe_if (q72.mpr c) (pe_b2 na (pe_b2 nb (pe_b2 (by rw [em]; exact efo) rfl))), fun i hi => ?_⟩
      rw [hfo i hi, Bool.eq_iff_iff]
      simp only [Bool.and_eq_true, decide_eq_true_iff, Bool.not_eq_true', decide_eq_false_iff_not]
      omega
    · refine ⟨td, pe_ifn (fun z => c (q72.mp z)) rfl, fun i hi => ?_⟩
      rw [htd i hi, show decide (T s = 72 ∧ a + (b - a + 2) / 2 ≤ i) = false from decide_eq_false (fun z => c z.1), Bool.not_false, Bool.and_true]
  obtain ⟨fo, efo, hfo⟩ := hfh
  obtain ⟨on, eon, hon⟩ := zs_ones (td := td) (fh := fo) (D := fun i => decide (a ≤ i ∧ i ≤ b)) (late := fun i => decide (T s = 72 ∧ a + (b - a + 2) / 2 ≤ i)) htd hfo d6
  have etu : ∃ tu : Int32, (if (nI (T s)).toInt8.toInt32 = 89 then some (1 : Int32) else some 0) = some tu ∧ tu = (if T s = 89 then 1 else 0) ∧ (tu = 0 ∨ tu = 1) := by
    by_cases c : T s = 89
    · exact ⟨1, pe_if (q89.mpr c) rfl, (if_pos c).symm, Or.inr rfl⟩
    · exact ⟨0, pe_ifn (fun z => c (q89.mp z)) rfl, (if_neg c).symm, Or.inl rfl⟩
  obtain ⟨tu, etu, htu, htu2⟩ := etu
  refine ⟨td, on, tu, htu2, d1, zs_rule (c := T s) (a := a) (b := b) (by omega) r0 r1 r2 r3 rfl r5 d1 d6 (fun e => by omega) (fun _ => dab) htu (fun i hi => ?_) (fun i hi => ?_), ?_⟩
  · have := hcut i true
    rw [Bool.and_true] at this
    rw [htd i hi, (sy i).1]; exact this
  · rw [hon i hi, (sy i).2]; exact hcut i _
  · intro size byRank ones ranks told turns y1 y2 y3 y4 y5 y6 e
    unfold fn_X6_tellRule
    exact pe_b2 (zt_sign h hs) (pe_b2 f1 (pe_b2 (zt_size h hs) (pe_b2 fh (pe_b1 (a1 := td) (pe_ifn (fun z => absurd (q87.mp z) (by omega)) (pe_ifn (fun z => absurd (q69.mp z) (by omega)) (pe_b2 na (pe_b2 nb (pe_b2 etd rfl))))) (pe_b1 (a1 := fo) efo (pe_b1 eon (pe_b1 etu (pe_b6 e rfl))))))))
theorem zs_tell (h : zt_T T L sg mt) {s q : Nat} (hs : s < L) (h0 : zt_sz (T s) ≠ 0) (ha : zt_all T L s) (hr : zm_rec T s mp q) : zs_Tell T L sg s mp q := by
  rcases zt_szc (T s) with ⟨e, -⟩ | ⟨c, e⟩ | ⟨c, e⟩ | ⟨c, e⟩
  · exact absurd e h0
  · exact zs_tellE h hs c ha hr
  · exact zs_tellW h hs c ha hr
  · exact zs_tellS h hs e c ha hr
/-- the whole paper -/
theorem zs_all (h : zt_T T L sg mt) {N p : Nat} (hN : N ≤ 10) (hf : ∀ r, r < N → zt_fine T L r) (hL : zt_st T N = L) (hr : ∀ r, r < N → zm_rec T (zt_st T r) mp (60 * p + 6 * r)) (byRank : Nat → Int32) (ones : Nat → Int64) (ranks : Nat → Int32) (told : Nat → Int64) (turns : Nat → Int32) : ∃ y2 y3 y4 y5 y6, fn_X6_tellTo byRank ones ranks told turns (nI L) sg = some (nI N, y2, y3, y4, y5, y6) ∧ zi_paper (nI N) y4 y5 y3 y6 y2 mp (fun _ => nI N) p := by
  have h64 := h.1
  obtain ⟨w, ew, y2, y3, y4, y5, y6, hw, hp⟩ := pe_itI (b := fun z : Int32 × Int32 × Int32 × (Nat → Int32) × (Nat → Int64) × (Nat → Int32) × (Nat → Int64) × (Nat → Int32) => fb_X6_tellTo_9 (nI L) sg z.1 z.2.1 z.2.2.1 z.2.2.2.1 z.2.2.2.2.1 z.2.2.2.2.2.1 z.2.2.2.2.2.2.1 z.2.2.2.2.2.2.2) (fun k z => ∃ y2 y3 y4 y5 y6, z = (nI (zt_st T k), nI k, nI k, y2, y3, y4, y5, y6) ∧ zi_paper (nI k) y4 y5 y3 y6 y2 mp (fun _ => nI k) p) N (fun w => ∃ y2 y3 y4 y5 y6, w = (nI N, y2, y3, y4, y5, y6) ∧ zi_paper (nI N) y4 y5 y3 y6 y2 mp (fun _ => nI N) p) (s0 := (0, 0, 0, byRank, ones, ranks, told, turns)) ⟨byRank, ones, ranks, told, turns, rfl, 0, by omega, rfl, rfl, fun r h => absurd h (Nat.not_lt_zero r), fun _ => 0, fun j h => absurd h (Nat.not_lt_zero j), fun i j _ h => absurd h (Nat.not_lt_zero j), fun i j _ h => absurd h (Nat.not_lt_zero j), fun j h => absurd h (Nat.not_lt_zero j)⟩ (fun k z hk hI => by
    obtain ⟨y2, y3, y4, y5, y6, rfl, hp⟩ := hI
    obtain ⟨f1, f2, f3⟩ := hf k hk
    obtain ⟨td, on, tu, htu, h9, hR, htell⟩ := zs_tell h f1 f2 f3 (hr k hk)
    obtain ⟨z2, z3, z4, z5, z6, ea, hp'⟩ := zs_add (by omega) h9 htu hp hR
    refine ⟨(nI (zt_st T (k + 1)), nI (k + 1), nI (k + 1), z2, z3, z4, z5, z6), ?_, z2, z3, z4, z5, z6, rfl, hp'⟩
    show fb_X6_tellTo_9 (nI L) sg (nI (zt_st T k)) (nI k) (nI k) y2 y3 y4 y5 y6 = _
    unfold fb_X6_tellTo_9
    exact pe_ifn (nI_ge (b := 10) (by omega) (by decide)) (pe_ifn (nI_ge f1 (by omega)) (pe_b6 (htell _ _ _ _ _ _ _ _ _ _ _ _ ea) (pe_b2 (zt_size h f1) (pe_nm (nI_add _ _) (pe_nm (nI_1 k) rfl)))))) (fun z hI => by
    obtain ⟨y2, y3, y4, y5, y6, rfl, hp⟩ := hI
    refine ⟨(nI N, y2, y3, y4, y5, y6), ?_, y2, y3, y4, y5, y6, rfl, hp⟩
    show fb_X6_tellTo_9 (nI L) sg (nI (zt_st T N)) (nI N) (nI N) y2 y3 y4 y5 y6 = _
    unfold fb_X6_tellTo_9
    by_cases c : 10 ≤ N
    · exact pe_if (nI_le (a := 10) c (by omega)) rfl
    · exact pe_ifn (nI_ge (b := 10) (by omega) (by decide)) (pe_if (nI_le (by omega) (by omega)) rfl)) (by omega)
  subst hw
  exact ⟨y2, y3, y4, y5, y6, pe_b6 ew rfl, hp⟩
end ZS
theorem zs_copy {g mp : Nat → Int32} : zz_it (fun z : Int32 × (Nat → Int32) => fb_X9_paper_14 g z.1 z.2) zz_fuel (0, mp) = some (fun j => if j < 60 then g j else mp j) := by
  refine pe_itE (fun k => (nI k, fun j => if j < k then g j else mp j)) 60 ?_ ?_ ?_ (by decide)
  · exact congrArg (Prod.mk _) (zi_fill0 mp g)
  · intro k hk
    unfold fb_X9_paper_14
    refine pe_ifn (nI_ge (b := 60) hk (by decide)) (pe_chk hk (by decide) (pe_chk (by omega) (by decide) (pe_nm ?_ (pe_nm (nI_1 k) rfl))))
    show upd _ (nI k).toNatClampNeg (g (nI k).toNatClampNeg) = _
    rw [nI_clamp (by omega)]
    exact zi_fill mp g k
  · unfold fb_X9_paper_14
    exact pe_if (Int32.le_refl _) rfl
theorem pf_paper {len mlen size sz1 sz2 : Int32} {sg mt ranks turns byRank rk1 tu1 by1 rk2 tu2 by2 mp mm : Nat → Int32} {told ones tl1 on1 tl2 on2 : Nat → Int64} (hT : zi_text len sg mlen mt) (hP : zi_paper size ranks told ones turns byRank mp mm 0) (h1 : zi_paper sz1 rk1 tl1 on1 tu1 by1 mp mm 1) (h2 : zi_paper sz2 rk2 tl2 on2 tu2 by2 mp mm 2) (g : Nat → Int32) : ∃ r o1 o2 o3 o4 o5 o6 w1 w2 w3 w4 w5 w6, fn_X8_paper size byRank ones ranks told turns len sg = some (r, o1, o2, o3, o4, o5, o6) ∧ fn_X9_paper mlen mm mp g mt = some (r, w1, w2, w3, w4, w5, w6) ∧ zi_paper o1 o4 o5 o3 o6 o2 w5 w4 0 ∧ zi_paper sz1 rk1 tl1 on1 tu1 by1 w5 w4 1 ∧ zi_paper sz2 rk2 tl2 on2 tu2 by2 w5 w4 2 := by
  rcases pf_first hT g with ⟨f, x, y, g', hf, e1, e2⟩ | ⟨L, T, N, x, g', rfl, h, hN, hf, hL, e1, e2, hr⟩
  · exact ⟨-3, size, byRank, ones, ranks, told, turns, x, y, nI f, mm, mp, g', pe_b2 e1 (pe_ifn (zm_m9 hf) rfl), pe_b5 e2 (pe_ifn (zm_m9 hf) rfl), hP, h1, h2⟩
  · obtain ⟨y2, y3, y4, y5, y6, et, hp⟩ := zs_all (mp := fun j => if j < 60 then g' j else mp j) (p := 0) h hN hf hL (fun r hrN => by
      rw [show 60 * 0 + 6 * r = 6 * r by omega]
      exact zm_rec_same (fun j _ _ => if_pos (by omega)) (hr r hrN)) byRank ones ranks told turns
    exact ⟨nI N, nI N, y2, y3, y4, y5, y6, nI N, x, -9, upd mm 0 (nI N), (fun j => if j < 60 then g' j else mp j), g', pe_b2 e1 (pe_if rfl (pe_b6 et rfl)), pe_b5 e2 (pe_if rfl (pe_b1 zs_copy (pe_chk (i := 0) (by decide) (by decide) (pe_nm (x := upd mm 0 (nI N)) rfl rfl)))), zk_same hp (fun t _ => rfl) pk_us, zk_same h1 (fun t ht => if_neg (by omega)) (pk_un (by decide)), zk_same h2 (fun t ht => if_neg (by omega)) (pk_un (by decide))⟩
