/-! mend, changes -/
def zm_on (k : Nat) : Nat := zb_ct (fun i => k.testBit i) 10
theorem zm_bc6 : ∀ k, k < 1024 → fn_J6_bitCount_0f7a4 (nI k) = some (nI (zm_on k), ()) := by decide +kernel
theorem zm_ones {k : Nat} (hk : k < 1024) : fn_X9_ones (nI k) = some (nI (zm_on k), ()) := by
  unfold fn_X9_ones
  refine pe_b1 (pe_itE (fun j => (nI (zb_ct (fun i => k.testBit i) j), nI j)) 10 rfl ?_ ?_ (by decide)) rfl
  · intro j hj
    unfold fb_X9_ones_4
    refine pe_ifn (nI_ge (b := 10) hj (by decide)) (pe_nm (x := nI (zb_ct (fun i => k.testBit i) (j + 1))) ?_ (pe_nm (nI_1 j) rfl))
    show nI _ + ((nI k >>> (nI j &&& 31)) &&& 1) = _
    rw [zi_wobit hk hj, ← zc_b01, nI_add]; rfl
  · unfold fb_X9_ones_4
    exact pe_if (Int32.le_refl _) rfl
def zm_M (on chg : Nat → Nat) (ft : Nat → Bool) : Nat → Nat × Nat × Nat
  | 0 => (11, 0, 0)
  | k + 1 => if (zm_M on chg ft k).1 < on k then zm_M on chg ft k else if ft k = true then zm_M on chg ft k else if on k < (zm_M on chg ft k).1 then (on k, k, chg k) else if (zm_M on chg ft k).2.2 ≤ chg k then zm_M on chg ft k else (on k, k, chg k)
theorem zm_b {on chg : Nat → Nat} {ft : Nat → Bool} (h1 : ∀ k, on k ≤ 11) (h2 : ∀ k, chg k ≤ 56) : ∀ k, (zm_M on chg ft k).1 ≤ 11 ∧ (zm_M on chg ft k).2.2 ≤ 56
  | 0 => ⟨Nat.le_refl _, Nat.zero_le _⟩
  | k + 1 => by
    have ih := zm_b (ft := ft) h1 h2 k
    rw [zm_M]
    split
    · exact ih
    · split
      · exact ih
      · split
        · exact ⟨h1 k, h2 k⟩
        · split
          · exact ih
          · exact ⟨h1 k, h2 k⟩
/-- nights that fight; nights told otherwise -/
def zm_ft (h : Nat → Nat) : Bool := decide (0 < zb_ct (fun i => decide (h i = 3)) 56)
def zm_q (h0 h : Nat → Nat) (i : Nat) : Bool := decide (h0 i ≠ 3) && decide (h i ≠ h0 i)
theorem zm_ft0 {h : Nat → Nat} : zm_ft h = false ↔ ∀ i, i < 56 → h i ≠ 3 := by
  have key : ∀ n, zb_ct (fun i => decide (h i = 3)) n = 0 ↔ ∀ i, i < n → h i ≠ 3 := by
    intro n
    induction n with
    | zero => exact ⟨fun _ i hi => absurd hi (Nat.not_lt_zero i), fun _ => rfl⟩
    | succ n ih =>
      rw [zb_ct]
      constructor
      · intro e i hi
        have e1 : zb_ct (fun i => decide (h i = 3)) n = 0 := by omega
        rcases Nat.lt_or_ge i n with q | q
        · exact ih.mp e1 i q
        · have : i = n := by omega
          subst this
          intro e3
          rw [e3] at e
          simp at e
      · intro hh
        rw [ih.mpr (fun i hi => hh i (by omega))]
        have := hh n (by omega)
        simp [this]
  unfold zm_ft
  rw [decide_eq_false_iff_not, Nat.not_lt, Nat.le_zero]
  exact key 56
theorem zw_of_inj {a b : Nat} (ha : a < 4) (hb : b < 4) (e : zw_of a = zw_of b) : a = b := by
  have : ∀ a, a < 4 → ∀ b, b < 4 → zw_of a = zw_of b → a = b := by decide
  exact this a ha b hb e
theorem zw_of_3 {a : Nat} (ha : a < 4) : zw_of a = 3 ↔ a = 3 := by
  have : ∀ a, a < 4 → (zw_of a = 3 ↔ a = 3) := by decide
  exact this a ha
/-- the class's look at one set -/
theorem zm_c {Z0 O0 F0 Z O F : Int64} {h0 h : Nat → Nat} (hb0 : zr_bits Z0 O0 F0 h0) (hb : zr_bits Z O F h) (h04 : ∀ i, h0 i < 4) (h4 : ∀ i, h i < 4) : (lg_cmp F 0 = 0 ↔ zm_ft h = false) ∧ (zm_ft h = false → zb_ct (zb_tb (((Z0 ^^^ Z) ||| (O0 ^^^ O)) &&& (F0 ^^^ (-1)))) 64 = zb_ct (zm_q h0 h) 56) := by
  constructor
  · rw [zi_cmp_eq, zm_ft0]
    constructor
    · intro e i hi h3
      have := ((hb i).1 hi).2.2
      rw [e, zb_0, h3] at this
      simp at this
    · intro hh
      refine zb_ext (fun i hi => ?_)
      rw [zb_0]
      rcases Nat.lt_or_ge i 56 with q | q
      · rw [((hb i).1 q).2.2]
        simp [hh i q]
      · exact ((hb i).2 q).2.2
  · intro hf
    have hf := zm_ft0.mp hf
    have bits : ∀ i, zb_tb (((Z0 ^^^ Z) ||| (O0 ^^^ O)) &&& (F0 ^^^ (-1))) i = (decide (i < 56) && zm_q h0 h i) := by
      intro i
      rw [zb_and, zb_or, zb_xor, zb_xor]
      rcases Nat.lt_or_ge i 56 with q | q
      · obtain ⟨a1, a2, a3⟩ := (hb0 i).1 q
        obtain ⟨b1, b2, -⟩ := (hb i).1 q
        rw [zb_not _ (by omega), a1, a2, a3, b1, b2]
        unfold zm_q
        have c1 := h04 i
        have c2 := h4 i
        have c3 := hf i q
        simp only [q, decide_true, Bool.true_and]
        have key : ∀ a, a < 4 → ∀ b, b < 4 → b ≠ 3 → (((decide (a = 1) ^^ decide (b = 1)) || (decide (a = 2) ^^ decide (b = 2))) && !decide (a = 3)) = (decide (a ≠ 3) && decide (b ≠ a)) := by decide
        exact key _ c1 _ c2 c3
      · obtain ⟨a1, a2, a3⟩ := (hb0 i).2 q
        obtain ⟨b1, b2, -⟩ := (hb i).2 q
        rw [a1, a2, b1, b2, show decide (i < 56) = false from decide_eq_false (by omega)]; rfl
    rw [zb_ct_cut (fun i hi => by rw [bits, show decide (i < 56) = false from decide_eq_false (by omega)]; rfl)]
    exact zb_ct_cong (fun i hi => by rw [bits]; simp [hi])
/-- the model's look at one set -/
theorem zm_m {my : Int32} {mm mp g : Nat → Int32} {h0 h : Nat → Nat} {k : Nat} (hk : k < 1024) (h04 : ∀ i, h0 i < 4) (h4 : ∀ i, h i < 4) (hg : ∀ i, i < 56 → g i = nI (zw_of (h0 i))) (hk0 : k = 0 → h = h0) (hw : ∀ i, i < 56 → ∃ w, fn_X9_whoseOf mm mp 0 (nI i) my (nI k) = some (nI (zw_of (h i)), w)) (w0 : Int32) : ∃ c f w, zz_it (fun z => fb_X9_layMend_45 my mm mp g (nI k) z.1 z.2.1 z.2.2.1 z.2.2.2) zz_fuel (0, 0, 0, w0) = some (c, f, w) ∧ (f = 0 ↔ zm_ft h = false) ∧ (zm_ft h = false → c = nI (zb_ct (zm_q h0 h) 56)) := by
  have step : ∀ i w, i < 56 → ∃ w', fb_X9_layMend_45 my mm mp g (nI k) (nI (zb_ct (zm_q h0 h) i)) 0 (nI i) w = some (.inl (nI (zb_ct (zm_q h0 h) (i + 1)), (if h i = 3 then 1 else 0), nI (i + 1), w')) := by
    intro i w hi
    have ci : (nI i).toNatClampNeg = i := nI_clamp (by omega)
    have l0 := zw_of3 (h04 i)
    have l1 := zw_of3 (h4 i)
    obtain ⟨w', e⟩ : ∃ w', (if nI k = 0 then zz_chk (nI i) 56 (some (g (nI i).toNatClampNeg, w)) else zz_b2 (fn_X9_whoseOf mm mp (0 : Int32) (nI i) my (nI k)) (fun x456 x457 => some (x456, x457))) = some (nI (zw_of (h i)), w') := by
      by_cases q : k = 0
      · refine ⟨w, pe_if (by rw [q]; rfl) (pe_chk hi (by decide) ?_)⟩
        rw [ci, hg i hi, hk0 q]
      · obtain ⟨w', e⟩ := hw i hi
        exact ⟨w', pe_ifn (nI_ne0 (by omega) (by omega)) (pe_b2 e rfl)⟩
    refine ⟨w', ?_⟩
    unfold fb_X9_layMend_45
    have e3 : (if nI (zw_of (h i)) = 3 then some (1 : Int32) else some 0) = some (if h i = 3 then 1 else 0) := by
      by_cases q : h i = 3
      · rw [if_pos (show nI (zw_of (h i)) = 3 by rw [(zw_of_3 (h4 i)).mpr q]; rfl), if_pos q]
      · rw [if_neg (show ¬ nI (zw_of (h i)) = 3 from fun e => q ((zw_of_3 (h4 i)).mp ((nI_eq (b := 3) (by omega) (by decide)).mp e))), if_neg q]
    refine pe_ifn (nI_ge (b := 56) hi (by decide)) (pe_if rfl (pe_b2 e (pe_b1 e3 (pe_chk hi (by decide) ?_))))
    rw [ci, hg i hi]
    rw [show zb_ct (zm_q h0 h) (i + 1) = zb_ct (zm_q h0 h) i + (if zm_q h0 h i = true then 1 else 0) from rfl]
    by_cases q : h0 i = 3
    · refine pe_if (by rw [(zw_of_3 (h04 i)).mpr q]; rfl) (pe_nm (nI_add _ 0) (pe_nm (nI_1 i) ?_))
      unfold zm_q
      rw [q]; simp
    · refine pe_ifn (fun e => q ((zw_of_3 (h04 i)).mp ((nI_eq (b := 3) (by omega) (by decide)).mp e))) (pe_chk hi (by decide) ?_)
      by_cases q2 : h i = h0 i
      · refine pe_if (by rw [q2]) (pe_nm (nI_add _ 0) (pe_nm (nI_1 i) ?_))
        unfold zm_q
        rw [q2]; simp
      · refine pe_ifn (fun e => q2 (zw_of_inj (h4 i) (h04 i) ((nI_eq (by omega) (by omega)).mp e))) (pe_nm (nI_1 _) (pe_nm (nI_1 i) ?_))
        unfold zm_q
        simp [q, q2]
  by_cases hf : zm_ft h = false
  · have hf' := zm_ft0.mp hf
    obtain ⟨⟨c, f, w⟩, e, e2⟩ := pe_itI (b := fun z => fb_X9_layMend_45 my mm mp g (nI k) z.1 z.2.1 z.2.2.1 z.2.2.2) (s0 := (0, 0, 0, w0)) (fun j st => ∃ w, st = (nI (zb_ct (zm_q h0 h) j), 0, nI j, w)) 56 (fun r => r.1 = nI (zb_ct (zm_q h0 h) 56) ∧ r.2.1 = 0) ⟨w0, rfl⟩ (by
      intro i st hi ⟨w, e⟩
      subst e
      obtain ⟨w', e⟩ := step i w hi
      rw [if_neg (hf' i hi)] at e
      exact ⟨_, e, w', rfl⟩) (by
      intro st ⟨w, e⟩
      subst e
      refine ⟨(_, 0, w), ?_, rfl, rfl⟩
      show fb_X9_layMend_45 _ _ _ _ _ _ 0 (nI 56) w = _
      unfold fb_X9_layMend_45
      exact pe_if (Int32.le_refl _) rfl) (by decide)
    exact ⟨c, f, w, e, ⟨fun _ => hf, fun _ => e2.2⟩, fun _ => e2.1⟩
  · obtain ⟨l, ⟨hl, hl3⟩, hmin⟩ : ∃ l, (l < 56 ∧ h l = 3) ∧ ∀ j, j < l → ¬ (j < 56 ∧ h j = 3) := pk_least (fun l => l < 56 ∧ h l = 3) (by
      apply Classical.byContradiction
      intro hn
      exact hf (zm_ft0.mpr (fun i hi h3 => hn ⟨i, hi, h3⟩)))
    obtain ⟨⟨c, f, w⟩, e, e2⟩ := pe_itI (b := fun z => fb_X9_layMend_45 my mm mp g (nI k) z.1 z.2.1 z.2.2.1 z.2.2.2) (s0 := (0, 0, 0, w0)) (fun j st => ∃ w, st = (nI (zb_ct (zm_q h0 h) j), (if j = l + 1 then 1 else 0), nI j, w)) (l + 1) (fun r => r.2.1 = 1) ⟨w0, by rw [if_neg (by omega)]; rfl⟩ (by
      intro i st hi ⟨w, e⟩
      rw [if_neg (by omega)] at e
      subst e
      obtain ⟨w', e⟩ := step i w (by omega)
      have e1 : (if h i = 3 then (1 : Int32) else 0) = if i + 1 = l + 1 then 1 else 0 := by
        by_cases q : i = l
        · subst q; rw [if_pos hl3, if_pos rfl]
        · rw [if_neg (fun e => hmin i (by omega) ⟨by omega, e⟩), if_neg (by omega)]
      rw [e1] at e
      exact ⟨_, e, w', rfl⟩) (by
      intro st ⟨w, e⟩
      rw [if_pos rfl] at e
      subst e
      refine ⟨(nI (zb_ct (zm_q h0 h) (l + 1)), 1, w), ?_, rfl⟩
      show fb_X9_layMend_45 _ _ _ _ _ _ 1 (nI (l + 1)) w = _
      unfold fb_X9_layMend_45
      by_cases q : 56 ≤ l + 1
      · exact pe_if (nI_le (a := 56) q (by omega)) rfl
      · exact pe_ifn (nI_ge (b := 56) (by omega) (by decide)) (pe_ifn (by decide) rfl)) (by omega)
    refine ⟨c, f, w, e, ⟨fun z => ?_, fun z => absurd z hf⟩, fun z => absurd z hf⟩
    have e2 : f = 1 := e2
    rw [e2] at z
    exact absurd z (by decide)
theorem pf_find {y my size : Int32} {ranks turns byRank : Nat → Int32} {told ones : Nat → Int64} {mp mm : Nat → Int32} (hY : zi_year y my) (hP : zi_paper size ranks told ones turns byRank mp mm 0) (z1 z2 z3 : Int64) (w : Int32) (g : Nat → Int32) : ∃ r c Z O F o1 o2 o3 w1 w3, fn_X8_readPaper y size byRank ones ranks told turns = some (Z, O, F) ∧ fn_X0_find size byRank ones ranks told turns Z O F z1 z2 z3 y = some (o1, o2, o3, r, c) ∧ fn_X9_layMend my w mm mp g = some (r, w1, c, w3) := by
  obtain ⟨h0, h04, ⟨Z0, O0, F0, e0, hb0⟩, hw0, hlay⟩ := pf_read hY hP
  obtain ⟨Y, hY1, rfl, rfl⟩ := hY
  have hread := fun wo (hwo : wo < 1024) => zr_read (y := Y) (wo := wo) hY1 hwo hP
  obtain ⟨n, hn, rfl, hm, hok, -⟩ := hP
  obtain ⟨H, hH⟩ : ∃ H : Nat → Nat → Nat, ∀ wo, H wo = zw_h mp mm 0 wo (decide (Y % 2 = 0)) := ⟨_, fun _ => rfl⟩
  have H4 : ∀ wo i, H wo i < 4 := fun wo i => by rw [hH]; exact zw_h4 hm hn hok i
  have hwho : ∀ wo, wo < 1024 → ∀ i, i < 56 → ∃ w, fn_X9_whoseOf mm mp 0 (nI i) (nI Y) (nI wo) = some (nI (zw_of (H wo i)), w) := by
    intro wo hwo i hi
    refine ⟨nI (zw_t (zw_s mp 0 i wo (decide (Y % 2 = 0))) (zw_rk mp 0) n).2.2, ?_⟩
    rw [hH]
    unfold zw_h
    rw [zi_gn hm (by omega)]
    exact zi_whoseOf (p := 0) (by decide) hi hY1 hwo hn hm hok
  have hH0 : ∀ i, i < 56 → H 0 i = h0 i := by
    intro i hi
    obtain ⟨w1, e1⟩ := hw0 i hi
    obtain ⟨w2, e2⟩ := hwho 0 (by decide) i hi
    have e2' : fn_X9_whoseOf mm mp 0 (nI i) (nI Y) 0 = some (nI (zw_of (H 0 i)), w2) := e2
    rw [e1] at e2'
    have l0 := zw_of3 (h04 i)
    have l1 := zw_of3 (H4 0 i)
    have := (Prod.mk.inj (Option.some.inj e2')).1
    exact (zw_of_inj (h04 i) (H4 0 i) ((nI_eq (by omega) (by omega)).mp this)).symm
  obtain ⟨w', g', elay, hg⟩ := hlay w g
  have hg' : ∀ i, i < 56 → g' i = nI (zw_of (H 0 i)) := fun i hi => by rw [hg i hi, hH0 i hi]
  have hb0' : zr_bits Z0 O0 F0 (H 0) := fun i => ⟨fun hi => by rw [hH0 i hi]; exact (hb0 i).1 hi, (hb0 i).2⟩
  have h2n : 2 ^ n ≤ 1024 := Nat.pow_le_pow_right (by decide) hn
  have hsh : (1 : Int32) <<< (nI n &&& 31) = nI (2 ^ n) := zi_pw n (by omega)
  obtain ⟨chg, hchg⟩ : ∃ chg : Nat → Nat, ∀ k, chg k = zb_ct (zm_q (H 0) (H k)) 56 := ⟨_, fun _ => rfl⟩
  obtain ⟨ft, hft⟩ : ∃ ft : Nat → Bool, ∀ k, ft k = zm_ft (H k) := ⟨_, fun _ => rfl⟩
  have on10 : ∀ k, zm_on k ≤ 11 := fun k => Nat.le_trans (zb_ct_le _ _) (by decide)
  have chg56 : ∀ k, chg k ≤ 56 := fun k => by rw [hchg]; exact zb_ct_le _ _
  have hM := zm_b (ft := ft) on10 chg56
  obtain ⟨⟨o1, o2, o3, r, c⟩, ec, er, ecc⟩ := pe_itI (b := fun z => fb_X0_find_17 (nI Y) (nI n) byRank ones ranks told turns Z0 O0 F0 z.1 z.2.1 z.2.2.1 z.2.2.2.1 z.2.2.2.2.1 z.2.2.2.2.2.1 z.2.2.2.2.2.2) (s0 := (11, 0, z1, z2, z3, 0, 0)) (fun k st => ∃ Z O F, st = (nI (zm_M zm_on chg ft k).1, nI k, Z, O, F, nI (zm_M zm_on chg ft k).2.1, nI (zm_M zm_on chg ft k).2.2)) (2 ^ n) (fun r => r.2.2.2.1 = nI (zm_M zm_on chg ft (2 ^ n)).2.1 ∧ r.2.2.2.2 = nI (zm_M zm_on chg ft (2 ^ n)).2.2) ⟨z1, z2, z3, rfl⟩ (by
    intro k st hk ⟨Z, O, F, e⟩
    subst e
    obtain ⟨m1, m2⟩ := hM k
    have o10 := on10 k
    have c56 := chg56 k
    obtain ⟨Zk, Ok, Fk, ek, hbk⟩ := hread k (by omega)
    rw [← hH] at hbk
    obtain ⟨q1, q2⟩ := zm_c hb0' hbk (H4 0) (H4 k)
    show ∃ s', fb_X0_find_17 _ _ _ _ _ _ _ _ _ _ (nI _) (nI k) Z O F (nI _) (nI _) = _ ∧ _
    unfold fb_X0_find_17
    by_cases c1 : (zm_M zm_on chg ft k).1 < zm_on k
    · refine ⟨_, pe_ifn (by rw [hsh]; exact nI_ge hk (by omega)) (pe_b2 (zm_bc6 k (by omega)) (pe_ifn (nI_ge c1 (by omega)) (pe_nm (nI_1 k) rfl))), Z, O, F, ?_⟩
      rw [zm_M, if_pos c1]
    · have c1' : zm_on k ≤ (zm_M zm_on chg ft k).1 := by omega
      by_cases c2 : ft k = true
      · refine ⟨_, pe_ifn (by rw [hsh]; exact nI_ge hk (by omega)) (pe_b2 (zm_bc6 k (by omega)) (pe_if (nI_le c1' (by omega)) (pe_b3 ek (pe_ifn (fun z => by rw [hft, q1.mp z] at c2; exact Bool.noConfusion c2) (pe_nm (nI_1 k) rfl))))), Zk, Ok, Fk, ?_⟩
        rw [zm_M, if_neg c1, if_pos c2]
      · have c2' : zm_ft (H k) = false := by rw [← hft]; simpa using c2
        have eb : fn_J13_bitCount_95d88 (((Z0 ^^^ Zk) ||| (O0 ^^^ Ok)) &&& (F0 ^^^ (-1))) = some (nI (chg k), ()) := by rw [zb_bc, q2 c2', hchg]
        by_cases c3 : zm_on k < (zm_M zm_on chg ft k).1
        · refine ⟨_, pe_ifn (by rw [hsh]; exact nI_ge hk (by omega)) (pe_b2 (zm_bc6 k (by omega)) (pe_if (nI_le c1' (by omega)) (pe_b3 ek (pe_if (q1.mpr c2') (pe_b2 rfl (pe_b2 eb (pe_if (nI_lt c3 (by omega)) (pe_nm (nI_1 k) rfl)))))))), Zk, Ok, Fk, ?_⟩
          rw [zm_M, if_neg c1, if_neg c2, if_pos c3]
        · by_cases c4 : (zm_M zm_on chg ft k).2.2 ≤ chg k
          · refine ⟨_, pe_ifn (by rw [hsh]; exact nI_ge hk (by omega)) (pe_b2 (zm_bc6 k (by omega)) (pe_if (nI_le c1' (by omega)) (pe_b3 ek (pe_if (q1.mpr c2') (pe_b2 rfl (pe_b2 eb (pe_ifn (nI_nlt (by omega) (by omega)) (pe_if (nI_le c4 (by omega)) (pe_nm (nI_1 k) rfl))))))))), Zk, Ok, Fk, ?_⟩
            rw [zm_M, if_neg c1, if_neg c2, if_neg c3, if_pos c4]
          · refine ⟨_, pe_ifn (by rw [hsh]; exact nI_ge hk (by omega)) (pe_b2 (zm_bc6 k (by omega)) (pe_if (nI_le c1' (by omega)) (pe_b3 ek (pe_if (q1.mpr c2') (pe_b2 rfl (pe_b2 eb (pe_ifn (nI_nlt (by omega) (by omega)) (pe_ifn (nI_ge (by omega) (by omega)) (pe_nm (nI_1 k) rfl))))))))), Zk, Ok, Fk, ?_⟩
            rw [zm_M, if_neg c1, if_neg c2, if_neg c3, if_neg c4]) (by
    intro st ⟨Z, O, F, e⟩
    subst e
    refine ⟨(Z, O, F, _, _), ?_, rfl, rfl⟩
    show fb_X0_find_17 _ _ _ _ _ _ _ _ _ _ (nI _) (nI (2 ^ n)) Z O F (nI _) (nI _) = _
    unfold fb_X0_find_17
    exact pe_if (by rw [hsh]; exact Int32.le_refl _) rfl) (by omega)
  obtain ⟨⟨r', w1, c'⟩, em, er', ecc'⟩ := pe_itI (b := fun z => fb_X9_layMend_16 (nI Y) mm mp g' z.1 z.2.1 z.2.2.1 z.2.2.2.1 z.2.2.2.2) (s0 := (0, 11, 0, w', 0)) (fun k st => ∃ w, st = (nI (zm_M zm_on chg ft k).2.1, nI (zm_M zm_on chg ft k).1, nI k, w, nI (zm_M zm_on chg ft k).2.2)) (2 ^ n) (fun r => r.1 = nI (zm_M zm_on chg ft (2 ^ n)).2.1 ∧ r.2.2 = nI (zm_M zm_on chg ft (2 ^ n)).2.2) ⟨w', rfl⟩ (by
    intro k st hk ⟨w0, e⟩
    subst e
    obtain ⟨m1, m2⟩ := hM k
    have o10 := on10 k
    have c56 := chg56 k
    obtain ⟨cc, f, w2, el, q1, q2⟩ := zm_m (my := nI Y) (mm := mm) (mp := mp) (g := g') (h0 := H 0) (h := H k) (k := k) (by omega) (H4 0) (H4 k) hg' (fun e => by rw [e]) (hwho k (by omega)) w0
    have hsh' : (1 : Int32) <<< (mm (0 : Int32).toNatClampNeg &&& 31) = nI (2 ^ n) := by rw [show (0 : Int32).toNatClampNeg = 0 from rfl, hm]; exact hsh
    have eo := zm_ones (k := k) (by omega)
    show ∃ s', fb_X9_layMend_16 _ _ _ _ (nI _) (nI _) (nI k) w0 (nI _) = _ ∧ _
    unfold fb_X9_layMend_16
    by_cases c1 : (zm_M zm_on chg ft k).1 < zm_on k
    · refine ⟨_, pe_chk (i := 0) (by decide) (by decide) (pe_ifn (by rw [hsh']; exact nI_ge hk (by omega)) (pe_b2 eo (pe_if (nI_lt c1 (by omega)) (pe_nm (nI_1 k) rfl)))), w0, ?_⟩
      rw [zm_M, if_pos c1]
    · have c1' : zm_on k ≤ (zm_M zm_on chg ft k).1 := by omega
      by_cases c2 : ft k = true
      · refine ⟨_, pe_chk (i := 0) (by decide) (by decide) (pe_ifn (by rw [hsh']; exact nI_ge hk (by omega)) (pe_b2 eo (pe_ifn (nI_nlt c1' (by omega)) (pe_b3 el (pe_ifn (fun z => by rw [hft, q1.mp z] at c2; exact Bool.noConfusion c2) (pe_nm (nI_1 k) rfl)))))), w2, ?_⟩
        rw [zm_M, if_neg c1, if_pos c2]
      · have c2' : zm_ft (H k) = false := by rw [← hft]; simpa using c2
        have ecc := q2 c2'
        rw [← hchg] at ecc
        subst ecc
        by_cases c3 : zm_on k < (zm_M zm_on chg ft k).1
        · refine ⟨_, pe_chk (i := 0) (by decide) (by decide) (pe_ifn (by rw [hsh']; exact nI_ge hk (by omega)) (pe_b2 eo (pe_ifn (nI_nlt c1' (by omega)) (pe_b3 el (pe_if (q1.mpr c2') (pe_b2 eo (pe_if (nI_lt c3 (by omega)) (pe_b2 eo (pe_nm (nI_1 k) rfl))))))))), w2, ?_⟩
          rw [zm_M, if_neg c1, if_neg c2, if_pos c3]
        · by_cases c4 : (zm_M zm_on chg ft k).2.2 ≤ chg k
          · refine ⟨_, pe_chk (i := 0) (by decide) (by decide) (pe_ifn (by rw [hsh']; exact nI_ge hk (by omega)) (pe_b2 eo (pe_ifn (nI_nlt c1' (by omega)) (pe_b3 el (pe_if (q1.mpr c2') (pe_b2 eo (pe_ifn (nI_nlt (by omega) (by omega)) (pe_if (nI_le c4 (by omega)) (pe_nm (nI_1 k) rfl))))))))), w2, ?_⟩
            rw [zm_M, if_neg c1, if_neg c2, if_neg c3, if_pos c4]
          · refine ⟨_, pe_chk (i := 0) (by decide) (by decide) (pe_ifn (by rw [hsh']; exact nI_ge hk (by omega)) (pe_b2 eo (pe_ifn (nI_nlt c1' (by omega)) (pe_b3 el (pe_if (q1.mpr c2') (pe_b2 eo (pe_ifn (nI_nlt (by omega) (by omega)) (pe_ifn (nI_ge (by omega) (by omega)) (pe_b2 eo (pe_nm (nI_1 k) rfl)))))))))), w2, ?_⟩
            rw [zm_M, if_neg c1, if_neg c2, if_neg c3, if_neg c4]) (by
    intro st ⟨w0, e⟩
    subst e
    refine ⟨(_, w0, _), ?_, rfl, rfl⟩
    show fb_X9_layMend_16 _ _ _ _ (nI _) (nI _) (nI (2 ^ n)) w0 (nI _) = _
    unfold fb_X9_layMend_16
    exact pe_chk (i := 0) (by decide) (by decide) (pe_if (by rw [show (0 : Int32).toNatClampNeg = 0 from rfl, hm, hsh]; exact Int32.le_refl _) rfl)) (by omega)
  have er1 : r = r' := er.trans er'.symm
  have ec1 : c = c' := ecc.trans ecc'.symm
  subst er1 ec1
  exact ⟨r, c, Z0, O0, F0, o1, o2, o3, w1, g', e0, pe_b5 ec rfl, pe_b2 elay (pe_b3 em rfl)⟩
theorem pf_mend {y my size : Int32} {ranks turns byRank : Nat → Int32} {told ones : Nat → Int64} {mp mm : Nat → Int32} (hY : zi_year y my) (hP : zi_paper size ranks told ones turns byRank mp mm 0) (z1 z2 z3 : Int64) (w : Int32) (g : Nat → Int32) : ∃ r o1 o2 o3 o4 o5 o6 o7 o8 w1 w2 w3, fn_X8_mend y size byRank ones ranks told turns z1 z2 z3 = some (r, o1, o2, o3, o4, o5, o6, o7, o8) ∧ fn_X9_mend my w mm mp g = some (r, w1, w2, w3) := by
  obtain ⟨r, c, Z, O, F, o1, o2, o3, w1, w3, e0, e1, e2⟩ := pf_find hY hP z1 z2 z3 w g
  exact ⟨r, r, c, o1, o2, o3, Z, O, F, w1, c, w3, pe_b3 e0 (pe_b5 e1 rfl), pe_b4 e2 rfl⟩
theorem pf_changes {y my size : Int32} {ranks turns byRank : Nat → Int32} {told ones : Nat → Int64} {mp mm : Nat → Int32} (hY : zi_year y my) (hP : zi_paper size ranks told ones turns byRank mp mm 0) (z1 z2 z3 : Int64) (w : Int32) (g : Nat → Int32) : ∃ r o1 o2 o3 o4 o5 o6 o7 o8 w1 w2 w3, fn_X8_changes y size byRank ones ranks told turns z1 z2 z3 = some (r, o1, o2, o3, o4, o5, o6, o7, o8) ∧ fn_X9_changes my w mm mp g = some (r, w1, w2, w3) := by
  obtain ⟨r, c, Z, O, F, o1, o2, o3, w1, w3, e0, e1, e2⟩ := pf_find hY hP z1 z2 z3 w g
  exact ⟨c, r, c, o1, o2, o3, Z, O, F, w1, c, w3, pe_b3 e0 (pe_b5 e1 rfl), pe_b4 e2 rfl⟩
