/-! comparisons by toInt; the small tests; the relations that the two states keep -/
theorem zi_lt {x y : Int32} : x < y ↔ x.toInt < y.toInt := Int32.lt_iff_toInt_lt
theorem zi_le {x y : Int32} : x ≤ y ↔ x.toInt ≤ y.toInt := Int32.le_iff_toInt_le
theorem zi_ltc {x c : Int32} {C : Int} (hc : c.toInt = C) : x < c ↔ x.toInt < C := by rw [zi_lt, hc]
theorem zi_clt {x c : Int32} {C : Int} (hc : c.toInt = C) : c < x ↔ C < x.toInt := by rw [zi_lt, hc]
theorem zi_lec {x c : Int32} {C : Int} (hc : c.toInt = C) : x ≤ c ↔ x.toInt ≤ C := by rw [zi_le, hc]
theorem zi_cle {x c : Int32} {C : Int} (hc : c.toInt = C) : c ≤ x ↔ C ≤ x.toInt := by rw [zi_le, hc]
theorem zi_cmp_lt (x y : Int64) : lg_cmp x y < 0 ↔ x.toInt < y.toInt := by
  unfold lg_cmp
  by_cases h1 : x > y
  · rw [if_pos h1]
    have h2 : y.toInt < x.toInt := Int64.lt_iff_toInt_lt.mp h1
    exact ⟨fun h => absurd h (by decide), fun h => by omega⟩
  · rw [if_neg h1]
    have h2 : ¬ y.toInt < x.toInt := fun h => h1 (Int64.lt_iff_toInt_lt.mpr h)
    by_cases h3 : x = y
    · rw [if_pos h3, h3]
      exact ⟨fun h => absurd h (by decide), fun h => by omega⟩
    · rw [if_neg h3]
      have h4 : x.toInt ≠ y.toInt := fun e => h3 (Int64.toInt_inj.mp e)
      exact ⟨fun _ => by omega, fun _ => by decide⟩
theorem zi_cmp_gt (x y : Int64) : 0 < lg_cmp x y ↔ y.toInt < x.toInt := by
  unfold lg_cmp
  by_cases h1 : x > y
  · rw [if_pos h1]
    exact ⟨fun _ => Int64.lt_iff_toInt_lt.mp h1, fun _ => by decide⟩
  · rw [if_neg h1]
    have h2 : ¬ y.toInt < x.toInt := fun h => h1 (Int64.lt_iff_toInt_lt.mpr h)
    by_cases h3 : x = y
    · rw [if_pos h3]
      exact ⟨fun h => absurd h (by decide), fun h => absurd h h2⟩
    · rw [if_neg h3]
      exact ⟨fun h => absurd h (by decide), fun h => absurd h h2⟩
theorem zi_cmp_eq (x y : Int64) : lg_cmp x y = 0 ↔ x = y := by
  unfold lg_cmp
  by_cases h1 : x > y
  · rw [if_pos h1]
    refine ⟨fun h => absurd h (by decide), fun h => ?_⟩
    subst h
    have h2 := Int64.lt_iff_toInt_lt.mp h1
    omega
  · rw [if_neg h1]
    by_cases h3 : x = y
    · rw [if_pos h3]; exact ⟨fun _ => h3, fun _ => rfl⟩
    · rw [if_neg h3]; exact ⟨fun h => absurd h (by decide), fun h => absurd h h3⟩
theorem zi_in (x : Int32) {a b : Int64} {A B : Int} (ha : a.toInt = A) (hb : b.toInt = B) : fn_X9_in x.toInt64 a b = some (if A ≤ x.toInt ∧ x.toInt ≤ B then 1 else 0, ()) := by
  have e : x.toInt64.toInt = x.toInt := Int32.toInt_toInt64 x
  unfold fn_X9_in
  by_cases h1 : x.toInt < A
  · refine pe_if ((zi_cmp_lt _ _).mpr (by rw [e, ha]; exact h1)) ?_
    rw [if_neg (by omega)]
  · refine pe_ifn (fun h => h1 (by have := (zi_cmp_lt _ _).mp h; rw [e, ha] at this; exact this)) ?_
    by_cases h2 : B < x.toInt
    · refine pe_if ((zi_cmp_gt _ _).mpr (by rw [e, hb]; exact h2)) ?_
      rw [if_neg (by omega)]
    · refine pe_ifn (fun h => h2 (by have := (zi_cmp_gt _ _).mp h; rw [e, hb] at this; exact this)) ?_
      rw [if_pos (by omega)]
theorem zi_rng {x : Int32} {B : Nat} (h0 : 0 ≤ x.toInt) (h1 : x.toInt ≤ B) (hB : B < 2 ^ 31) : ∃ k : Nat, k ≤ B ∧ x = nI k :=
  ⟨x.toInt.toNat, by omega, Int32.toInt_inj.mp (by rw [nI_toInt (by omega)]; omega)⟩
theorem zi_night9 (p : Int32) : fn_X9_isNight p = some (if 0 ≤ p.toInt ∧ p.toInt ≤ 55 then 1 else 0, ()) := by
  unfold fn_X9_isNight
  refine pe_b2 (zi_in p (A := 0) (B := 55) (by decide) (by decide)) ?_
  exact pe_bl (by split <;> simp) rfl
theorem zi_house9 (p : Int32) : fn_X9_isHouse p = some (if 0 ≤ p.toInt ∧ p.toInt ≤ 1 then 1 else 0, ()) := by
  unfold fn_X9_isHouse
  refine pe_b2 (zi_in p (A := 0) (B := 1) (by decide) (by decide)) ?_
  exact pe_bl (by split <;> simp) rfl
theorem zi_tst (p c : Int32) {C : Int} (hc : c.toInt = C + 1) : (if p < 0 then some ((0 : Int32), ()) else (if c ≤ p then some (0, ()) else some (1, ()))) = some (if 0 ≤ p.toInt ∧ p.toInt ≤ C then 1 else 0, ()) := by
  by_cases h1 : p.toInt < 0
  · exact pe_if ((zi_ltc (by decide)).mpr h1) (by rw [if_neg (by omega)])
  · refine pe_ifn (fun h => h1 ((zi_ltc (by decide)).mp h)) ?_
    by_cases h2 : C + 1 ≤ p.toInt
    · exact pe_if (zi_le.mpr (by rw [hc]; exact h2)) (by rw [if_neg (by omega)])
    · exact pe_ifn (fun h => h2 (by have := zi_le.mp h; rw [hc] at this; exact this)) (by rw [if_pos (by omega)])
theorem zi_night8 (p : Int32) : fn_X8_isNight p = some (if 0 ≤ p.toInt ∧ p.toInt ≤ 55 then 1 else 0, ()) := zi_tst p 56 (by decide)
theorem zi_house8 (p : Int32) : fn_X8_isHouse p = some (if 0 ≤ p.toInt ∧ p.toInt ≤ 1 then 1 else 0, ()) := zi_tst p 2 (by decide)
theorem zi_slot8 (p : Int32) : fn_X8_isSlot p = some (if 0 ≤ p.toInt ∧ p.toInt ≤ 1 then 1 else 0, ()) := zi_tst p 2 (by decide)
theorem zi_i0 {c : Prop} [Decidable c] (h : ¬ c) : (if c then (1 : Int32) else 0) = 0 := if_neg h
theorem zi_i1 {c : Prop} [Decidable c] (h : c) : ¬ (if c then (1 : Int32) else 0) = 0 := by rw [if_pos h]; decide
theorem zi_bit (pl : Int64) {k : Nat} (hk : k < 64) : ((pl.toUInt64 >>> ((nI k).toInt64.toUInt64 &&& Int64.toUInt64 63)).toInt64 &&& 1) = if zb_tb pl k = true then 1 else 0 := by
  apply zb_ext
  intro i _
  rw [zb_and, zb_shr _ hk, zb_1]
  cases hb : zb_tb pl k <;> by_cases h : i = 0 <;> simp [h, hb, zb_1, zb_0]
theorem zi_houseAt (pl : Int64) {k : Nat} (hk : k < 64) : fn_X1_houseAt pl (nI k) = some (if zb_tb pl k = true then 1 else 0, ()) := by
  unfold fn_X1_houseAt
  rw [zi_bit pl hk]
  cases zb_tb pl k <;> rfl
theorem zi_holds (pl : Int64) {k : Nat} (hk : k < 64) : fn_X1_holds pl (nI k) = some (if zb_tb pl k = true then 1 else 0, ()) := by
  unfold fn_X1_holds
  rw [zi_bit pl hk]
  cases zb_tb pl k <;> rfl
theorem zi_place (pl : Int64) {k : Nat} (hk : k < 64) (p2 : Int32) : ∃ o, fn_X5_place pl (nI k) p2 = some o ∧ ∀ i, i < 64 → zb_tb o i = if i = k then !decide (p2 = 0) else zb_tb pl i := by
  unfold fn_X5_place
  by_cases h : p2 = 0
  · refine ⟨_, pe_nm rfl (pe_if h (pe_nm rfl rfl)), fun i hi => ?_⟩
    rw [zb_and, zb_not _ hi, zb_one hk]
    by_cases e : i = k <;> simp [e, h]
  · refine ⟨_, pe_nm rfl (pe_ifn h (pe_nm rfl rfl)), fun i hi => ?_⟩
    rw [zb_or, zb_one hk]
    by_cases e : i = k <;> simp [e, h]
def zi_g (f : Nat → Int32) (j : Nat) : Nat := (f j).toNatClampNeg
def zi_text (len : Int32) (sg : Nat → Int32) (mlen : Int32) (mt : Nat → Int32) : Prop := ∃ n : Nat, n ≤ 64 ∧ len = nI n ∧ mlen = nI n ∧ ∀ j, j < n → ∃ t : Nat, t < 256 ∧ mt j = nI t ∧ sg j = (nI t).toInt8.toInt32
def zi_year (y my : Int32) : Prop := ∃ n : Nat, n ≤ 99 ∧ y = nI n ∧ my = nI n
/-- what a rule says: its letter, its numbers, its house; the night; whether the year is even -/
def zi_sy (c a b k h i : Nat) (ev : Bool) : Option Bool :=
  if c = 87 then (if i % 7 = a ∧ i / 7 % b = k then some (decide (h = 1)) else none)
  else if a ≤ i ∧ i ≤ b then some (decide (h = 1) ^^ (decide (c = 72 ∧ a + (b - a + 2) / 2 ≤ i) || (decide (c = 89) && ev))) else none
def zi_S (mp : Nat → Int32) (q i : Nat) (ev : Bool) : Option Bool := zi_sy (zi_g mp q) (zi_g mp (q + 2)) (zi_g mp (q + 3)) (zi_g mp (q + 4)) (zi_g mp (q + 5)) i ev
/-- six numbers of the model's paper are a rule -/
def zi_ok (mp : Nat → Int32) (q : Nat) : Prop := (zi_g mp q = 87 ∨ zi_g mp q = 69 ∨ zi_g mp q = 70 ∨ zi_g mp q = 72 ∨ zi_g mp q = 89) ∧ mp q = nI (zi_g mp q) ∧ mp (q + 1) = nI (zi_g mp (q + 1)) ∧ zi_g mp (q + 1) ≤ 9 ∧ mp (q + 2) = nI (zi_g mp (q + 2)) ∧ mp (q + 3) = nI (zi_g mp (q + 3)) ∧ mp (q + 5) = nI (zi_g mp (q + 5)) ∧ zi_g mp (q + 5) ≤ 1 ∧ (zi_g mp q = 87 → zi_g mp (q + 2) ≤ 6 ∧ 1 ≤ zi_g mp (q + 3) ∧ zi_g mp (q + 3) ≤ 4 ∧ mp (q + 4) = nI (zi_g mp (q + 4)) ∧ zi_g mp (q + 4) < zi_g mp (q + 3)) ∧ (zi_g mp q ≠ 87 → zi_g mp (q + 2) ≤ zi_g mp (q + 3) ∧ zi_g mp (q + 3) ≤ 55)
def zi_rule (rank : Int32) (told ones : Int64) (turns : Int32) (mp : Nat → Int32) (q : Nat) : Prop := zi_ok mp q ∧ rank = nI (zi_g mp (q + 1)) ∧ turns = (if zi_g mp q = 89 then 1 else 0) ∧ (∀ i, i < 64 → zb_tb told i = (decide (i < 56) && (zi_S mp q i false).isSome)) ∧ ∀ i, i < 64 → zb_tb ones i = (decide (i < 56) && (zi_S mp q i false == some true))
/-- a paper: rules stand in the order of their ranks; b says which rule stands at a place -/
def zi_paper (size : Int32) (ranks : Nat → Int32) (told ones : Nat → Int64) (turns numbers : Nat → Int32) (mp mm : Nat → Int32) (p : Nat) : Prop := ∃ n : Nat, n ≤ 10 ∧ size = nI n ∧ mm p = nI n ∧ (∀ r, r < n → zi_ok mp (60 * p + 6 * r)) ∧ ∃ b : Nat → Nat, (∀ j, j < n → numbers j = nI (b j) ∧ b j < n) ∧ (∀ i j, i < j → j < n → b i ≠ b j) ∧ (∀ i j, i < j → j < n → zi_g mp (60 * p + 6 * b i + 1) ≤ zi_g mp (60 * p + 6 * b j + 1)) ∧ ∀ j, j < n → zi_rule (ranks j) (told j) (ones j) (turns j) mp (60 * p + 6 * b j)
def zi_plan (pl : Int64) (mpl : Nat → Int32) (off : Nat) : Prop := (∀ i, i < 56 → mpl (off + i) = if zb_tb pl i = true then 1 else 0) ∧ ∀ i, 56 ≤ i → zb_tb pl i = false
def zi_two (a b : Nat → Int32) (off : Nat) : Prop := a 0 = b off ∧ a 1 = b (off + 1)
def zi_flag (k : Int32) (mk : Nat → Int32) (j : Nat) : Prop := (k = 0 ∨ k = 1) ∧ mk j = k
def zi_price (wn wh ww : Nat → Int32) (n h : Nat) : Nat → Nat
  | 0 => 0
  | k + 1 => zi_price wn wh ww n h k + (if zi_g wn k = n ∧ ¬ zi_g wh k = h then zi_g ww k else 0)
def zi_wishes (lo pl ph wa : Int32) (ag : Nat → Int32) (mo ab ha mw : Int32) (wn wh ww : Nat → Int32) : Prop := ∃ m a j w : Nat, 1 ≤ m ∧ m ≤ 14 ∧ a ≤ 9 ∧ j ≤ 9 ∧ w ≤ 12 ∧ lo = nI m ∧ mo = nI m ∧ pl = nI a ∧ ab = nI a ∧ ph = nI j ∧ ha = nI j ∧ wa = nI w ∧ mw = nI w ∧ (∀ k, k < w → wn k = nI (zi_g wn k) ∧ zi_g wn k < 56 ∧ wh k = nI (zi_g wh k) ∧ zi_g wh k ≤ 1 ∧ ww k = nI (zi_g ww k) ∧ zi_g ww k ≤ 9) ∧ ∀ n h, n < 56 → h < 2 → ag (h * 56 + n) = nI (zi_price wn wh ww n h w)
theorem zi_gn {f : Nat → Int32} {j n : Nat} (h : f j = nI n) (hn : n < 2 ^ 31) : zi_g f j = n := by unfold zi_g; rw [h]; exact nI_clamp hn
/-! the easy operations -/
theorem pf_year {y my : Int32} (p1 : Int32) (h : zi_year y my) : ∃ r o w, fn_X8_year y p1 = some (r, o) ∧ fn_X9_year my p1 = some (r, w) ∧ zi_year o w := by
  obtain ⟨n, hn, rfl, rfl⟩ := h
  unfold fn_X8_year fn_X9_year
  by_cases h1 : 0 ≤ p1.toInt ∧ p1.toInt ≤ 99
  · obtain ⟨k, hk, rfl⟩ := zi_rng (B := 99) h1.1 h1.2 (by decide)
    refine ⟨nI n, nI k, nI k, ?_, ?_, k, hk, rfl, rfl⟩
    · exact pe_ifn (nI_pos (by omega)) (pe_if (nI_le (b := 99) hk (by decide)) rfl)
    · exact pe_b2 (zi_in _ (A := 0) (B := 99) (by decide) (by decide)) (pe_ifn (zi_i1 h1) rfl)
  · refine ⟨-2, nI n, nI n, ?_, ?_, n, hn, rfl, rfl⟩
    · by_cases h2 : p1.toInt < 0
      · exact pe_if ((zi_ltc (by decide)).mpr h2) rfl
      · exact pe_ifn (fun h => h2 ((zi_ltc (by decide)).mp h)) (pe_ifn (fun h => h1 ⟨by omega, (zi_lec (by decide)).mp h⟩) rfl)
    · exact pe_b2 (zi_in _ (A := 0) (B := 99) (by decide) (by decide)) (pe_if (zi_i0 h1) rfl)
theorem pf_wipe {len mlen : Int32} {sg mt : Nat → Int32} (h : zi_text len sg mlen mt) : ∃ r o w, fn_X8_wipe len = some (r, o) ∧ fn_X9_wipe mlen = some (r, w) ∧ zi_text o sg w mt := by
  obtain ⟨n, hn, rfl, rfl, -⟩ := h
  exact ⟨nI n, 0, 0, rfl, rfl, 0, by omega, rfl, rfl, fun j hj => absurd hj (Nat.not_lt_zero j)⟩
theorem pf_at {pl : Int64} {mpl : Nat → Int32} (p1 : Int32) (h : zi_plan pl mpl 0) : ∃ r, fn_X8_at pl p1 = some (r, ()) ∧ fn_X9_at mpl p1 = some (r, ()) := by
  unfold fn_X8_at fn_X9_at
  by_cases h1 : 0 ≤ p1.toInt ∧ p1.toInt ≤ 55
  · obtain ⟨k, hk, rfl⟩ := zi_rng (B := 55) h1.1 h1.2 (by decide)
    refine ⟨_, pe_b2 (zi_night8 _) (pe_ifn (zi_i1 h1) (pe_b2 (zi_houseAt pl (by omega)) rfl)), ?_⟩
    refine pe_b2 (zi_night9 _) (pe_ifn (zi_i1 h1) (pe_chk (by omega) (by decide) ?_))
    rw [nI_clamp (by omega), ← h.1 k (by omega), Nat.zero_add]
  · exact ⟨-1, pe_b2 (zi_night8 _) (pe_if (zi_i0 h1) rfl), pe_b2 (zi_night9 _) (pe_if (zi_i0 h1) rfl)⟩
theorem pf_put {pl : Int64} {mpl : Nat → Int32} (p1 p2 : Int32) (h : zi_plan pl mpl 0) : ∃ r o w, fn_X8_put pl p1 p2 = some (r, o) ∧ fn_X9_put mpl p1 p2 = some (r, w) ∧ zi_plan o w 0 := by
  unfold fn_X8_put fn_X9_put
  by_cases h1 : 0 ≤ p1.toInt ∧ p1.toInt ≤ 55
  · by_cases h2 : 0 ≤ p2.toInt ∧ p2.toInt ≤ 1
    · obtain ⟨k, hk, rfl⟩ := zi_rng (B := 55) h1.1 h1.2 (by decide)
      obtain ⟨x, hx, rfl⟩ := zi_rng (B := 1) h2.1 h2.2 (by decide)
      obtain ⟨o, ho, hbits⟩ := zi_place pl (k := k) (by omega) (nI x)
      refine ⟨_, o, upd mpl k (nI x), pe_b2 (zi_night8 _) (pe_ifn (zi_i1 h1) (pe_b2 (zi_house8 _) (pe_ifn (zi_i1 h2) (pe_b2 (zi_houseAt pl (by omega)) (pe_b1 ho rfl))))), ?_, ?_, ?_⟩
      · refine pe_b2 (zi_night9 _) (pe_ifn (zi_i1 h1) (pe_b2 (zi_house9 _) (pe_ifn (zi_i1 h2) (pe_chk (by omega) (by decide) (pe_nm rfl (pe_chk (by omega) (by decide) (pe_nm rfl ?_)))))))
        rw [nI_clamp (by omega), ← h.1 k (by omega), Nat.zero_add]
      · intro i hi
        rw [hbits i (by omega), Nat.zero_add]
        by_cases e : i = k
        · subst e
          rw [pk_us, if_pos rfl]
          have : x = 0 ∨ x = 1 := by omega
          rcases this with rfl | rfl <;> rfl
        · rw [pk_un e, if_neg e, ← h.1 i hi, Nat.zero_add]
      · intro i hi
        by_cases h64 : i < 64
        · rw [hbits i h64, if_neg (by omega)]; exact h.2 i hi
        · exact zb_big o (by omega)
    · exact ⟨-1, pl, mpl, pe_b2 (zi_night8 _) (pe_ifn (zi_i1 h1) (pe_b2 (zi_house8 _) (pe_if (zi_i0 h2) rfl))), pe_b2 (zi_night9 _) (pe_ifn (zi_i1 h1) (pe_b2 (zi_house9 _) (pe_if (zi_i0 h2) rfl))), h⟩
  · exact ⟨-1, pl, mpl, pe_b2 (zi_night8 _) (pe_if (zi_i0 h1) rfl), pe_b2 (zi_night9 _) (pe_if (zi_i0 h1) rfl), h⟩
theorem pf_fines {pa ti mf mt : Nat → Int32} (p1 p2 : Int32) (h1 : zi_two ti mt 0) (h2 : zi_two pa mf 0) : ∃ r, fn_X8_fines pa ti p1 p2 = some (r, ()) ∧ fn_X9_fines mf mt p1 p2 = some (r, ()) := by
  unfold fn_X8_fines fn_X9_fines
  by_cases h : 0 ≤ p1.toInt ∧ p1.toInt ≤ 1
  · obtain ⟨k, hk, rfl⟩ := zi_rng (B := 1) h.1 h.2 (by decide)
    have ek : (nI k).toNatClampNeg = k := nI_clamp (by omega)
    have e1 : pa k = mf k := by
      have : k = 0 ∨ k = 1 := by omega
      rcases this with rfl | rfl
      · exact h2.1
      · exact h2.2
    have e2 : ti k = mt k := by
      have : k = 0 ∨ k = 1 := by omega
      rcases this with rfl | rfl
      · exact h1.1
      · exact h1.2
    by_cases hp : p2 = 0
    · refine ⟨pa k, pe_b2 (zi_house8 _) (pe_ifn (zi_i1 h) (pe_if hp (pe_chk (by omega) (by decide) (by rw [ek])))), pe_b2 (zi_house9 _) (pe_ifn (zi_i1 h) (pe_if hp (pe_chk (by omega) (by decide) (by rw [ek, e1]))))⟩
    · refine ⟨ti k, pe_b2 (zi_house8 _) (pe_ifn (zi_i1 h) (pe_ifn hp (pe_chk (by omega) (by decide) (by rw [ek])))), pe_b2 (zi_house9 _) (pe_ifn (zi_i1 h) (pe_ifn hp (pe_chk (by omega) (by decide) (by rw [ek, e2]))))⟩
  · exact ⟨-1, pe_b2 (zi_house8 _) (pe_if (zi_i0 h) rfl), pe_b2 (zi_house9 _) (pe_if (zi_i0 h) rfl)⟩
theorem pf_wish {lo pl ph wa : Int32} {ag : Nat → Int32} {mo ab ha mw : Int32} {wn wh ww : Nat → Int32} (p1 p2 p3 : Int32) (h : zi_wishes lo pl ph wa ag mo ab ha mw wn wh ww) : ∃ r o1 o2 o3 w1 w2 w3, fn_X8_wish lo pl ph p1 p2 p3 = some (r, o1, o2, o3) ∧ fn_X9_wish mo ab ha p1 p2 p3 = some (r, w1, w2, w3) ∧ zi_wishes o1 o2 o3 wa ag w1 w2 w3 mw wn wh ww := by
  have h0 := h
  obtain ⟨m, a, j, w, g1, g2, g3, g4, g5, rfl, rfl, rfl, rfl, rfl, rfl, rfl, rfl, g6, g7⟩ := h
  unfold fn_X8_wish fn_X9_wish
  by_cases h1 : 1 ≤ p1.toInt ∧ p1.toInt ≤ 14
  · by_cases h2 : 0 ≤ p2.toInt ∧ p2.toInt ≤ 9
    · by_cases h3 : 0 ≤ p3.toInt ∧ p3.toInt ≤ 9
      · obtain ⟨m', hm', rfl⟩ := zi_rng (B := 14) (by omega) h1.2 (by decide)
        obtain ⟨a', ha', rfl⟩ := zi_rng (B := 9) h2.1 h2.2 (by decide)
        obtain ⟨j', hj', rfl⟩ := zi_rng (B := 9) h3.1 h3.2 (by decide)
        have hm1 : 1 ≤ m' := by have := h1.1; rw [nI_toInt (by omega)] at this; omega
        refine ⟨((1000 * nI m) + (10 * nI a)) + nI j, nI m', nI a', nI j', nI m', nI a', nI j', ?_, ?_, m', a', j', w, hm1, hm', ha', hj', g5, rfl, rfl, rfl, rfl, rfl, rfl, rfl, rfl, g6, g7⟩
        · exact pe_ifn (fun h => absurd ((zi_ltc (C := 1) (by decide)).mp h) (by omega)) (pe_ifn (fun h => absurd ((zi_clt (C := 14) (by decide)).mp h) (by omega)) (pe_ifn (fun h => absurd ((zi_ltc (C := 0) (by decide)).mp h) (by omega)) (pe_ifn (fun h => absurd ((zi_clt (C := 9) (by decide)).mp h) (by omega)) (pe_ifn (fun h => absurd ((zi_ltc (C := 0) (by decide)).mp h) (by omega)) (pe_if ((zi_lec (by decide)).mpr h3.2) (pe_nm rfl rfl))))))
        · exact pe_b2 (zi_in _ (A := 1) (B := 14) (by decide) (by decide)) (pe_ifn (zi_i1 h1) (pe_b2 (zi_in _ (A := 0) (B := 9) (by decide) (by decide)) (pe_ifn (zi_i1 h2) (pe_b2 (zi_in _ (A := 0) (B := 9) (by decide) (by decide)) (pe_ifn (zi_i1 h3) (pe_nm rfl rfl))))))
      · refine ⟨-2, nI m, nI a, nI j, nI m, nI a, nI j, ?_, ?_, h0⟩
        · refine pe_ifn (fun h => absurd ((zi_ltc (C := 1) (by decide)).mp h) (by omega)) (pe_ifn (fun h => absurd ((zi_clt (C := 14) (by decide)).mp h) (by omega)) (pe_ifn (fun h => absurd ((zi_ltc (C := 0) (by decide)).mp h) (by omega)) (pe_ifn (fun h => absurd ((zi_clt (C := 9) (by decide)).mp h) (by omega)) ?_)))
          by_cases q : p3.toInt < 0
          · exact pe_if ((zi_ltc (by decide)).mpr q) rfl
          · exact pe_ifn (fun h => q ((zi_ltc (by decide)).mp h)) (pe_ifn (fun h => h3 ⟨by omega, (zi_lec (by decide)).mp h⟩) rfl)
        · exact pe_b2 (zi_in _ (A := 1) (B := 14) (by decide) (by decide)) (pe_ifn (zi_i1 h1) (pe_b2 (zi_in _ (A := 0) (B := 9) (by decide) (by decide)) (pe_ifn (zi_i1 h2) (pe_b2 (zi_in _ (A := 0) (B := 9) (by decide) (by decide)) (pe_if (zi_i0 h3) rfl)))))
    · refine ⟨-2, nI m, nI a, nI j, nI m, nI a, nI j, ?_, ?_, h0⟩
      · refine pe_ifn (fun h => absurd ((zi_ltc (C := 1) (by decide)).mp h) (by omega)) (pe_ifn (fun h => absurd ((zi_clt (C := 14) (by decide)).mp h) (by omega)) ?_)
        by_cases q : p2.toInt < 0
        · exact pe_if ((zi_ltc (by decide)).mpr q) rfl
        · refine pe_ifn (fun h => q ((zi_ltc (by decide)).mp h)) (pe_if ((zi_clt (C := 9) (by decide)).mpr ?_) rfl)
          omega
      · exact pe_b2 (zi_in _ (A := 1) (B := 14) (by decide) (by decide)) (pe_ifn (zi_i1 h1) (pe_b2 (zi_in _ (A := 0) (B := 9) (by decide) (by decide)) (pe_if (zi_i0 h2) rfl)))
  · refine ⟨-2, nI m, nI a, nI j, nI m, nI a, nI j, ?_, ?_, h0⟩
    · by_cases q : p1.toInt < 1
      · exact pe_if ((zi_ltc (by decide)).mpr q) rfl
      · refine pe_ifn (fun h => q ((zi_ltc (by decide)).mp h)) (pe_if ((zi_clt (C := 14) (by decide)).mpr ?_) rfl)
        omega
    · exact pe_b2 (zi_in _ (A := 1) (B := 14) (by decide) (by decide)) (pe_if (zi_i0 h1) rfl)
