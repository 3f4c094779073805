/-! what the model's paper says of a night -/
theorem pe_chkE {α : Type} {x : Int32} {i n : Nat} {k : Option α} {r : Option α} (hx : x = nI i) (h : i < n) (hn : n < 2 ^ 31) (hk : k = r) : zz_chk x n k = r := by
  rw [hx]; exact pe_chk h hn hk
def zi_code : Option Bool → Int32
  | none => -9
  | some b => if b = true then 1 else 0
theorem zi_rem {i d : Nat} (hi : i < 2 ^ 31) (h0 : 0 < d) (hd : d < 2 ^ 31) : nI i - nI i / nI d * nI d = nI (i % d) := pk_rem hi h0 hd
theorem zi_codeh {h : Nat} (hh : h ≤ 1) : nI h = zi_code (some (decide (h = 1))) := by
  have : h = 0 ∨ h = 1 := by omega
  rcases this with rfl | rfl <;> rfl
theorem zi_codeh1 {h : Nat} (hh : h ≤ 1) : 1 - nI h = zi_code (some (!decide (h = 1))) := by
  have : h = 0 ∨ h = 1 := by omega
  rcases this with rfl | rfl <;> rfl
theorem zi_sayspan {c a b k h i : Nat} {ev : Bool} (hc : c ≠ 87) (hi : a ≤ i ∧ i ≤ b) : zi_sy c a b k h i ev = some (decide (h = 1) ^^ (decide (c = 72 ∧ a + (b - a + 2) / 2 ≤ i) || (decide (c = 89) && ev))) := by
  unfold zi_sy; rw [if_neg hc, if_pos hi]
theorem zi_says9 {mp : Nat → Int32} {p r i y : Nat} (hp : p < 3) (hr : r < 10) (hi : i < 56) (hy : y ≤ 99) (ok : zi_ok mp (60 * p + 6 * r)) : fn_X9_saysOf mp (nI p) (nI r) (nI i) (nI y) = some (zi_code (zi_S mp (60 * p + 6 * r) i (decide (y % 2 = 0))), ()) := by
  unfold fn_X9_saysOf
  obtain ⟨q, hq⟩ : ∃ q, q = 60 * p + 6 * r := ⟨_, rfl⟩
  rw [← hq] at ok ⊢
  have hq180 : q + 5 < 180 := by omega
  obtain ⟨oc, o0, o1, o1', o2, o3, o5, o5', oW, oS⟩ := ok
  have e0 : (60 * nI p) + (6 * nI r) = nI q := by
    rw [show (60 : Int32) = nI 60 from rfl, show (6 : Int32) = nI 6 from rfl, pk_mul, pk_mul, nI_add, hq]
  have a2 : nI q + 2 = nI (q + 2) := nI_add q 2
  have a3 : nI q + 3 = nI (q + 3) := nI_add q 3
  have a4 : nI q + 4 = nI (q + 4) := nI_add q 4
  have a5 : nI q + 5 = nI (q + 5) := nI_add q 5
  have c0 : (nI q).toNatClampNeg = q := nI_clamp (by omega)
  have c2 : (nI q + 2).toNatClampNeg = q + 2 := by rw [a2]; exact nI_clamp (by omega)
  have c3 : (nI q + 3).toNatClampNeg = q + 3 := by rw [a3]; exact nI_clamp (by omega)
  have c4 : (nI q + 4).toNatClampNeg = q + 4 := by rw [a4]; exact nI_clamp (by omega)
  have c5 : (nI q + 5).toNatClampNeg = q + 5 := by rw [a5]; exact nI_clamp (by omega)
  have lc : zi_g mp q < 100 := by omega
  refine pe_nm e0 (pe_chkE a5 hq180 (by decide) (pe_nm (show mp (nI q + 5).toNatClampNeg = nI (zi_g mp (q + 5)) by rw [c5]; exact o5) (pe_chk (by omega) (by decide) ?_)))
  have v0 : mp (nI q).toNatClampNeg = nI (zi_g mp q) := by rw [c0]; exact o0
  have v2 : mp (nI q + 2).toNatClampNeg = nI (zi_g mp (q + 2)) := by rw [c2]; exact o2
  have v3 : mp (nI q + 3).toNatClampNeg = nI (zi_g mp (q + 3)) := by rw [c3]; exact o3
  unfold zi_S
  by_cases hW : zi_g mp q = 87
  · obtain ⟨w1, w2, w3, w4, w5⟩ := oW hW
    have v4 : mp (nI q + 4).toNatClampNeg = nI (zi_g mp (q + 4)) := by rw [c4]; exact w4
    have m7 : nI i - nI i / 7 * 7 = nI (i % 7) := pk_rem (d := 7) (by omega) (by decide) (by decide)
    have d7 : nI i / 7 = nI (i / 7) := pk_div (d := 7) (by omega) (by decide) (by decide)
    refine pe_if (show mp (nI q).toNatClampNeg = 87 by rw [v0, hW]; rfl) (pe_chkE a2 (by omega) (by decide) ?_)
    unfold zi_sy
    rw [if_pos hW]
    by_cases d1 : i % 7 = zi_g mp (q + 2)
    · refine pe_if (show nI i - nI i / 7 * 7 = mp (nI q + 2).toNatClampNeg by rw [v2, ← d1]; exact m7) (pe_chkE a3 (by omega) (by decide) (pe_dv (show ¬ mp (nI q + 3).toNatClampNeg = 0 by rw [v3]; exact nI_ne0 w2 (by omega)) (pe_chkE a4 (by omega) (by decide) ?_)))
      have md : nI i / 7 - nI i / 7 / mp (nI q + 3).toNatClampNeg * mp (nI q + 3).toNatClampNeg = nI (i / 7 % zi_g mp (q + 3)) := by
        rw [v3, d7]; exact pk_rem (by omega) (by omega) (by omega)
      by_cases d2 : i / 7 % zi_g mp (q + 3) = zi_g mp (q + 4)
      · refine pe_if (by rw [md, v4, d2]) ?_
        rw [if_pos ⟨d1, d2⟩, zi_codeh o5']
      · refine pe_ifn (fun z => d2 ?_) ?_
        · rw [md, v4] at z
          exact (nI_eq (Nat.lt_of_lt_of_le (Nat.mod_lt _ (by omega)) (by omega)) (by omega)).mp z
        · rw [if_neg (fun z => d2 z.2)]; rfl
    · refine pe_ifn (fun z => d1 ?_) ?_
      · have z : nI i - nI i / 7 * 7 = mp (nI q + 2).toNatClampNeg := z
        rw [v2, m7] at z
        exact (nI_eq (by omega) (by omega)).mp z
      · rw [if_neg (fun z => d1 z.1)]; rfl
  · obtain ⟨s1, s2⟩ := oS hW
    have t2 : (nI (zi_g mp (q + 2))).toInt64.toInt = (zi_g mp (q + 2) : Int) := by rw [Int32.toInt_toInt64]; exact nI_toInt (by omega)
    have t3 : (nI (zi_g mp (q + 3))).toInt64.toInt = (zi_g mp (q + 3) : Int) := by rw [Int32.toInt_toInt64]; exact nI_toInt (by omega)
    have ti : (nI i).toInt = (i : Int) := nI_toInt (by omega)
    refine pe_ifn (fun z => hW ?_) (pe_chkE a2 (by omega) (by decide) (pe_nm v2 (pe_chkE a3 (by omega) (by decide) (pe_nm v3 (pe_b2 (zi_in (nI i) t2 t3) ?_)))))
    · rw [v0] at z; exact (nI_eq (b := 87) (by omega) (by decide)).mp z
    by_cases d : zi_g mp (q + 2) ≤ i ∧ i ≤ zi_g mp (q + 3)
    · rw [zi_sayspan hW d]
      have hY : zz_chk (nI q) 180 (if mp (nI q).toNatClampNeg = 89 then (if nI y - nI y / 2 * 2 = 0 then some (1 : Int32) else some 0) else some 0) = some (if (decide (zi_g mp q = 89) && decide (y % 2 = 0)) = true then 1 else 0) := by
        refine pe_chk (by omega) (by decide) ?_
        by_cases y1 : zi_g mp q = 89
        · refine pe_if (by rw [v0, y1]; rfl) ?_
          have my : nI y - nI y / 2 * 2 = nI (y % 2) := pk_rem (d := 2) (by omega) (by decide) (by decide)
          by_cases y2 : y % 2 = 0
          · exact pe_if (by rw [my, y2]; rfl) (by simp [y1, y2])
          · exact pe_ifn (fun z => y2 (by rw [my] at z; exact (nI_eq (b := 0) (by omega) (by decide)).mp z)) (by simp [y2])
        · exact pe_ifn (fun z => y1 (by rw [v0] at z; exact (nI_eq (b := 89) (by omega) (by decide)).mp z)) (by simp [y1])
      obtain ⟨Hf, eHf⟩ : ∃ z, z = zi_g mp (q + 2) + (zi_g mp (q + 3) - zi_g mp (q + 2) + 2) / 2 := ⟨_, rfl⟩
      have half : nI (zi_g mp (q + 2)) + (((nI (zi_g mp (q + 3)) - nI (zi_g mp (q + 2))) + 2) / 2) = nI Hf := by
        rw [pk_sub s1, show (2 : Int32) = nI 2 from rfl, nI_add, pk_div (by omega) (by decide) (by decide), nI_add, eHf]
      rw [← eHf]
      refine pe_ifn (zi_i1 (by rw [ti]; omega)) (pe_chk (by omega) (by decide) (pe_b1 (a1 := if (decide (zi_g mp q = 72 ∧ Hf ≤ i) || (decide (zi_g mp q = 89) && decide (y % 2 = 0))) = true then 1 else 0) ?_ ?_))
      · by_cases h1 : zi_g mp q = 72
        · refine pe_if (by rw [v0, h1]; rfl) ?_
          by_cases h2 : Hf ≤ i
          · exact pe_if (by rw [half]; exact nI_le h2 (by omega)) (by simp [h1, h2])
          · refine pe_ifn (by rw [half]; exact nI_ge (by omega) (by omega)) ?_
            rw [hY]; simp [h2]
        · refine pe_ifn (fun z => h1 (by rw [v0] at z; exact (nI_eq (b := 72) (by omega) (by decide)).mp z)) ?_
          rw [hY]; simp [h1]
      · generalize (decide (zi_g mp q = 72 ∧ Hf ≤ i) || (decide (zi_g mp q = 89) && decide (y % 2 = 0))) = O
        cases O
        · refine pe_if rfl ?_
          rw [zi_codeh o5', Bool.xor_false]
        · refine pe_ifn (by decide) ?_
          rw [zi_codeh1 o5', Bool.xor_true]
    · refine pe_if (zi_i0 (by rw [ti]; omega)) ?_
      unfold zi_sy
      rw [if_neg hW, if_neg d]; rfl
/-! whose: the model's loop, as a row of states -/
/-- what a rule says, unless it is left out -/
def zw_s (mp : Nat → Int32) (p i wo : Nat) (ev : Bool) (r : Nat) : Option Bool := if wo.testBit r = true then none else zi_S mp (60 * p + 6 * r) i ev
/-- rank, houses, words behind k rules -/
def zw_t (s : Nat → Option Bool) (rk : Nat → Nat) : Nat → Nat × Nat × Nat
  | 0 => (10, 0, 0)
  | k + 1 => match s k with
    | none => zw_t s rk k
    | some b => if (zw_t s rk k).1 < rk k then zw_t s rk k else (rk k, (if rk k < (zw_t s rk k).1 then 0 else (zw_t s rk k).2.1) ||| 2 ^ zc_b b, (if rk k < (zw_t s rk k).1 then 0 else (zw_t s rk k).2.2) ||| 2 ^ k)
def zw_of (h : Nat) : Nat := if h = 0 then 2 else if h = 3 then 3 else h - 1
theorem zw_inv (s : Nat → Option Bool) (rk : Nat → Nat) : ∀ k, (∀ r, r < k → rk r ≤ 9) → (zw_t s rk k).1 ≤ 10 ∧ (zw_t s rk k).2.1 < 4 ∧ (zw_t s rk k).2.2 < 2 ^ k
  | 0, _ => ⟨Nat.le_refl _, (show 0 < 4 by decide), (show 0 < 2 ^ 0 by decide)⟩
  | k + 1, hrk => by
    obtain ⟨i1, i2, i3⟩ := zw_inv s rk k (fun r hr => hrk r (by omega))
    have hp : 2 ^ k < 2 ^ (k + 1) := Nat.pow_lt_pow_of_lt (by decide) (by omega)
    have h9 := hrk k (by omega)
    rw [zw_t]
    cases hs : s k with
    | none => exact ⟨i1, i2, by show (zw_t s rk k).2.2 < _; omega⟩
    | some b =>
      dsimp only
      by_cases c : (zw_t s rk k).1 < rk k
      · rw [if_pos c]; exact ⟨i1, i2, by omega⟩
      · rw [if_neg c]
        refine ⟨by show rk k ≤ 10; omega, ?_, ?_⟩
        · show (if rk k < (zw_t s rk k).1 then 0 else (zw_t s rk k).2.1) ||| 2 ^ zc_b b < 2 ^ 2
          refine Nat.or_lt_two_pow ?_ ?_
          · split
            · decide
            · exact i2
          · cases b <;> decide
        · show (if rk k < (zw_t s rk k).1 then 0 else (zw_t s rk k).2.2) ||| 2 ^ k < 2 ^ (k + 1)
          refine Nat.or_lt_two_pow ?_ hp
          split
          · exact Nat.pow_pos (by decide)
          · omega
theorem zi_or (a b : Nat) : nI a ||| nI b = nI (a ||| b) := by
  apply Int32.toBitVec_inj.1
  show BitVec.ofNat 32 a ||| BitVec.ofNat 32 b = BitVec.ofNat 32 (a ||| b)
  apply BitVec.eq_of_getLsbD_eq
  intro i hi
  simp [BitVec.getLsbD_ofNat, hi]
theorem zi_sl : ∀ k, k < 32 → ((nI k &&& 31).toBitVec.smod 32).toNat = k := by decide +kernel
theorem zi_pw : ∀ k, k < 31 → (1 : Int32) <<< (nI k &&& 31) = nI (2 ^ k) := by decide +kernel
theorem zi_wobit {wo k : Nat} (hw : wo < 1024) (hk : k < 10) : ((nI wo >>> (nI k &&& 31)) &&& 1) = if wo.testBit k = true then 1 else 0 := by
  have h1 : wo / 2 ^ k ≤ wo := Nat.div_le_self _ _
  rw [pk_shrN (by omega) _ k (zi_sl k (by omega)), pk_andN (by omega) 1 (by decide), Nat.testBit_eq_decide_div_mod_eq]
  have : wo / 2 ^ k % 2 = 0 ∨ wo / 2 ^ k % 2 = 1 := by omega
  rcases this with h | h <;> simp [h, nI]
theorem zi_code9 {o : Option Bool} : zi_code o = -9 ↔ o = none := by
  cases o with
  | none => simp [zi_code]
  | some b => cases b <;> simp [zi_code] <;> decide
theorem zi_codeb (b : Bool) : zi_code (some b) = nI (zc_b b) := by cases b <;> rfl
def zw_rk (mp : Nat → Int32) (p r : Nat) : Nat := zi_g mp (60 * p + 6 * r + 1)
theorem zi_whoseOf {mp mm : Nat → Int32} {p i y wo n : Nat} (hp : p < 3) (hi : i < 56) (hy : y ≤ 99) (hwo : wo < 1024) (hn : n ≤ 10) (hm : mm p = nI n) (ok : ∀ r, r < n → zi_ok mp (60 * p + 6 * r)) : fn_X9_whoseOf mm mp (nI p) (nI i) (nI y) (nI wo) = some (nI (zw_of (zw_t (zw_s mp p i wo (decide (y % 2 = 0))) (zw_rk mp p) n).2.1), nI (zw_t (zw_s mp p i wo (decide (y % 2 = 0))) (zw_rk mp p) n).2.2) := by
  unfold fn_X9_whoseOf
  obtain ⟨s, hs⟩ : ∃ s, s = zw_s mp p i wo (decide (y % 2 = 0)) := ⟨_, rfl⟩
  obtain ⟨rk, hrk⟩ : ∃ rk, rk = zw_rk mp p := ⟨_, rfl⟩
  rw [← hs, ← hrk]
  have h9 : ∀ r, r < n → rk r ≤ 9 := fun r hr => by rw [hrk]; exact (ok r hr).2.2.2.1
  have cp : (nI p).toNatClampNeg = p := nI_clamp (by omega)
  refine pe_b2 (a1 := nI (zw_t s rk n).2.1) (a2 := nI (zw_t s rk n).2.2) (pe_itE (fun k => (nI (zw_t s rk k).1, nI (zw_t s rk k).2.1, nI k, nI (zw_t s rk k).2.2)) n rfl ?_ ?_ (by omega)) ?_
  · intro k hk
    obtain ⟨i1, i2, i3⟩ := zw_inv s rk k (fun r hr => h9 r (by omega))
    unfold fb_X9_whoseOf_15
    have ix : (60 * nI p) + (6 * nI k) + 1 = nI (60 * p + 6 * k + 1) := by
      rw [show (60 : Int32) = nI 60 from rfl, show (6 : Int32) = nI 6 from rfl, pk_mul, pk_mul, nI_add]; exact nI_add _ 1
    have cix : ((60 * nI p) + (6 * nI k) + 1).toNatClampNeg = 60 * p + 6 * k + 1 := by rw [ix]; exact nI_clamp (by omega)
    have hmine : mp ((60 * nI p) + (6 * nI k) + 1).toNatClampNeg = nI (rk k) := by rw [cix, hrk]; exact (ok k hk).2.2.1
    have hsay : (if ((nI wo >>> (nI k &&& 31)) &&& 1) = 1 then some (-9 : Int32) else zz_b2 (fn_X9_saysOf mp (nI p) (nI k) (nI i) (nI y)) (fun x84 u85 => some x84)) = some (zi_code (s k)) := by
      rw [zi_wobit hwo (by omega), hs]
      unfold zw_s
      cases hb : wo.testBit k
      · refine pe_ifn (by simp) (pe_b2 (zi_says9 hp (by omega) hi hy (ok k hk)) ?_)
        simp
      · refine pe_if (by simp) ?_
        simp [zi_code]
    refine pe_chk hp (by decide) (pe_ifn (by show ¬ mm (nI p).toNatClampNeg ≤ nI k; rw [cp, hm]; exact nI_ge hk (by omega)) (pe_b1 hsay (pe_chkE ix (by omega) (by decide) (pe_nm hmine ?_))))
    have h9k := h9 k hk
    show _ = some (Sum.inl (nI (zw_t s rk (k + 1)).1, nI (zw_t s rk (k + 1)).2.1, nI (k + 1), nI (zw_t s rk (k + 1)).2.2))
    rw [zw_t]
    cases hsk : s k with
    | none => exact pe_if rfl (pe_nm (nI_1 k) rfl)
    | some b =>
      refine pe_ifn (fun z => absurd (zi_code9.mp z) (by simp)) ?_
      dsimp only
      by_cases c : (zw_t s rk k).1 < rk k
      · rw [if_pos c]
        exact pe_if (nI_lt c (by omega)) (pe_nm (nI_1 k) rfl)
      · rw [if_neg c]
        refine pe_ifn (nI_nlt (by omega) (by omega)) (pe_b1 (a1 := nI (if rk k < (zw_t s rk k).1 then 0 else (zw_t s rk k).2.1)) ?_ (pe_nm ?_ (pe_b1 (a1 := nI (if rk k < (zw_t s rk k).1 then 0 else (zw_t s rk k).2.2)) ?_ (pe_nm ?_ (pe_nm (nI_1 k) rfl)))))
        · by_cases d : rk k < (zw_t s rk k).1
          · rw [if_pos d]; exact pe_ifn (nI_ge d (by omega)) rfl
          · rw [if_neg d]; exact pe_if (nI_le (by omega) (by omega)) rfl
        · rw [zi_codeb, zi_pw _ (by have := zc_b2 b; omega), zi_or]
        · by_cases d : rk k < (zw_t s rk k).1
          · rw [if_pos d]; exact pe_ifn (nI_ge d (by omega)) rfl
          · rw [if_neg d]; exact pe_if (nI_le (by omega) (by omega)) rfl
        · rw [zi_pw _ (by omega), zi_or]
  · unfold fb_X9_whoseOf_15
    refine pe_chk hp (by decide) (pe_if ?_ rfl)
    show mm (nI p).toNatClampNeg ≤ nI n
    rw [cp, hm]; exact Int32.le_refl _
  · obtain ⟨i1, i2, i3⟩ := zw_inv s rk n h9
    unfold zw_of
    by_cases c0 : (zw_t s rk n).2.1 = 0
    · rw [if_pos c0, c0]; exact pe_if rfl rfl
    · rw [if_neg c0]
      refine pe_ifn (fun z => c0 ((nI_eq (b := 0) (by omega) (by decide)).mp z)) ?_
      by_cases c3 : (zw_t s rk n).2.1 = 3
      · rw [if_pos c3, c3]; exact pe_if rfl rfl
      · rw [if_neg c3]
        refine pe_ifn (fun z => c3 ((nI_eq (b := 3) (by omega) (by decide)).mp z)) ?_
        rw [show (1 : Int32) = nI 1 from rfl, pk_sub (by omega)]
