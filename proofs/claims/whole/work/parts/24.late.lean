/-! lateness -/
theorem zi_two_up {a b : Nat → Int32} (h : zi_two a b 0) {k : Nat} (hk : k ≤ 1) (v : Int32) : zi_two (upd a k (a k + v)) (upd b k (b k + v)) 0 := by
  have cs : k = 0 ∨ k = 1 := by omega
  obtain ⟨h1, h2⟩ := h
  rcases cs with rfl | rfl
  · exact ⟨by rw [pk_us, pk_us, h1], by rw [pk_un (by decide), pk_un (by decide), h2]⟩
  · exact ⟨by rw [pk_un (by decide), pk_un (by decide), h1], by rw [pk_us, pk_us, h2]⟩
theorem zi_two_at {a b : Nat → Int32} (h : zi_two a b 0) {k : Nat} (hk : k ≤ 1) : a k = b k := by
  have cs : k = 0 ∨ k = 1 := by omega
  rcases cs with rfl | rfl
  · exact h.1
  · exact h.2
theorem zi_fine {pa ti : Nat → Int32} {k : Nat} (hk : k ≤ 1) (v : Int32) : fn_X5_fine pa ti (nI k) v = some (ti k + 1, upd pa k (pa k + v), upd ti k (ti k + 1)) := by
  unfold fn_X5_fine
  have ck : (nI k).toNatClampNeg = k := nI_clamp (by omega)
  refine pe_ifn (nI_pos (by omega)) (pe_if (nI_lt (b := 2) (by omega) (by decide)) (pe_chk (by omega) (by decide) (pe_chk (by omega) (by decide) (pe_nm (by rw [ck]) (pe_chk (by omega) (by decide) (pe_chk (by omega) (by decide) (pe_nm (by rw [ck]) (pe_chk (by omega) (by decide) ?_))))))))
  rw [ck, pk_us]
theorem zi_first0 {x : Int64} (hbig : ∀ i, 56 ≤ i → zb_tb x i = false) : ((∀ i, i < 56 → zb_tb x i = false) ∧ fn_X1_pick x 0 = some (-9, ())) ∨ ∃ l, l < 56 ∧ zb_tb x l = true ∧ (∀ i, i < l → zb_tb x i = false) ∧ fn_X1_pick x 0 = some (nI l, ()) := by
  rcases zl_pick x 0 with ⟨hn, ep⟩ | ⟨k2, l, ek, hl64, q1, q2, q3, ep⟩
  · left
    refine ⟨fun j hj => ?_, ep⟩
    cases q : zb_tb x j
    · rfl
    · exfalso
      have := zb_ct_step (y := 64) q (by omega)
      refine hn ⟨by decide, ?_⟩
      rw [show (0 : Int32).toInt = 0 by decide]; omega
  · right
    have k0 : k2 = 0 := by
      have c3 := zb_ct_le (zb_tb x) l
      exact ((nI_eq (a := 0) (by decide) (by omega)).mp ek).symm
    refine ⟨l, zb_ct_56 hbig q1, q1, fun i hi => ?_, ep⟩
    cases q : zb_tb x i
    · rfl
    · exfalso
      have := zb_ct_step q hi
      omega
theorem pf_late {y my size : Int32} {ranks turns byRank : Nat → Int32} {told ones : Nat → Int64} {mp mm : Nat → Int32} {P : Int64} {mpl pa ti fi tm : Nat → Int32} (hY : zi_year y my) (hP : zi_paper size ranks told ones turns byRank mp mm 0) (hL : zi_plan P mpl 0) (hF : zi_two ti tm 0) (hG : zi_two pa fi 0) (z o f : Int64) (w : Int32) (g : Nat → Int32) (p1 p2 : Int32) : ∃ r o1 o2 o3 o4 o5 o6 w1 w2 w3 w4 w5, fn_X8_late y P pa size byRank ones ranks told turns ti z o f p1 p2 = some (r, o1, o2, o3, o4, o5, o6) ∧ fn_X9_late my w fi mm mp mpl tm g p1 p2 = some (r, w1, w2, w3, w4, w5) ∧ zi_plan o1 w3 0 ∧ zi_two o3 w4 0 ∧ zi_two o2 w2 0 := by
  unfold fn_X8_late fn_X9_late
  by_cases h1 : 0 ≤ p1.toInt ∧ p1.toInt ≤ 55
  · by_cases h2 : 1 ≤ p2.toInt ∧ p2.toInt ≤ 99
    · obtain ⟨k, hk, rfl⟩ := zi_rng (B := 55) h1.1 h1.2 (by decide)
      obtain ⟨hd, ehd, hhd⟩ := zi_handings P
      have c1 : ¬ p2 < 1 := fun q => absurd ((zi_ltc (C := 1) (by decide)).mp q) (by omega)
      have c2 : p2 ≤ 99 := (zi_lec (by decide)).mpr h2.2
      have ck : (nI k).toNatClampNeg = k := nI_clamp (by omega)
      by_cases hh : zc_h (zb_tb P) k = true
      · have k0 : 0 < k := by
          rcases Nat.eq_zero_or_pos k with q | q
          · subst q; simp [zc_h] at hh
          · exact q
        have hne : ¬ zb_tb P k = zb_tb P (k - 1) := by
          intro q
          simp [zc_h, q] at hh
        have e1 : nI k - 1 = nI (k - 1) := by rw [show k = (k - 1) + 1 by omega, nI_pred]; rfl
        have ck1 : (nI k - 1).toNatClampNeg = k - 1 := by rw [e1]; exact nI_clamp (by omega)
        obtain ⟨H, eH⟩ : ∃ H, H = zc_b (zb_tb P k) := ⟨_, rfl⟩
        have hH : H ≤ 1 := by have := zc_b2 (zb_tb P k); omega
        have vH : (if zb_tb P k = true then (1 : Int32) else 0) = nI H := by rw [eH, zc_b01]
        have cH : (nI H).toNatClampNeg = H := nI_clamp (by omega)
        have tt : ti H = tm H := zi_two_at hF hH
        have hF' := zi_two_up hF hH 1
        have hG' := zi_two_up hG hH ((p2 + 9) / 10)
        -- up to the third time both go alike
        have cls : ∀ R : Option (Int32 × Int64 × (Nat → Int32) × (Nat → Int32) × Int64 × Int64 × Int64), (if (ti H + 1) - (ti H + 1) / 3 * 3 = 0 then zz_b5 (fn_X8_loseNext y P size byRank ones ranks told turns (nI H) (nI k)) (fun x24 x25 x26 x27 x28 => some (x24, x25, upd pa H (pa H + (p2 + 9) / 10), upd ti H (ti H + 1), x26, x27, x28)) else some ((-9), P, upd pa H (pa H + (p2 + 9) / 10), upd ti H (ti H + 1), z, o, f)) = R → zz_b2 (fn_X8_isNight (nI k)) (fun x1 u2 => (if x1 = 0 then some ((-1), P, pa, ti, z, o, f) else (if p2 < 1 then some ((-2), P, pa, ti, z, o, f) else (if p2 ≤ 99 then zz_b2 (fn_X1_handings P) (fun x7 u8 => zz_b2 (fn_X1_holds x7 (nI k)) (fun x10 u11 => (if x10 = 0 then some ((-3), P, pa, ti, z, o, f) else zz_b2 (fn_X1_houseAt P (nI k)) (fun x14 u15 => zz_b3 (fn_X5_fine pa ti x14 ((p2 + 9) / 10)) (fun x18 g19 g20 => (if (x18 - x18 / 3 * 3) = 0 then zz_b5 (fn_X8_loseNext y P size byRank ones ranks told turns x14 (nI k)) (fun x24 x25 x26 x27 x28 => some (x24, x25, g19, g20, x26, x27, x28)) else some ((-9), P, g19, g20, z, o, f))))))) else some ((-2), P, pa, ti, z, o, f))))) = R := by
          intro R hR
          refine pe_b2 (zi_night8 _) (pe_ifn (zi_i1 h1) (pe_ifn c1 (pe_if c2 (pe_b2 ehd (pe_b2 (zi_holds hd (by omega)) (pe_ifn ?_ (pe_b2 (zi_houseAt P (by omega)) ?_)))))))
          · rw [hhd, hh]; simp; omega
          · rw [vH]
            exact pe_b3 (zi_fine hH _) hR
        have mdl : ∀ R : Option (Int32 × Int32 × (Nat → Int32) × (Nat → Int32) × (Nat → Int32) × (Nat → Int32)), (if (tm H + 1) - (tm H + 1) / 3 * 3 = 0 then zz_b2 (fn_X9_layWhose my w mm mp g) (fun x25 g26 => zz_nm (nI k + 1) (fun x28 => zz_b1 (zz_it (fun z => fb_X9_late_104 (nI H) g26 z) zz_fuel x28) (fun x38 => (if x38 = 56 then some ((-9), x25, upd fi H (fi H + (p2 + 9) / 10), mpl, upd tm H (tm H + 1), g26) else zz_chk x38 56 (zz_nm (upd mpl x38.toNatClampNeg (1 - nI H)) (fun g41 => some (x38, x25, upd fi H (fi H + (p2 + 9) / 10), g41, upd tm H (tm H + 1), g26))))))) else some ((-9), w, upd fi H (fi H + (p2 + 9) / 10), mpl, upd tm H (tm H + 1), g)) = R → zz_b2 (fn_X9_isNight (nI k)) (fun x1 u2 => (if x1 = 0 then some ((-1), w, fi, mpl, tm, g) else zz_b2 (fn_X9_in p2.toInt64 (1 : Int64) (99 : Int64)) (fun x5 u6 => (if x5 = 0 then some ((-2), w, fi, mpl, tm, g) else (if nI k = 0 then some ((-3), w, fi, mpl, tm, g) else zz_chk (nI k) 56 (zz_chk (nI k - 1) 56 ((if (mpl (nI k).toNatClampNeg) = (mpl (nI k - 1).toNatClampNeg) then some ((-3), w, fi, mpl, tm, g) else zz_chk (nI k) 56 (zz_nm (mpl (nI k).toNatClampNeg) (fun x14 => zz_chk x14 2 (zz_chk x14 2 (zz_nm (upd fi x14.toNatClampNeg ((fi x14.toNatClampNeg) + ((p2 + 9) / 10))) (fun g18 => zz_chk x14 2 (zz_chk x14 2 (zz_nm (upd tm x14.toNatClampNeg ((tm x14.toNatClampNeg) + 1)) (fun g21 => zz_chk x14 2 ((if ((g21 x14.toNatClampNeg) - (g21 x14.toNatClampNeg) / 3 * 3) = 0 then zz_b2 (fn_X9_layWhose my w mm mp g) (fun x25 g26 => zz_nm (nI k + 1) (fun x28 => zz_b1 (zz_it (fun z => fb_X9_late_104 x14 g26 z) zz_fuel x28) (fun x38 => (if x38 = 56 then some ((-9), x25, g18, mpl, g21, g26) else zz_chk x38 56 (zz_nm (upd mpl x38.toNatClampNeg (1 - x14)) (fun g41 => some (x38, x25, g18, g41, g21, g26))))))) else some ((-9), w, g18, mpl, g21, g))))))))))))))))))) = R := by
          intro R hR
          refine pe_b2 (zi_night9 _) (pe_ifn (zi_i1 h1) (pe_b2 (zi_in _ (A := 1) (B := 99) (by decide) (by decide)) (pe_ifn (zi_i1 h2) (pe_ifn (nI_ne0 k0 (by omega)) (pe_chk (by omega) (by decide) (pe_chkE e1 (by omega) (by decide) (pe_ifn ?_ (pe_chk (by omega) (by decide) (pe_nm (x := nI H) ?_ (pe_chk (by omega) (by decide) (pe_chk (by omega) (by decide) (pe_nm (by rw [cH]) (pe_chk (by omega) (by decide) (pe_chk (by omega) (by decide) (pe_nm (by rw [cH]) (pe_chk (by omega) (by decide) ?_))))))))))))))))
          · rw [ck, ck1, zi_planD hL (by omega), zi_planD hL (by omega)]; exact zi_ne01 hne
          · rw [ck, zi_planD hL (by omega), vH]
          · rw [cH, pk_us]; exact hR
        by_cases h3 : (ti H + 1) - (ti H + 1) / 3 * 3 = 0
        · have h3' : (tm H + 1) - (tm H + 1) / 3 * 3 = 0 := by rw [← tt]; exact h3
          obtain ⟨h, h4, ⟨Z, O, F, e, hb⟩, -, hl⟩ := pf_read hY hP
          obtain ⟨w', g', ew, hg⟩ := hl w g
          obtain ⟨x, ex, hx⟩ := zr_that hb h4 (k := H) (by omega)
          obtain ⟨u, eu, hu⟩ := zi_upTo (k := k) (by omega)
          have hbe : ∀ i, zb_tb (x &&& (u ^^^ (-1))) i = (decide (i < 56) && decide (zw_of (h i) = H) && decide (k < i)) := by
            intro i
            by_cases hi : i < 64
            · rw [zb_and, zb_not _ hi, hx, hu, Bool.eq_iff_iff]; simp
            · rw [zb_big _ (by omega), show decide (i < 56) = false by simp; omega]; rfl
          have hq : ∀ j, j < 56 → k < j → (g' (nI j).toNatClampNeg = nI H ↔ zb_tb (x &&& (u ^^^ (-1))) j = true) := by
            intro j hj hkj
            have := zw_of3 (h4 j)
            rw [nI_clamp (by omega), hg j hj, hbe, nI_eq (by omega) (by omega)]
            simp [hj, hkj]
          have step : ∀ j, j < 56 → k < j → zb_tb (x &&& (u ^^^ (-1))) j = false → fb_X9_late_104 (nI H) g' (nI j) = some (.inl (nI (j + 1))) := by
            intro j hj hkj hf
            unfold fb_X9_late_104
            refine pe_ifn (nI_ge (b := 56) hj (by decide)) (pe_chk hj (by decide) (pe_ifn (fun q => ?_) (pe_nm (nI_1 j) rfl)))
            rw [(hq j hj hkj).mp q] at hf; cases hf
          rcases zi_first0 (x := x &&& (u ^^^ (-1))) (fun i hi => by rw [hbe, show decide (i < 56) = false by simp; omega]; rfl) with ⟨hno, ep⟩ | ⟨l, hl56, q1, q2, ep⟩
          · refine ⟨-9, P, _, _, Z, O, F, w', _, mpl, _, g', cls _ (pe_if h3 (pe_b5 (a1 := -9) (a2 := P) (a3 := Z) (a4 := O) (a5 := F) ?_ rfl)), mdl _ (pe_if h3' (pe_b2 ew (pe_nm (nI_1 k) (pe_b1 (a1 := nI 56) (pe_itE (fun j => nI (k + 1 + j)) (56 - (k + 1)) rfl (fun j hj => step _ (by omega) (by omega) (hno _ (by omega))) ?_ (by omega)) (pe_if rfl rfl))))), hL, hF', hG'⟩
            · unfold fn_X8_loseNext
              exact pe_b3 e (pe_b2 ex (pe_b2 eu (pe_nm rfl (pe_b2 ep (pe_if rfl rfl)))))
            · rw [show k + 1 + (56 - (k + 1)) = 56 by omega]
              unfold fb_X9_late_104
              exact pe_if (Int32.le_refl _) rfl
          · have hkl : k < l := by
              rw [hbe] at q1
              simp at q1
              omega
            obtain ⟨o', eo, hbits⟩ := zi_place P (k := l) (by omega) (1 - nI H)
            have cl : (nI l).toNatClampNeg = l := nI_clamp (by omega)
            have eH1 : (1 : Int32) - nI H = nI (1 - H) := by rw [show (1 : Int32) = nI 1 from rfl, pk_sub hH]
            refine ⟨nI l, o', _, _, Z, O, F, w', _, upd mpl l (1 - nI H), _, g', cls _ (pe_if h3 (pe_b5 (a1 := nI l) (a2 := o') (a3 := Z) (a4 := O) (a5 := F) ?_ rfl)), mdl _ (pe_if h3' (pe_b2 ew (pe_nm (nI_1 k) (pe_b1 (a1 := nI l) (pe_itE (fun j => nI (k + 1 + j)) (l - (k + 1)) rfl (fun j hj => step _ (by omega) (by omega) (q2 _ (by omega))) ?_ (by omega)) (pe_ifn (fun q => ?_) (pe_chk hl56 (by decide) (pe_nm (by rw [cl]) rfl))))))), ⟨fun i hi => ?_, fun i hi => ?_⟩, hF', hG'⟩
            · unfold fn_X8_loseNext
              refine pe_b3 e (pe_b2 ex (pe_b2 eu (pe_nm rfl (pe_b2 ep (pe_ifn (fun q => ?_) (pe_b1 eo rfl))))))
              have q : (nI l).toInt = (-9 : Int32).toInt := by rw [q]
              rw [nI_toInt (by omega), show (-9 : Int32).toInt = -9 by decide] at q
              omega
            · rw [show k + 1 + (l - (k + 1)) = l by omega]
              unfold fb_X9_late_104
              exact pe_ifn (nI_ge (b := 56) hl56 (by decide)) (pe_chk hl56 (by decide) (pe_if ((hq l hl56 hkl).mpr q1) rfl))
            · have := (nI_eq (b := 56) (by omega) (by decide)).mp q
              omega
            · rw [Nat.zero_add, hbits i (by omega)]
              by_cases q : i = l
              · subst q
                rw [pk_us, if_pos rfl, eH1]
                have cs : H = 0 ∨ H = 1 := by omega
                rcases cs with c | c <;> rw [c] <;> rfl
              · rw [pk_un q, if_neg q, zi_planD hL hi]
            · by_cases h64 : i < 64
              · rw [hbits i h64, if_neg (by omega)]; exact hL.2 i hi
              · exact zb_big o' (by omega)
        · have h3' : ¬ (tm H + 1) - (tm H + 1) / 3 * 3 = 0 := by rw [← tt]; exact h3
          exact ⟨-9, P, _, _, z, o, f, w, _, mpl, _, g, cls _ (pe_ifn h3 rfl), mdl _ (pe_ifn h3' rfl), hL, hF', hG'⟩
      · refine ⟨-3, P, pa, ti, z, o, f, w, fi, mpl, tm, g, pe_b2 (zi_night8 _) (pe_ifn (zi_i1 h1) (pe_ifn c1 (pe_if c2 (pe_b2 ehd (pe_b2 (zi_holds hd (by omega)) (pe_if ?_ rfl)))))), pe_b2 (zi_night9 _) (pe_ifn (zi_i1 h1) (pe_b2 (zi_in _ (A := 1) (B := 99) (by decide) (by decide)) (pe_ifn (zi_i1 h2) ?_))), hL, hF, hG⟩
        · rw [hhd, show zc_h (zb_tb P) k = false by simpa using hh]; simp
        · rcases Nat.eq_zero_or_pos k with q | q
          · subst q; exact pe_if rfl rfl
          · have e1 : nI k - 1 = nI (k - 1) := by rw [show k = (k - 1) + 1 by omega, nI_pred]; rfl
            have ck1 : (nI k - 1).toNatClampNeg = k - 1 := by rw [e1]; exact nI_clamp (by omega)
            refine pe_ifn (nI_ne0 q (by omega)) (pe_chk (by omega) (by decide) (pe_chkE e1 (by omega) (by decide) (pe_if ?_ rfl)))
            have : zb_tb P k = zb_tb P (k - 1) := by
              simp [zc_h, q] at hh
              exact hh
            rw [ck, ck1, zi_planD hL (by omega), zi_planD hL (by omega), this]
    · refine ⟨-2, P, pa, ti, z, o, f, w, fi, mpl, tm, g, pe_b2 (zi_night8 _) (pe_ifn (zi_i1 h1) ?_), pe_b2 (zi_night9 _) (pe_ifn (zi_i1 h1) (pe_b2 (zi_in _ (A := 1) (B := 99) (by decide) (by decide)) (pe_if (zi_i0 h2) rfl))), hL, hF, hG⟩
      by_cases q : p2.toInt < 1
      · exact pe_if ((zi_ltc (by decide)).mpr q) rfl
      · exact pe_ifn (fun h => q ((zi_ltc (by decide)).mp h)) (pe_ifn (fun h => h2 ⟨by omega, (zi_lec (by decide)).mp h⟩) rfl)
  · exact ⟨-1, P, pa, ti, z, o, f, w, fi, mpl, tm, g, pe_b2 (zi_night8 _) (pe_if (zi_i0 h1) rfl), pe_b2 (zi_night9 _) (pe_if (zi_i0 h1) rfl), hL, hF, hG⟩
