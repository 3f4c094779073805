/-! the model's cost -/
theorem zi_hands {p : Nat → Bool} {mpl : Nat → Int32} (hp : ∀ i, i < 56 → mpl i = if p i = true then 1 else 0) {k : Nat} (hk : k < 56) : (if nI k ≤ 0 then some (0 : Int32) else zz_chk (nI k) 56 (zz_chk (nI k - 1) 56 (if mpl (nI k).toNatClampNeg = mpl (nI k - 1).toNatClampNeg then some 0 else some 1))) = some (nI (zc_b (zc_h p k))) := by
  rcases Nat.eq_zero_or_pos k with h0 | h0
  · subst h0
    refine pe_if (Int32.le_refl _) ?_
    simp [zc_h, zc_b, nI]
  · have e1 : nI k - 1 = nI (k - 1) := by rw [show k = (k - 1) + 1 by omega, nI_pred]; rfl
    have ck : (nI k).toNatClampNeg = k := nI_clamp (by omega)
    have ck1 : (nI k - 1).toNatClampNeg = k - 1 := by rw [e1]; exact nI_clamp (by omega)
    refine pe_ifn (nI_nle h0 (by omega)) (pe_chk hk (by decide) (pe_chkE e1 (by omega) (by decide) ?_))
    have m1 : mpl (nI k).toNatClampNeg = if p k = true then 1 else 0 := by rw [ck]; exact hp k hk
    have m2 : mpl (nI k - 1).toNatClampNeg = if p (k - 1) = true then 1 else 0 := by rw [ck1]; exact hp (k - 1) (by omega)
    unfold zc_h
    cases a : p k <;> cases b : p (k - 1)
    · refine pe_if (by rw [m1, m2, a, b]) ?_
      simp [zc_b, nI]
    · refine pe_ifn (by rw [m1, m2, a, b]; decide) ?_
      simp [zc_b, nI, h0]
    · refine pe_ifn (by rw [m1, m2, a, b]; decide) ?_
      simp [zc_b, nI, h0]
    · refine pe_if (by rw [m1, m2, a, b]) ?_
      simp [zc_b, nI]
theorem zc_b_eq (x : Bool) : nI (zc_b x) = 0 ↔ x = false := by cases x <;> decide
theorem zi_cost9 {m a j w : Nat} {mpl wn wh ww : Nat → Int32} {p : Nat → Bool} (hm : m ≤ 14) (hw : w ≤ 12) (g : ∀ k, k < w → wn k = nI (zi_g wn k) ∧ zi_g wn k < 56 ∧ wh k = nI (zi_g wh k) ∧ zi_g wh k ≤ 1 ∧ ww k = nI (zi_g ww k) ∧ zi_g ww k ≤ 9) (hp : ∀ i, i < 56 → mpl i = if p i = true then 1 else 0) : fn_X9_costOf (nI m) (nI a) (nI j) (nI w) mpl wh wn ww = some (nI (zc_cost m a j (fun n h => zi_price wn wh ww n h w) p 56), ()) := by
  unfold fn_X9_costOf
  refine pe_b1 (pe_itE (fun k => (nI (zc_cost m a j (fun n h => zi_price wn wh ww n h w) p k), nI (zc_R p k), nI k)) 56 rfl ?_ ?_ (by decide)) rfl
  · intro k hk
    unfold fb_X9_costOf_6
    have hR := zc_R_le p (k + 1)
    have ck : (nI k).toNatClampNeg = k := nI_clamp (by omega)
    have r1 : (if nI (zc_b (zc_h p k)) = 0 then some (nI (zc_R p k) + 1) else some 1) = some (nI (zc_R p (k + 1))) := by
      cases h : zc_h p k
      · refine pe_if rfl ?_
        rw [nI_1, zc_R, h]; rfl
      · refine pe_ifn (by decide) ?_
        rw [zc_R, h]; rfl
    have r2 : (if nI (zc_b (zc_h p k)) = 0 then some 0 else some (nI j)) = some (nI (j * zc_b (zc_h p k))) := by
      cases h : zc_h p k
      · exact pe_if rfl rfl
      · refine pe_ifn (by decide) ?_
        show _ = some (nI (j * 1)); rw [Nat.mul_one]
    have r3 : (if nI (zc_R p (k + 1)) ≤ nI m then some 0 else some (nI a)) = some (nI (a * zc_b (zc_long p m k))) := by
      unfold zc_long
      by_cases h : m < zc_R p (k + 1)
      · refine pe_ifn (nI_ge h (by omega)) ?_
        rw [show decide (m < zc_R p (k + 1)) = true by simp [h]]
        show _ = some (nI (a * 1)); rw [Nat.mul_one]
      · refine pe_if (nI_le (by omega) (by omega)) ?_
        rw [show decide (m < zc_R p (k + 1)) = false by simp; omega]; rfl
    refine pe_ifn (nI_ge (b := 56) hk (by decide)) (pe_b1 (zi_hands hp hk) (pe_b1 r1 (pe_b1 r2 (pe_b1 r3 (pe_chk hk (by decide) (pe_b2 (a1 := nI (zi_price wn wh ww k (zc_b (p k)) w)) (a2 := ()) ?_ (pe_nm ?_ (pe_nm (nI_1 k) rfl))))))))
    · show fn_X9_unwanted (nI w) wh wn ww (nI k) (mpl (nI k).toNatClampNeg) = _
      rw [ck, hp k hk, ← zc_b01]
      exact zi_unwanted hw g (by omega) (by have := zc_b2 (p k); omega)
    · rw [nI_add, nI_add, nI_add]
      congr 1
      show zc_cost m a j _ p k + (j * zc_b (zc_h p k) + a * zc_b (zc_long p m k) + _) = zc_cost m a j _ p (k + 1)
      unfold zc_cost
      rw [zb_ct, zb_ct, zc_sum, Nat.mul_add, Nat.mul_add]
      show _ = j * zb_ct (zc_h p) k + j * zc_b (zc_h p k) + (a * zb_ct (zc_long p m) k + a * zc_b (zc_long p m k)) + _
      dsimp only
      omega
  · unfold fb_X9_costOf_6
    exact pe_if (Int32.le_refl _) rfl
theorem pf_cost {lo pl ph wa : Int32} {ag : Nat → Int32} {mo ab ha mw : Int32} {wn wh ww : Nat → Int32} {P : Int64} {mpl : Nat → Int32} (h : zi_wishes lo pl ph wa ag mo ab ha mw wn wh ww) (hP : zi_plan P mpl 0) : ∃ c : Nat, fn_X7_costOf lo pl ph wa ag P = some (nI c, ()) ∧ fn_X9_costOf mo ab ha mw mpl wh wn ww = some (nI c, ()) := by
  obtain ⟨m, a, j, w, g1, g2, g3, g4, g5, rfl, rfl, rfl, rfl, rfl, rfl, rfl, rfl, g6, g7⟩ := h
  exact ⟨_, zi_cost8 g1 g2 g5 g7 P hP.2, zi_cost9 g2 g5 g6 (fun i hi => by rw [← hP.1 i hi, Nat.zero_add])⟩
theorem zi_flip (b : Bool) : (1 : Int32) - (if b = true then 1 else 0) = if (!b) = true then 1 else 0 := by cases b <;> rfl
theorem zi_turned (pl : Int64) {k l : Nat} (hk : k < 64) (hl : l < 64) : ∃ o, fn_X1_turned pl (nI k) (nI l) = some (o, ()) ∧ ∀ i, zb_tb o i = (zb_tb pl i ^^ decide (i = k) ^^ decide (i = l)) := by
  refine ⟨_, rfl, fun i => ?_⟩
  rw [zb_xor, zb_xor, zb_one hk, zb_one hl]
theorem zi_ne01 {a b : Bool} (h : ¬ a = b) : ¬ (if a = true then (1 : Int32) else 0) = if b = true then 1 else 0 := by cases a <;> cases b <;> simp_all
theorem zi_planD {P : Int64} {mpl : Nat → Int32} (h : zi_plan P mpl 0) {k : Nat} (hk : k < 56) : mpl k = if zb_tb P k = true then 1 else 0 := by rw [← h.1 k hk, Nat.zero_add]
theorem zi_i32 (x y z : Int32) : (x - y) + z = (z + x) - y := by rw [Int32.sub_eq_add_neg, Int32.sub_eq_add_neg, Int32.add_comm, Int32.add_assoc]
theorem pf_swap {lo pl ph wa : Int32} {ag : Nat → Int32} {mo ab ha mw : Int32} {wn wh ww : Nat → Int32} {P : Int64} {mpl : Nat → Int32} (p1 p2 : Int32) (h : zi_wishes lo pl ph wa ag mo ab ha mw wn wh ww) (hP : zi_plan P mpl 0) : ∃ r o w, fn_X8_swap P lo pl ph wa ag p1 p2 = some (r, o) ∧ fn_X9_swap mo ab ha mw mpl wh wn ww p1 p2 = some (r, w) ∧ zi_plan o w 0 := by
  unfold fn_X8_swap fn_X9_swap
  by_cases h1 : 0 ≤ p1.toInt ∧ p1.toInt ≤ 55
  · by_cases h2 : 0 ≤ p2.toInt ∧ p2.toInt ≤ 55
    · obtain ⟨k, hk, rfl⟩ := zi_rng (B := 55) h1.1 h1.2 (by decide)
      obtain ⟨l, hl, rfl⟩ := zi_rng (B := 55) h2.1 h2.2 (by decide)
      have ck : (nI k).toNatClampNeg = k := nI_clamp (by omega)
      have cl : (nI l).toNatClampNeg = l := nI_clamp (by omega)
      by_cases he : zb_tb P k = zb_tb P l
      · refine ⟨-3, P, mpl, pe_b2 (zi_night8 _) (pe_ifn (zi_i1 h1) (pe_b2 (zi_night8 _) (pe_ifn (zi_i1 h2) (pe_b2 (zi_houseAt P (by omega)) (pe_b2 (zi_houseAt P (by omega)) (pe_if (by rw [he]) rfl)))))), pe_b2 (zi_night9 _) (pe_ifn (zi_i1 h1) (pe_b2 (zi_night9 _) (pe_ifn (zi_i1 h2) (pe_chk (by omega) (by decide) (pe_chk (by omega) (by decide) (pe_if (by rw [ck, cl, zi_planD hP (by omega), zi_planD hP (by omega), he]) rfl)))))), hP⟩
      · have hkl : k ≠ l := fun e => he (by rw [e])
        obtain ⟨o, eo, hb⟩ := zi_turned P (k := k) (l := l) (by omega) (by omega)
        have hP' : zi_plan o (upd (upd mpl k (1 - mpl k)) l (1 - mpl l)) 0 := by
          refine ⟨fun i hi => ?_, fun i hi => ?_⟩
          · rw [Nat.zero_add, hb]
            by_cases e1 : i = l
            · subst e1
              rw [pk_us, zi_planD hP (by omega), zi_flip]
              have : ¬ i = k := fun e => hkl e.symm
              simp [this]
            · rw [pk_un e1]
              by_cases e2 : i = k
              · subst e2
                rw [pk_us, zi_planD hP (by omega), zi_flip]
                simp [e1]
              · rw [pk_un e2, zi_planD hP hi]
                simp [e1, e2]
          · rw [hb, hP.2 i hi, show decide (i = k) = false by simp; omega, show decide (i = l) = false by simp; omega]; rfl
        obtain ⟨c, q1, q2⟩ := pf_cost h hP
        obtain ⟨c', q3, q4⟩ := pf_cost h hP'
        refine ⟨(nI c' - nI c) + 1000, o, upd (upd mpl k (1 - mpl k)) l (1 - mpl l), pe_b2 (zi_night8 _) (pe_ifn (zi_i1 h1) (pe_b2 (zi_night8 _) (pe_ifn (zi_i1 h2) (pe_b2 (zi_houseAt P (by omega)) (pe_b2 (zi_houseAt P (by omega)) (pe_ifn (zi_ne01 he) (pe_b2 q1 (pe_b2 eo (pe_b2 q3 rfl))))))))), ?_, hP'⟩
        refine pe_b2 (zi_night9 _) (pe_ifn (zi_i1 h1) (pe_b2 (zi_night9 _) (pe_ifn (zi_i1 h2) (pe_chk (by omega) (by decide) (pe_chk (by omega) (by decide) (pe_ifn (by rw [ck, cl, zi_planD hP (by omega), zi_planD hP (by omega)]; exact zi_ne01 he) (pe_b2 q2 (pe_chk (by omega) (by decide) (pe_chk (by omega) (by decide) (pe_nm (by rw [ck]) (pe_chk (by omega) (by decide) (pe_chk (by omega) (by decide) (pe_nm (show upd (upd mpl k (1 - mpl k)) (nI l).toNatClampNeg (1 - upd mpl k (1 - mpl k) (nI l).toNatClampNeg) = _ by rw [cl, pk_un (fun e => hkl e.symm)]) (pe_b2 q4 ?_))))))))))))))
        rw [zi_i32]
    · exact ⟨-1, P, mpl, pe_b2 (zi_night8 _) (pe_ifn (zi_i1 h1) (pe_b2 (zi_night8 _) (pe_if (zi_i0 h2) rfl))), pe_b2 (zi_night9 _) (pe_ifn (zi_i1 h1) (pe_b2 (zi_night9 _) (pe_if (zi_i0 h2) rfl))), hP⟩
  · exact ⟨-1, P, mpl, pe_b2 (zi_night8 _) (pe_if (zi_i0 h1) rfl), pe_b2 (zi_night9 _) (pe_if (zi_i0 h1) rfl), hP⟩
