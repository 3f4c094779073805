/-! wants, bytes -/
theorem pe_itE {σ ρ : Type} {b : σ → Option (σ ⊕ ρ)} {s0 : σ} (f : Nat → σ) (N : Nat) {r : ρ} (h0 : f 0 = s0) (hs : ∀ k, k < N → b (f k) = some (.inl (f (k + 1)))) (he : b (f N) = some (.inr r)) (hN : N < 2000) : zz_it b zz_fuel s0 = some r := by
  rw [← h0]; exact pe_it f N hs he hN
theorem zi_fill (f g : Nat → Int32) (k : Nat) : upd (fun j => if j < k then g j else f j) k (g k) = fun j => if j < k + 1 then g j else f j := by
  funext j
  by_cases h : j = k
  · subst h; rw [pk_us, if_pos (by omega)]
  · rw [pk_un h]
    by_cases h2 : j < k
    · rw [if_pos h2, if_pos (by omega)]
    · rw [if_neg h2, if_neg (by omega)]
theorem zi_fillL (f g : Nat → Int64) (k : Nat) : vp_updL (fun j => if j < k then g j else f j) k (g k) = fun j => if j < k + 1 then g j else f j := by
  funext j
  by_cases h : j = k
  · subst h; rw [pk_uLs, if_pos (by omega)]
  · rw [pk_uLn h]
    by_cases h2 : j < k
    · rw [if_pos h2, if_pos (by omega)]
    · rw [if_neg h2, if_neg (by omega)]
theorem zi_fill0 {α : Type} (f g : Nat → α) : (fun j => if j < 0 then g j else f j) = f := by
  funext j; rw [if_neg (Nat.not_lt_zero j)]
/-- a row filled from place B on -/
theorem zi_fillB (f g : Nat → Int32) (B k : Nat) : upd (fun j => if B ≤ j ∧ j < B + k then g (j - B) else f j) (B + k) (g k) = fun j => if B ≤ j ∧ j < B + (k + 1) then g (j - B) else f j := by
  funext j
  by_cases h : j = B + k
  · subst h; rw [pk_us, if_pos (by omega)]; congr 1; omega
  · rw [pk_un h]
    by_cases h2 : B ≤ j ∧ j < B + k
    · rw [if_pos h2, if_pos (by omega)]
    · rw [if_neg h2, if_neg (by omega)]
theorem zi_fillB0 {α : Type} (f g : Nat → α) (B : Nat) : (fun j => if B ≤ j ∧ j < B + 0 then g (j - B) else f j) = f := by
  funext j; rw [if_neg (by omega)]
theorem zi_drop (ag : Nat → Int32) : ∃ g, fn_X7_dropWants ag = some (0, g) ∧ ∀ j, j < 112 → g j = 0 := by
  unfold fn_X7_dropWants
  refine ⟨fun j => if j < 112 then 0 else ag j, pe_b1 (pe_itE (fun k => (nI k, fun j => if j < k then 0 else ag j)) 112 ?_ ?_ ?_ (by decide)) rfl, fun j hj => if_pos hj⟩
  · exact congrArg (Prod.mk _) (zi_fill0 ag (fun _ => 0))
  · intro k hk
    unfold fb_X7_dropWants_7
    refine pe_ifn (nI_ge (b := 112) hk (by decide)) (pe_chk hk (by decide) (pe_nm ?_ (pe_nm (nI_1 k) rfl)))
    show upd _ (nI k).toNatClampNeg 0 = _
    rw [nI_clamp (by omega)]
    exact zi_fill ag (fun _ => 0) k
  · unfold fb_X7_dropWants_7
    exact pe_if (nI_le (a := 112) (b := 112) (by decide) (by decide)) rfl
theorem pf_unwant {lo pl ph wa : Int32} {ag : Nat → Int32} {mo ab ha mw : Int32} {wn wh ww : Nat → Int32} (h : zi_wishes lo pl ph wa ag mo ab ha mw wn wh ww) : ∃ r o1 o2 w1, fn_X8_unwant wa ag = some (r, o1, o2) ∧ fn_X9_unwant mw = some (r, w1) ∧ zi_wishes lo pl ph o1 o2 mo ab ha w1 wn wh ww := by
  obtain ⟨m, a, j, w, g1, g2, g3, g4, g5, rfl, rfl, rfl, rfl, rfl, rfl, rfl, rfl, g6, g7⟩ := h
  obtain ⟨g, hg, h0⟩ := zi_drop ag
  refine ⟨nI w, 0, g, 0, pe_b2 hg rfl, rfl, m, a, j, 0, g1, g2, g3, g4, by omega, rfl, rfl, rfl, rfl, rfl, rfl, rfl, rfl, fun k hk => absurd hk (Nat.not_lt_zero k), fun n h hn hh => ?_⟩
  rw [h0 _ (by omega)]; rfl
theorem zi_price_cong {wn wh ww wn' wh' ww' : Nat → Int32} {n h : Nat} : ∀ {w : Nat}, (∀ k, k < w → wn' k = wn k ∧ wh' k = wh k ∧ ww' k = ww k) → zi_price wn' wh' ww' n h w = zi_price wn wh ww n h w
  | 0, _ => rfl
  | w + 1, hc => by
    rw [zi_price, zi_price, zi_price_cong (fun k hk => hc k (by omega))]
    obtain ⟨e1, e2, e3⟩ := hc w (by omega)
    unfold zi_g
    rw [e1, e2, e3]
theorem zi_addWant {ag : Nat → Int32} {w n0 h0 wt : Nat} (hn : n0 < 56) (hh : h0 < 2) : fn_X7_addWant (nI w) ag (nI n0) (nI h0) (nI wt) = some (nI w, nI (w + 1), upd ag ((1 - h0) * 56 + n0) (ag ((1 - h0) * 56 + n0) + nI wt)) := by
  unfold fn_X7_addWant
  have e : ((1 - nI h0) * 56) + nI n0 = nI ((1 - h0) * 56 + n0) := by
    rw [show (1 : Int32) = nI 1 from rfl, pk_sub (by omega), show (56 : Int32) = nI 56 from rfl, pk_mul, nI_add]
  have hq : (1 - h0) * 56 + n0 < 112 := by
    have : h0 = 0 ∨ h0 = 1 := by omega
    rcases this with rfl | rfl <;> omega
  refine pe_nm e (pe_b1 (pe_ifn (nI_pos (by omega)) (pe_ifn (nI_ge (b := 112) hq (by decide)) (pe_chk hq (by decide) (pe_chk hq (by decide) (pe_nm rfl rfl))))) (pe_nm (nI_1 w) ?_))
  rw [nI_clamp (by omega)]
theorem pf_want {lo pl ph wa : Int32} {ag : Nat → Int32} {mo ab ha mw : Int32} {wn wh ww : Nat → Int32} (p1 p2 p3 : Int32) (h : zi_wishes lo pl ph wa ag mo ab ha mw wn wh ww) : ∃ r o1 o2 w1 w2 w3 w4, fn_X8_want wa ag p1 p2 p3 = some (r, o1, o2) ∧ fn_X9_want mw wh wn ww p1 p2 p3 = some (r, w1, w2, w3, w4) ∧ zi_wishes lo pl ph o1 o2 mo ab ha w1 w3 w2 w4 := by
  have h0 := h
  obtain ⟨m, a, j, w, g1, g2, g3, g4, g5, rfl, rfl, rfl, rfl, rfl, rfl, rfl, rfl, g6, g7⟩ := h
  unfold fn_X8_want fn_X9_want
  by_cases h1 : 0 ≤ p1.toInt ∧ p1.toInt ≤ 55
  · by_cases h2 : 0 ≤ p2.toInt ∧ p2.toInt ≤ 1
    · by_cases h3 : 1 ≤ p3.toInt ∧ p3.toInt ≤ 9
      · by_cases h4 : w = 12
        · subst h4
          refine ⟨-4, nI 12, ag, nI 12, wh, wn, ww, ?_, ?_, h0⟩
          · exact pe_b2 (zi_night8 _) (pe_ifn (zi_i1 h1) (pe_b2 (zi_house8 _) (pe_ifn (zi_i1 h2) (pe_ifn (fun h => absurd ((zi_ltc (C := 1) (by decide)).mp h) (by omega)) (pe_if ((zi_lec (by decide)).mpr h3.2) (pe_ifn (by decide) rfl))))))
          · exact pe_b2 (zi_night9 _) (pe_ifn (zi_i1 h1) (pe_b2 (zi_house9 _) (pe_ifn (zi_i1 h2) (pe_b2 (zi_in _ (A := 1) (B := 9) (by decide) (by decide)) (pe_ifn (zi_i1 h3) (pe_if rfl rfl))))))
        · have hw : w < 12 := by omega
          obtain ⟨n0, hn0, rfl⟩ := zi_rng (B := 55) h1.1 h1.2 (by decide)
          obtain ⟨q0, hq0, rfl⟩ := zi_rng (B := 1) h2.1 h2.2 (by decide)
          obtain ⟨wt, hwt, rfl⟩ := zi_rng (B := 9) (by omega) h3.2 (by decide)
          refine ⟨nI w, nI (w + 1), upd ag ((1 - q0) * 56 + n0) (ag ((1 - q0) * 56 + n0) + nI wt), nI (w + 1), upd wh w (nI q0), upd wn w (nI n0), upd ww w (nI wt), ?_, ?_, m, a, j, w + 1, g1, g2, g3, g4, by omega, rfl, rfl, rfl, rfl, rfl, rfl, rfl, rfl, ?_, ?_⟩
          · exact pe_b2 (zi_night8 _) (pe_ifn (zi_i1 h1) (pe_b2 (zi_house8 _) (pe_ifn (zi_i1 h2) (pe_ifn (fun h => absurd ((zi_ltc (C := 1) (by decide)).mp h) (by omega)) (pe_if ((zi_lec (by decide)).mpr h3.2) (pe_if (nI_lt (b := 12) hw (by decide)) (pe_b3 (zi_addWant (by omega) (by omega)) rfl)))))))
          · have ne12 : ¬ nI w = 12 := fun e => h4 ((nI_eq (b := 12) (by omega) (by decide)).mp e)
            have ck : (nI w).toNatClampNeg = w := nI_clamp (by omega)
            refine pe_b2 (zi_night9 _) (pe_ifn (zi_i1 h1) (pe_b2 (zi_house9 _) (pe_ifn (zi_i1 h2) (pe_b2 (zi_in _ (A := 1) (B := 9) (by decide) (by decide)) (pe_ifn (zi_i1 h3) (pe_ifn ne12 (pe_chk hw (by decide) (pe_nm (by rw [ck]) (pe_chk hw (by decide) (pe_nm (by rw [ck]) (pe_chk hw (by decide) (pe_nm (by rw [ck]) (pe_nm (nI_1 w) ?_)))))))))))))
            rw [nI_pred]
          · intro k hk
            by_cases e : k = w
            · subst e
              have a1 : zi_g (upd wn k (nI n0)) k = n0 := zi_gn pk_us (by omega)
              have a2 : zi_g (upd wh k (nI q0)) k = q0 := zi_gn pk_us (by omega)
              have a3 : zi_g (upd ww k (nI wt)) k = wt := zi_gn pk_us (by omega)
              rw [a1, a2, a3]
              exact ⟨pk_us, by omega, pk_us, hq0, pk_us, hwt⟩
            · have a1 : zi_g (upd wn w (nI n0)) k = zi_g wn k := by unfold zi_g; rw [pk_un e]
              have a2 : zi_g (upd wh w (nI q0)) k = zi_g wh k := by unfold zi_g; rw [pk_un e]
              have a3 : zi_g (upd ww w (nI wt)) k = zi_g ww k := by unfold zi_g; rw [pk_un e]
              rw [a1, a2, a3, pk_un e, pk_un e, pk_un e]
              exact g6 k (by omega)
          · intro n hh hn hhh
            have c1 : zi_price (upd wn w (nI n0)) (upd wh w (nI q0)) (upd ww w (nI wt)) n hh w = zi_price wn wh ww n hh w := zi_price_cong (fun k hk => ⟨pk_un (by omega), pk_un (by omega), pk_un (by omega)⟩)
            have a1 : zi_g (upd wn w (nI n0)) w = n0 := zi_gn pk_us (by omega)
            have a2 : zi_g (upd wh w (nI q0)) w = q0 := zi_gn pk_us (by omega)
            have a3 : zi_g (upd ww w (nI wt)) w = wt := zi_gn pk_us (by omega)
            rw [zi_price, c1, a1, a2, a3]
            have hq : (q0 = 0 ∨ q0 = 1) ∧ (hh = 0 ∨ hh = 1) := by omega
            by_cases e : n0 = n ∧ ¬ q0 = hh
            · rw [if_pos e, show hh * 56 + n = (1 - q0) * 56 + n0 by rcases hq with ⟨rfl | rfl, rfl | rfl⟩ <;> omega, pk_us, show (1 - q0) * 56 + n0 = hh * 56 + n by rcases hq with ⟨rfl | rfl, rfl | rfl⟩ <;> omega, g7 n hh hn hhh, nI_add]
            · rw [if_neg e, pk_un (by rcases hq with ⟨rfl | rfl, rfl | rfl⟩ <;> omega), g7 n hh hn hhh, Nat.add_zero]
      · refine ⟨-2, nI w, ag, nI w, wh, wn, ww, ?_, ?_, h0⟩
        · refine pe_b2 (zi_night8 _) (pe_ifn (zi_i1 h1) (pe_b2 (zi_house8 _) (pe_ifn (zi_i1 h2) ?_)))
          by_cases q : p3.toInt < 1
          · exact pe_if ((zi_ltc (by decide)).mpr q) rfl
          · exact pe_ifn (fun h => q ((zi_ltc (by decide)).mp h)) (pe_ifn (fun h => h3 ⟨by omega, (zi_lec (by decide)).mp h⟩) rfl)
        · exact pe_b2 (zi_night9 _) (pe_ifn (zi_i1 h1) (pe_b2 (zi_house9 _) (pe_ifn (zi_i1 h2) (pe_b2 (zi_in _ (A := 1) (B := 9) (by decide) (by decide)) (pe_if (zi_i0 h3) rfl)))))
    · exact ⟨-1, nI w, ag, nI w, wh, wn, ww, pe_b2 (zi_night8 _) (pe_ifn (zi_i1 h1) (pe_b2 (zi_house8 _) (pe_if (zi_i0 h2) rfl))), pe_b2 (zi_night9 _) (pe_ifn (zi_i1 h1) (pe_b2 (zi_house9 _) (pe_if (zi_i0 h2) rfl))), h0⟩
  · exact ⟨-1, nI w, ag, nI w, wh, wn, ww, pe_b2 (zi_night8 _) (pe_if (zi_i0 h1) rfl), pe_b2 (zi_night9 _) (pe_if (zi_i0 h1) rfl), h0⟩
/-- the byte that both texts take of a long -/
theorem zi_byte (v : Int64) : ∃ t : Nat, t < 256 ∧ (v &&& 255).toInt32 = nI t ∧ vp_nar .byte (v.toInt32.toInt8.toInt32) = (nI t).toInt8.toInt32 := by
  refine ⟨zb_N v % 256, by omega, ?_, ?_⟩
  · apply Int32.toBitVec_inj.mp
    rw [Int64.toBitVec_toInt32, BitVec.signExtend_eq_setWidth_of_le _ (by decide)]
    apply BitVec.eq_of_toNat_eq
    rw [BitVec.toNat_setWidth, pk_tn (by omega)]
    show zb_N (v &&& 255) % 2 ^ 32 = _
    rw [zb_N_and, show zb_N 255 = 2 ^ 8 - 1 by decide +kernel, Nat.and_two_pow_sub_one_eq_mod]
    omega
  · rw [pk_vb]
    have : v.toInt32.toInt8 = (nI (zb_N v % 256)).toInt8 := by
      apply Int8.toBitVec_inj.mp
      rw [Int32.toBitVec_toInt8, Int32.toBitVec_toInt8, Int64.toBitVec_toInt32, BitVec.signExtend_eq_setWidth_of_le _ (by decide), BitVec.signExtend_eq_setWidth_of_le _ (by decide), BitVec.signExtend_eq_setWidth_of_le _ (by decide)]
      apply BitVec.eq_of_toNat_eq
      rw [BitVec.toNat_setWidth, BitVec.toNat_setWidth, BitVec.toNat_setWidth, pk_tn (by omega)]
      show zb_N v % 2 ^ 32 % 2 ^ 8 = zb_N v % 256 % 2 ^ 8
      omega
    rw [this]
def zi_mb (v : Int64) (n k : Nat) : Int32 := ((v >>> ((8 * nI (n - 1 - k)).toInt64 &&& 63)) &&& 255).toInt32
def zi_cb (v : Int64) (n k : Nat) : Int32 := vp_nar .byte ((v >>> ((8 * nI (n - 1 - k)).toInt64 &&& 63)).toInt32.toInt8.toInt32)
theorem zi_m1 {n k : Nat} (h : k < n) : nI (n - k) + (-1) = nI (n - 1 - k) := by
  rw [show n - k = (n - 1 - k) + 1 by omega, pk_m1]
theorem zi_append {L n : Nat} (sg : Nat → Int32) (v : Int64) (hn : n ≤ 8) (hL : L + n ≤ 64) : fn_X6_append (nI L) sg (nI n) v = some (1, nI (L + n), fun j => if L ≤ j ∧ j < L + n then zi_cb v n (j - L) else sg j) := by
  unfold fn_X6_append
  have e64 : (64 : Int32) - nI L = nI (64 - L) := by rw [show (64 : Int32) = nI 64 from rfl, pk_sub (by omega)]
  refine pe_ifn (nI_pos (by omega)) (pe_if (by rw [e64]; exact nI_le (by omega) (by omega)) (pe_nm (show nI n - 1 = nI (n - 0) + (-1) from Int32.sub_eq_add_neg _ _) (pe_b2 (pe_itE (fun k => (nI (n - k) + (-1), nI (L + k), fun j => if L ≤ j ∧ j < L + k then zi_cb v n (j - L) else sg j)) n ?_ ?_ ?_ (by omega)) rfl)))
  · rw [zi_fillB0]; rfl
  · intro k hk
    unfold fb_X6_append_25
    have e1 := zi_m1 hk
    refine pe_ifn (by show ¬ nI (n - k) + (-1) < 0; rw [e1]; exact nI_pos (by omega)) (pe_chk (by omega) (by decide) (pe_nm ?_ (pe_nm (nI_1 (L + k)) (pe_nm ?_ rfl))))
    · show upd _ (nI (L + k)).toNatClampNeg (vp_nar .byte ((v >>> ((8 * (nI (n - k) + (-1))).toInt64 &&& 63)).toInt32.toInt8.toInt32)) = _
      rw [nI_clamp (by omega), e1]
      exact zi_fillB sg (zi_cb v n) L k
    · show nI (n - k) + (-1) + (-1) = nI (n - (k + 1)) + (-1)
      rw [e1, show n - 1 - k = n - (k + 1) by omega]
  · unfold fb_X6_append_25
    refine pe_if ?_ rfl
    show nI (n - n) + (-1) < 0
    rw [Nat.sub_self]; decide
theorem zi_write9 {L n : Nat} (mt : Nat → Int32) (v : Int64) (h1 : 1 ≤ n) (hn : n ≤ 8) (hL : L + n ≤ 64) : fn_X9_write (nI L) mt (nI n) v = some (nI (L + n), nI (L + n), fun j => if L ≤ j ∧ j < L + n then zi_mb v n (j - L) else mt j) := by
  unfold fn_X9_write
  have hin : (1 : Int) ≤ (nI n).toInt ∧ (nI n).toInt ≤ 8 := by rw [nI_toInt (by omega)]; omega
  refine pe_b2 (zi_in _ (A := 1) (B := 8) (by decide) (by decide)) (pe_ifn (zi_i1 hin) (pe_if (by rw [nI_add]; exact nI_le (b := 64) hL (by decide)) (pe_nm (show nI n - 1 = nI (n - 0) + (-1) from Int32.sub_eq_add_neg _ _) (pe_b2 (pe_itE (fun k => (nI (n - k) + (-1), nI (L + k), fun j => if L ≤ j ∧ j < L + k then zi_mb v n (j - L) else mt j)) n ?_ ?_ ?_ (by omega)) rfl))))
  · rw [zi_fillB0]; rfl
  · intro k hk
    unfold fb_X9_write_34
    have e1 := zi_m1 hk
    refine pe_ifn (by show ¬ nI (n - k) + (-1) < 0; rw [e1]; exact nI_pos (by omega)) (pe_chk (by omega) (by decide) (pe_nm ?_ (pe_nm (nI_1 (L + k)) (pe_nm ?_ rfl))))
    · show upd _ (nI (L + k)).toNatClampNeg ((v >>> ((8 * (nI (n - k) + (-1))).toInt64 &&& 63)) &&& 255).toInt32 = _
      rw [nI_clamp (by omega), e1]
      exact zi_fillB mt (zi_mb v n) L k
    · show nI (n - k) + (-1) + (-1) = nI (n - (k + 1)) + (-1)
      rw [e1, show n - 1 - k = n - (k + 1) by omega]
  · unfold fb_X9_write_34
    refine pe_if ?_ rfl
    show nI (n - n) + (-1) < 0
    rw [Nat.sub_self]; decide
theorem pf_write {len mlen : Int32} {sg mt : Nat → Int32} (p1 : Int32) (p2 : Int64) (h : zi_text len sg mlen mt) : ∃ r o1 o2 w1 w2, fn_X8_write len sg p1 p2 = some (r, o1, o2) ∧ fn_X9_write mlen mt p1 p2 = some (r, w1, w2) ∧ zi_text o1 o2 w1 w2 := by
  have h0 := h
  obtain ⟨L, hL, rfl, rfl, hb⟩ := h
  by_cases h1 : 1 ≤ p1.toInt ∧ p1.toInt ≤ 8
  · obtain ⟨n, hn, rfl⟩ := zi_rng (B := 8) (by omega) h1.2 (by decide)
    have hn1 : 1 ≤ n := by have := h1.1; rw [nI_toInt (by omega)] at this; omega
    have c1 : ¬ nI n < 1 := nI_nlt (b := 1) hn1 (by omega)
    have c2 : nI n ≤ 8 := nI_le (b := 8) hn (by decide)
    by_cases h2 : L + n ≤ 64
    · refine ⟨nI (L + n), nI (L + n), fun j => if L ≤ j ∧ j < L + n then zi_cb p2 n (j - L) else sg j, nI (L + n), fun j => if L ≤ j ∧ j < L + n then zi_mb p2 n (j - L) else mt j, ?_, zi_write9 mt p2 hn1 hn h2, L + n, h2, rfl, rfl, ?_⟩
      · unfold fn_X8_write
        exact pe_ifn c1 (pe_if c2 (pe_b3 (zi_append sg p2 hn h2) (pe_ifn (by decide) rfl)))
      · intro j hj
        by_cases q : L ≤ j ∧ j < L + n
        · obtain ⟨t, ht, e1, e2⟩ := zi_byte (p2 >>> ((8 * nI (n - 1 - (j - L))).toInt64 &&& 63))
          refine ⟨t, ht, ?_, ?_⟩
          · show (if L ≤ j ∧ j < L + n then zi_mb p2 n (j - L) else mt j) = nI t
            rw [if_pos q]; exact e1
          · show (if L ≤ j ∧ j < L + n then zi_cb p2 n (j - L) else sg j) = _
            rw [if_pos q]; exact e2
        · obtain ⟨t, ht, e1, e2⟩ := hb j (by omega)
          refine ⟨t, ht, ?_, ?_⟩
          · show (if L ≤ j ∧ j < L + n then zi_mb p2 n (j - L) else mt j) = nI t
            rw [if_neg q]; exact e1
          · show (if L ≤ j ∧ j < L + n then zi_cb p2 n (j - L) else sg j) = _
            rw [if_neg q]; exact e2
    · refine ⟨-4, nI L, sg, nI L, mt, ?_, ?_, h0⟩
      · unfold fn_X8_write fn_X6_append
        have e64 : (64 : Int32) - nI L = nI (64 - L) := by rw [show (64 : Int32) = nI 64 from rfl, pk_sub hL]
        exact pe_ifn c1 (pe_if c2 (pe_b3 (pe_ifn (nI_pos (by omega)) (pe_ifn (by rw [e64]; exact nI_ge (by omega) (by omega)) rfl)) (pe_if rfl rfl)))
      · unfold fn_X9_write
        exact pe_b2 (zi_in _ (A := 1) (B := 8) (by decide) (by decide)) (pe_ifn (zi_i1 h1) (pe_ifn (by rw [nI_add]; exact nI_ge (a := 64) (by omega) (by omega)) rfl))
  · refine ⟨-2, nI L, sg, nI L, mt, ?_, ?_, h0⟩
    · unfold fn_X8_write
      by_cases q : p1.toInt < 1
      · exact pe_if ((zi_ltc (by decide)).mpr q) rfl
      · exact pe_ifn (fun h => q ((zi_ltc (by decide)).mp h)) (pe_ifn (fun h => h1 ⟨by omega, (zi_lec (by decide)).mp h⟩) rfl)
    · unfold fn_X9_write
      exact pe_b2 (zi_in _ (A := 1) (B := 8) (by decide) (by decide)) (pe_if (zi_i0 h1) rfl)
