/-! the model reads the text -/
def zm_at (s b j : Nat) : Int32 := if j ≤ b then nI (s + j) else nI (s + b)
def zm_fa (s b j : Nat) : Int32 := if j ≤ b then -9 else nI (s + b)
/-- the signs behind the letter, ahead of place b, are good; that at b isn't, if it belongs to the rule -/
def zm_B (T : Nat → Nat) (L s b : Nat) : Prop := 1 ≤ b ∧ b ≤ zt_sz (T s) ∧ s + b ≤ L ∧ (∀ i, 1 ≤ i → i < b → zt_gd T L s i) ∧ (b < zt_sz (T s) → ¬ zt_gd T L s b)
theorem zm_m9 {n : Nat} (h : n < 2 ^ 31) : ¬ nI n = -9 := fun e => by
  have q := nI_pos h
  rw [e] at q
  exact q (by decide)
theorem zm_t64 {n : Nat} (h : n < 2 ^ 31) : (nI n).toInt64.toInt = (n : Int) := by rw [Int32.toInt_toInt64, nI_toInt h]
theorem zm_figF {L lo hi b : Nat} {a : Int32} {mt : Nat → Int32} (hlo : lo < 2 ^ 31) (hhi : hi < 2 ^ 31) (hb : b < 2 ^ 31) : fn_X9_figure (nI L) a (nI b) mt (nI lo) (nI hi) = some (nI lo, a, nI b) := by
  have e1 : (-1 : Int32).toInt = -1 := by decide
  unfold fn_X9_figure fn_X9_fail
  refine pe_b1 (a1 := -1) (pe_ifn (zm_m9 hb) rfl) (pe_b2 (zi_in (-1) (zm_t64 hlo) (zm_t64 hhi)) (pe_if (zi_i0 ?_) (pe_b1 (pe_ifn (zm_m9 hb) rfl) rfl)))
  omega
section ZM
variable {T : Nat → Nat} {L : Nat} {sg mt : Nat → Int32}
theorem zm_figG (h : zt_T T L sg mt) {lo hi a : Nat} (hlo : lo < 2 ^ 31) (hhi : hi < 2 ^ 31) (ha : a < L) (h1 : 48 + lo ≤ T a) (h2 : T a ≤ 48 + hi) : fn_X9_figure (nI L) (nI a) (-9) mt (nI lo) (nI hi) = some (nI (zt_dg T a), nI (a + 1), -9) := by
  have h64 := h.1
  obtain ⟨t256, em, -⟩ := h.2 a ha
  have ed : T a = 48 + zt_dg T a := by unfold zt_dg; omega
  unfold fn_X9_figure
  refine pe_b1 (a1 := nI (zt_dg T a)) (pe_if rfl (pe_ifn (nI_ge ha (by omega)) (pe_chk (by omega) (by decide) ?_))) (pe_b2 (zi_in _ (zm_t64 hlo) (zm_t64 hhi)) (pe_ifn (zi_i1 ?_) (pe_nm (nI_1 a) rfl)))
  · rw [nI_clamp (by omega), em]
    show some (nI (T a) - nI 48) = _
    rw [pk_sub (by omega)]; rfl
  · rw [nI_toInt (by omega)]
    omega
theorem zm_figB (h : zt_T T L sg mt) {lo hi a : Nat} (hlo : lo < 2 ^ 31) (hhi : hi < 2 ^ 31) (ha : a ≤ L) (hn : ¬ (a < L ∧ 48 + lo ≤ T a ∧ T a ≤ 48 + hi)) : fn_X9_figure (nI L) (nI a) (-9) mt (nI lo) (nI hi) = some (nI lo, nI a, nI a) := by
  have h64 := h.1
  unfold fn_X9_figure fn_X9_fail
  by_cases c : a < L
  · obtain ⟨t256, em, -⟩ := h.2 a c
    refine pe_b1 (a1 := nI (T a) - nI 48) (pe_if rfl (pe_ifn (nI_ge c (by omega)) (pe_chk (by omega) (by decide) ?_))) (pe_b2 (zi_in _ (zm_t64 hlo) (zm_t64 hhi)) (pe_if (zi_i0 ?_) (pe_b1 (pe_if rfl rfl) rfl)))
    · rw [nI_clamp (by omega), em]; rfl
    · rw [pk_sub_toInt (by omega) (by omega)]
      omega
  · have e1 : (-1 : Int32).toInt = -1 := by decide
    refine pe_b1 (a1 := -1) (pe_if rfl (pe_if (nI_le (by omega) (by omega)) rfl)) (pe_b2 (zi_in (-1) (zm_t64 hlo) (zm_t64 hhi)) (pe_if (zi_i0 ?_) (pe_b1 (pe_if rfl rfl) rfl)))
    omega
theorem zm_fig (h : zt_T T L sg mt) {s b j k lo hi : Nat} (hB : zm_B T L s b) (hk : k = j + 1) (h1 : 1 ≤ j) (h2 : j < zt_sz (T s)) (hl : j ≤ b → lo = zt_lo T s j ∧ hi = zt_hi T s j) (hlo : lo < 2 ^ 31) (hhi : hi < 2 ^ 31) : ∃ v, fn_X9_figure (nI L) (zm_at s b j) (zm_fa s b j) mt (nI lo) (nI hi) = some (nI v, zm_at s b k, zm_fa s b k) ∧ (j < b → v = zt_dg T (s + j)) ∧ (v = lo ∨ lo ≤ v ∧ v ≤ hi) := by
  have h64 := h.1
  obtain ⟨b1, b2, b3, b4, b5⟩ := hB
  subst hk
  rcases Nat.lt_trichotomy j b with c | c | c
  · have e1 : zm_at s b j = nI (s + j) := if_pos (by omega)
    have e2 : zm_fa s b j = -9 := if_pos (by omega)
    have e3 : zm_at s b (j + 1) = nI (s + j + 1) := if_pos (by omega)
    have e4 : zm_fa s b (j + 1) = -9 := if_pos (by omega)
    obtain ⟨q1, q2⟩ := hl (by omega)
    obtain ⟨g1, g2, g3⟩ := b4 j h1 c
    rw [e1, e2, e3, e4]
    rw [← q1] at g2
    rw [← q2] at g3
    exact ⟨zt_dg T (s + j), zm_figG h hlo hhi g1 g2 g3, fun _ => rfl, Or.inr (by unfold zt_dg; omega)⟩
  · subst c
    have e1 : zm_at s j j = nI (s + j) := if_pos (by omega)
    have e2 : zm_fa s j j = -9 := if_pos (by omega)
    have e3 : zm_at s j (j + 1) = nI (s + j) := if_neg (by omega)
    have e4 : zm_fa s j (j + 1) = nI (s + j) := if_neg (by omega)
    obtain ⟨q1, q2⟩ := hl (by omega)
    have g := b5 h2
    unfold zt_gd at g
    rw [← q1, ← q2] at g
    rw [e1, e2, e3, e4]
    exact ⟨lo, zm_figB h hlo hhi b3 g, fun q => absurd q (by omega), Or.inl rfl⟩
  · have e1 : zm_at s b j = nI (s + b) := if_neg (by omega)
    have e2 : zm_fa s b j = nI (s + b) := if_neg (by omega)
    have e3 : zm_at s b (j + 1) = nI (s + b) := if_neg (by omega)
    have e4 : zm_fa s b (j + 1) = nI (s + b) := if_neg (by omega)
    rw [e1, e2, e3, e4]
    exact ⟨lo, zm_figF hlo hhi (by omega), fun q => absurd q (by omega), Or.inl rfl⟩
theorem zm_night (h : zt_T T L sg mt) {s b j k x : Nat} (hB : zm_B T L s b) (hk : k = j + 2) (h1 : 1 ≤ j) (h2 : j + 1 < zt_sz (T s)) (hx : x ≤ 99) (hl : j ≤ b → x / 10 = zt_lo T s j ∧ 5 = zt_hi T s j) (hl2 : j + 1 ≤ b → (if zt_dg T (s + j) = x / 10 then x % 10 else 0) = zt_lo T s (j + 1) ∧ (if zt_dg T (s + j) = 5 then 5 else 9) = zt_hi T s (j + 1)) : ∃ v, fn_X9_readNight (nI L) (zm_at s b j) (zm_fa s b j) mt (nI x) = some (nI v, zm_at s b k, zm_fa s b k) ∧ (j + 1 < b → v = 10 * zt_dg T (s + j) + zt_dg T (s + j + 1)) ∧ v ≤ 99 := by
  subst hk
  obtain ⟨t, et, ht, bt⟩ := zm_fig h hB (k := j + 1) rfl h1 (by omega) hl (by omega) (by decide)
  have t9 : t ≤ 9 := by omega
  have hlo9 : (if t = x / 10 then x % 10 else 0) ≤ 9 := by split <;> omega
  have hhi9 : (if t = 5 then 5 else 9) ≤ 9 := by split <;> omega
  obtain ⟨l, el, hl', bl⟩ := zm_fig h hB (j := j + 1) (k := j + 2) (lo := if t = x / 10 then x % 10 else 0) (hi := if t = 5 then 5 else 9) rfl (by omega) h2 (fun q => by rw [ht (by omega)]; exact hl2 q) (by omega) (by omega)
  have l9 : l ≤ 9 := by omega
  refine ⟨10 * t + l, ?_, fun q => ?_, by omega⟩
  · have er : nI x - nI x / 10 * 10 = nI (x % 10) := pk_rem (a := x) (d := 10) (by omega) (by decide) (by decide)
    have ed : nI x / 10 = nI (x / 10) := pk_div (a := x) (d := 10) (by omega) (by decide) (by decide)
    unfold fn_X9_readNight
    rw [er, ed]
    refine pe_b3 et (pe_b1 (a1 := nI (if t = x / 10 then x % 10 else 0)) ?_ (pe_b1 (a1 := nI (if t = 5 then 5 else 9)) ?_ (pe_b3 el ?_)))
    · by_cases c : t = x / 10
      · exact pe_if (by rw [c]) (by rw [if_pos c])
      · exact pe_ifn (fun e => c ((nI_eq (by omega) (by omega)).mp e)) (by rw [if_neg c]; rfl)
    · by_cases c : t = 5
      · exact pe_if (by rw [c]; rfl) (by rw [if_pos c]; rfl)
      · exact pe_ifn (fun e => c ((nI_eq (b := 5) (by omega) (by decide)).mp e)) (by rw [if_neg c]; rfl)
    · show some (nI 10 * nI t + nI l, zm_at s b (j + 2), zm_fa s b (j + 2)) = _
      rw [pk_mul, nI_add]
  · have a := ht (by omega)
    have c : l = zt_dg T (s + j + 1) := hl' q
    omega
/-- the six numbers at q are the rule at s -/
def zm_rec (T : Nat → Nat) (s : Nat) (g : Nat → Int32) (q : Nat) : Prop := g q = nI (T s) ∧ g (q + 1) = nI (zt_dg T (s + 1)) ∧ g (q + 5) = nI (zt_dg T (s + (zt_sz (T s) - 1))) ∧ (T s = 87 → g (q + 2) = nI (zt_dg T (s + 2)) ∧ g (q + 3) = nI (zt_dg T (s + 3)) ∧ g (q + 4) = nI (zt_dg T (s + 4))) ∧ (T s = 69 → g (q + 2) = nI 0 ∧ g (q + 3) = nI 55) ∧ (zt_sz (T s) = 7 → g (q + 2) = nI (10 * zt_dg T (s + 2) + zt_dg T (s + 3)) ∧ g (q + 3) = nI (10 * zt_dg T (s + 4) + zt_dg T (s + 5)))
theorem zm_rec_same {s q : Nat} {g g' : Nat → Int32} (h : ∀ j, q ≤ j → j < q + 6 → g' j = g j) (hr : zm_rec T s g q) : zm_rec T s g' q := by
  unfold zm_rec at *
  rw [h q (by omega) (by omega), h (q + 1) (by omega) (by omega), h (q + 2) (by omega) (by omega), h (q + 3) (by omega) (by omega), h (q + 4) (by omega) (by omega), h (q + 5) (by omega) (by omega)]
  exact hr
theorem zm_lE {s : Nat} (hE : T s = 69) : zt_lo T s 1 = 0 ∧ zt_lo T s 2 = 0 ∧ zt_hi T s 1 = 9 ∧ zt_hi T s 2 = 1 := by
  have e3 : zt_sz 69 = 3 := rfl
  unfold zt_lo zt_hi
  simp only [hE, e3]
  simp
theorem zm_lW {s : Nat} (hW : T s = 87) : (zt_lo T s 1 = 0 ∧ zt_lo T s 2 = 0 ∧ zt_lo T s 3 = 1 ∧ zt_lo T s 4 = 0 ∧ zt_lo T s 5 = 0) ∧ zt_hi T s 1 = 9 ∧ zt_hi T s 2 = 6 ∧ zt_hi T s 3 = 4 ∧ zt_hi T s 4 = zt_dg T (s + 3) - 1 ∧ zt_hi T s 5 = 1 := by
  have e6 : zt_sz 87 = 6 := rfl
  unfold zt_lo zt_hi
  simp only [hW, e6]
  simp
theorem zm_lS {s : Nat} (h7 : zt_sz (T s) = 7) (hW : T s ≠ 87) : (zt_lo T s 1 = 0 ∧ zt_lo T s 2 = 0 ∧ zt_lo T s 3 = 0 ∧ zt_lo T s 4 = zt_dg T (s + 2) ∧ zt_lo T s 5 = (if zt_dg T (s + 4) = zt_dg T (s + 2) then zt_dg T (s + 3) else 0) ∧ zt_lo T s 6 = 0) ∧ zt_hi T s 1 = 9 ∧ zt_hi T s 2 = 5 ∧ zt_hi T s 3 = (if zt_dg T (s + 2) = 5 then 5 else 9) ∧ zt_hi T s 4 = 5 ∧ zt_hi T s 5 = (if zt_dg T (s + 4) = 5 then 5 else 9) ∧ zt_hi T s 6 = 1 := by
  unfold zt_lo zt_hi
  simp only [h7, hW, if_false]
  simp
/-- one rule is read: to its end, or to its first fault -/
theorem zm_ruleE (h : zt_T T L sg mt) {s b q : Nat} (g : Nat → Int32) (hE : T s = 69) (hB : zm_B T L s b) (hq : q + 6 ≤ 60) : ∃ g', fn_X9_readRule (nI L) (zm_at s b 1) (zm_fa s b 1) g mt (nI (T s)) (nI q) = some (zm_at s b 3, zm_fa s b 3, g') ∧ (∀ j, j < q ∨ q + 6 ≤ j → g' j = g j) ∧ (b = 3 → zm_rec T s g' q) := by
  have esz : zt_sz (T s) = 3 := by rw [hE]; rfl
  obtain ⟨l1, l2, u1, u2⟩ := zm_lE hE
  obtain ⟨v1, e1, d1, -⟩ := zm_fig h hB (j := 1) (k := 2) (lo := 0) (hi := 9) rfl (by omega) (by omega) (fun _ => ⟨l1.symm, u1.symm⟩) (by decide) (by decide)
  obtain ⟨v2, e2, d2, -⟩ := zm_fig h hB (j := 2) (k := 3) (lo := 0) (hi := 1) rfl (by omega) (by omega) (fun _ => ⟨l2.symm, u2.symm⟩) (by decide) (by decide)
  have c0 : (nI q).toNatClampNeg = q := nI_clamp (by omega)
  have i1 : nI q + 1 = nI (q + 1) := nI_1 q
  have i2 : nI q + 2 = nI (q + 2) := nI_add q 2
  have i3 : nI q + 3 = nI (q + 3) := nI_add q 3
  have i5 : nI q + 5 = nI (q + 5) := nI_add q 5
  have c1 : (nI q + 1).toNatClampNeg = q + 1 := by rw [i1]; exact nI_clamp (by omega)
  have c2 : (nI q + 2).toNatClampNeg = q + 2 := by rw [i2]; exact nI_clamp (by omega)
  have c3 : (nI q + 3).toNatClampNeg = q + 3 := by rw [i3]; exact nI_clamp (by omega)
  have c5 : (nI q + 5).toNatClampNeg = q + 5 := by rw [i5]; exact nI_clamp (by omega)
  obtain ⟨G0, hG0⟩ : ∃ G, G = upd g q (nI (T s)) := ⟨_, rfl⟩
  obtain ⟨G1, hG1⟩ : ∃ G, G = upd G0 (q + 1) (nI v1) := ⟨_, rfl⟩
  obtain ⟨G2, hG2⟩ : ∃ G, G = upd G1 (q + 2) 0 := ⟨_, rfl⟩
  obtain ⟨G3, hG3⟩ : ∃ G, G = upd G2 (q + 3) 55 := ⟨_, rfl⟩
  obtain ⟨G5, hG5⟩ : ∃ G, G = upd G3 (q + 5) (nI v2) := ⟨_, rfl⟩
  refine ⟨G5, ?_, fun j hj => ?_, fun hb => ⟨?_, ?_, ?_, ?_, ?_, ?_⟩⟩
  · unfold fn_X9_readRule
    exact pe_chk (by omega) (by decide) (pe_nm (x := G0) (by rw [c0, hG0]) (pe_b3 e1 (pe_chkE i1 (by omega) (by decide) (pe_nm (x := G1) (by rw [c1, hG1]) (pe_b3 (pe_ifn (by rw [hE]; decide) (pe_if (by rw [hE]; rfl) (pe_chkE i2 (by omega) (by decide) (pe_nm (x := G2) (by rw [c2, hG2]) (pe_chkE i3 (by omega) (by decide) (pe_nm (x := G3) (by rw [c3, hG3]) rfl)))))) (pe_b3 e2 (pe_chkE i5 (by omega) (by decide) (pe_nm (x := G5) (by rw [c5, hG5]) rfl))))))))
  · rw [hG5, pk_un (by omega), hG3, pk_un (by omega), hG2, pk_un (by omega), hG1, pk_un (by omega), hG0, pk_un (by omega)]
  · rw [hG5, pk_un (by omega), hG3, pk_un (by omega), hG2, pk_un (by omega), hG1, pk_un (by omega), hG0, pk_us]
  · rw [hG5, pk_un (by omega), hG3, pk_un (by omega), hG2, pk_un (by omega), hG1, pk_us, d1 (by omega)]
  · rw [hG5, pk_us, d2 (by omega), esz]
  · intro e; omega
  · intro _
    exact ⟨by rw [hG5, pk_un (by omega), hG3, pk_un (by omega), hG2, pk_us]; rfl, by rw [hG5, pk_un (by omega), hG3, pk_us]; rfl⟩
  · intro e; omega
theorem zm_ruleW (h : zt_T T L sg mt) {s b q : Nat} (g : Nat → Int32) (hW : T s = 87) (hB : zm_B T L s b) (hq : q + 6 ≤ 60) : ∃ g', fn_X9_readRule (nI L) (zm_at s b 1) (zm_fa s b 1) g mt (nI (T s)) (nI q) = some (zm_at s b 6, zm_fa s b 6, g') ∧ (∀ j, j < q ∨ q + 6 ≤ j → g' j = g j) ∧ (b = 6 → zm_rec T s g' q) := by
  have esz : zt_sz (T s) = 6 := by rw [hW]; rfl
  obtain ⟨⟨l1, l2, l3, l4, l5⟩, u1, u2, u3, u4, u5⟩ := zm_lW hW
  obtain ⟨v1, e1, d1, -⟩ := zm_fig h hB (j := 1) (k := 2) (lo := 0) (hi := 9) rfl (by omega) (by omega) (fun _ => ⟨l1.symm, u1.symm⟩) (by decide) (by decide)
  obtain ⟨v2, e2, d2, -⟩ := zm_fig h hB (j := 2) (k := 3) (lo := 0) (hi := 6) rfl (by omega) (by omega) (fun _ => ⟨l2.symm, u2.symm⟩) (by decide) (by decide)
  obtain ⟨v3, e3, d3, r3⟩ := zm_fig h hB (j := 3) (k := 4) (lo := 1) (hi := 4) rfl (by omega) (by omega) (fun _ => ⟨l3.symm, u3.symm⟩) (by decide) (by decide)
  obtain ⟨v4, e4, d4, -⟩ := zm_fig h hB (j := 4) (k := 5) (lo := 0) (hi := v3 - 1) rfl (by omega) (by omega) (fun z => ⟨l4.symm, by rw [u4, d3 (by omega)]⟩) (by decide) (by omega)
  obtain ⟨v5, e5, d5, -⟩ := zm_fig h hB (j := 5) (k := 6) (lo := 0) (hi := 1) rfl (by omega) (by omega) (fun _ => ⟨l5.symm, u5.symm⟩) (by decide) (by decide)
  have c0 : (nI q).toNatClampNeg = q := nI_clamp (by omega)
  have i1 : nI q + 1 = nI (q + 1) := nI_1 q
  have i2 : nI q + 2 = nI (q + 2) := nI_add q 2
  have i3 : nI q + 3 = nI (q + 3) := nI_add q 3
  have i4 : nI q + 4 = nI (q + 4) := nI_add q 4
  have i5 : nI q + 5 = nI (q + 5) := nI_add q 5
  have c1 : (nI q + 1).toNatClampNeg = q + 1 := by rw [i1]; exact nI_clamp (by omega)
  have c2 : (nI q + 2).toNatClampNeg = q + 2 := by rw [i2]; exact nI_clamp (by omega)
  have c3 : (nI q + 3).toNatClampNeg = q + 3 := by rw [i3]; exact nI_clamp (by omega)
  have c4 : (nI q + 4).toNatClampNeg = q + 4 := by rw [i4]; exact nI_clamp (by omega)
  have c5 : (nI q + 5).toNatClampNeg = q + 5 := by rw [i5]; exact nI_clamp (by omega)
  obtain ⟨G0, hG0⟩ : ∃ G, G = upd g q (nI (T s)) := ⟨_, rfl⟩
  obtain ⟨G1, hG1⟩ : ∃ G, G = upd G0 (q + 1) (nI v1) := ⟨_, rfl⟩
  obtain ⟨G2, hG2⟩ : ∃ G, G = upd G1 (q + 2) (nI v2) := ⟨_, rfl⟩
  obtain ⟨G3, hG3⟩ : ∃ G, G = upd G2 (q + 3) (nI v3) := ⟨_, rfl⟩
  obtain ⟨G4, hG4⟩ : ∃ G, G = upd G3 (q + 4) (nI v4) := ⟨_, rfl⟩
  obtain ⟨G5, hG5⟩ : ∃ G, G = upd G4 (q + 5) (nI v5) := ⟨_, rfl⟩
  have hv : G3 (nI q + 3).toNatClampNeg - 1 = nI (v3 - 1) := by
    rw [c3, hG3, pk_us]
    have := nI_pred (v3 - 1)
    rw [show v3 - 1 + 1 = v3 by omega] at this
    exact this
  have e4' : fn_X9_figure (nI L) (zm_at s b 4) (zm_fa s b 4) mt 0 (G3 (nI q + 3).toNatClampNeg - 1) = some (nI v4, zm_at s b 5, zm_fa s b 5) := by rw [hv]; exact e4
  refine ⟨G5, ?_, fun j hj => ?_, fun hb => ⟨?_, ?_, ?_, ?_, ?_, ?_⟩⟩
  · unfold fn_X9_readRule
    exact pe_chk (by omega) (by decide) (pe_nm (x := G0) (by rw [c0, hG0]) (pe_b3 e1 (pe_chkE i1 (by omega) (by decide) (pe_nm (x := G1) (by rw [c1, hG1]) (pe_b3 (pe_if (by rw [hW]; rfl) (pe_b3 e2 (pe_chkE i2 (by omega) (by decide) (pe_nm (x := G2) (by rw [c2, hG2]) (pe_b3 e3 (pe_chkE i3 (by omega) (by decide) (pe_nm (x := G3) (by rw [c3, hG3]) (pe_chkE i3 (by omega) (by decide) (pe_b3 e4' (pe_chkE i4 (by omega) (by decide) (pe_nm (x := G4) (by rw [c4, hG4]) rfl))))))))))) (pe_b3 e5 (pe_chkE i5 (by omega) (by decide) (pe_nm (x := G5) (by rw [c5, hG5]) rfl))))))))
  · rw [hG5, pk_un (by omega), hG4, pk_un (by omega), hG3, pk_un (by omega), hG2, pk_un (by omega), hG1, pk_un (by omega), hG0, pk_un (by omega)]
  · rw [hG5, pk_un (by omega), hG4, pk_un (by omega), hG3, pk_un (by omega), hG2, pk_un (by omega), hG1, pk_un (by omega), hG0, pk_us]
  · rw [hG5, pk_un (by omega), hG4, pk_un (by omega), hG3, pk_un (by omega), hG2, pk_un (by omega), hG1, pk_us, d1 (by omega)]
  · rw [hG5, pk_us, d5 (by omega), esz]
  · intro _
    exact ⟨by rw [hG5, pk_un (by omega), hG4, pk_un (by omega), hG3, pk_un (by omega), hG2, pk_us, d2 (by omega)], by rw [hG5, pk_un (by omega), hG4, pk_un (by omega), hG3, pk_us, d3 (by omega)], by rw [hG5, pk_un (by omega), hG4, pk_us, d4 (by omega)]⟩
  · intro e; omega
  · intro e; omega
theorem zm_ruleS (h : zt_T T L sg mt) {s b q : Nat} (g : Nat → Int32) (h7 : zt_sz (T s) = 7) (hW : T s ≠ 87) (hE : T s ≠ 69) (hs : T s < 256) (hB : zm_B T L s b) (hq : q + 6 ≤ 60) : ∃ g', fn_X9_readRule (nI L) (zm_at s b 1) (zm_fa s b 1) g mt (nI (T s)) (nI q) = some (zm_at s b 7, zm_fa s b 7, g') ∧ (∀ j, j < q ∨ q + 6 ≤ j → g' j = g j) ∧ (b = 7 → zm_rec T s g' q) := by
  obtain ⟨⟨l1, l2, l3, l4, l5, l6⟩, u1, u2, u3, u4, u5, u6⟩ := zm_lS h7 hW
  obtain ⟨v1, e1, d1, -⟩ := zm_fig h hB (j := 1) (k := 2) (lo := 0) (hi := 9) rfl (by omega) (by omega) (fun _ => ⟨l1.symm, u1.symm⟩) (by decide) (by decide)
  obtain ⟨x1, en1, dn1, x199⟩ := zm_night h hB (j := 2) (k := 4) (x := 0) rfl (by omega) (by omega) (by omega) (fun _ => ⟨l2.symm, u2.symm⟩) (fun _ => ⟨by rw [l3]; split <;> rfl, u3.symm⟩)
  have f3 : 4 ≤ b → x1 / 10 = zt_dg T (s + 2) ∧ x1 % 10 = zt_dg T (s + 3) := fun z => by
    have a3 := (zt_S h7 hW (i := b) hB.2.2.2.1).2.2.1 (by omega)
    have e : x1 = 10 * zt_dg T (s + 2) + zt_dg T (s + 3) := dn1 (by omega)
    have : zt_dg T (s + 3) ≤ 9 := by unfold zt_dg; omega
    omega
  obtain ⟨x2, en2, dn2, -⟩ := zm_night h hB (j := 4) (k := 6) (x := x1) rfl (by omega) (by omega) x199 (fun z => ⟨by rw [l4]; exact (f3 z).1, u4.symm⟩) (fun z => ⟨by rw [l5, (f3 (by omega)).1, (f3 (by omega)).2], u5.symm⟩)
  obtain ⟨v6, e6, d6, -⟩ := zm_fig h hB (j := 6) (k := 7) (lo := 0) (hi := 1) rfl (by omega) (by omega) (fun _ => ⟨l6.symm, u6.symm⟩) (by decide) (by decide)
  have c0 : (nI q).toNatClampNeg = q := nI_clamp (by omega)
  have i1 : nI q + 1 = nI (q + 1) := nI_1 q
  have i2 : nI q + 2 = nI (q + 2) := nI_add q 2
  have i3 : nI q + 3 = nI (q + 3) := nI_add q 3
  have i5 : nI q + 5 = nI (q + 5) := nI_add q 5
  have c1 : (nI q + 1).toNatClampNeg = q + 1 := by rw [i1]; exact nI_clamp (by omega)
  have c2 : (nI q + 2).toNatClampNeg = q + 2 := by rw [i2]; exact nI_clamp (by omega)
  have c3 : (nI q + 3).toNatClampNeg = q + 3 := by rw [i3]; exact nI_clamp (by omega)
  have c5 : (nI q + 5).toNatClampNeg = q + 5 := by rw [i5]; exact nI_clamp (by omega)
  obtain ⟨G0, hG0⟩ : ∃ G, G = upd g q (nI (T s)) := ⟨_, rfl⟩
  obtain ⟨G1, hG1⟩ : ∃ G, G = upd G0 (q + 1) (nI v1) := ⟨_, rfl⟩
  obtain ⟨G2, hG2⟩ : ∃ G, G = upd G1 (q + 2) (nI x1) := ⟨_, rfl⟩
  obtain ⟨G3, hG3⟩ : ∃ G, G = upd G2 (q + 3) (nI x2) := ⟨_, rfl⟩
  obtain ⟨G5, hG5⟩ : ∃ G, G = upd G3 (q + 5) (nI v6) := ⟨_, rfl⟩
  have en2' : fn_X9_readNight (nI L) (zm_at s b 4) (zm_fa s b 4) mt (G2 (nI q + 2).toNatClampNeg) = some (nI x2, zm_at s b 6, zm_fa s b 6) := by rw [c2, hG2, pk_us]; exact en2
  have n87 : ¬ nI (T s) = 87 := fun e => hW ((nI_eq (b := 87) (by omega) (by decide)).mp e)
  have n69 : ¬ nI (T s) = 69 := fun e => hE ((nI_eq (b := 69) (by omega) (by decide)).mp e)
  refine ⟨G5, ?_, fun j hj => ?_, fun hb => ⟨?_, ?_, ?_, ?_, ?_, ?_⟩⟩
  · unfold fn_X9_readRule
    exact pe_chk (by omega) (by decide) (pe_nm (x := G0) (by rw [c0, hG0]) (pe_b3 e1 (pe_chkE i1 (by omega) (by decide) (pe_nm (x := G1) (by rw [c1, hG1]) (pe_b3 (pe_ifn n87 (pe_ifn n69 (pe_b3 en1 (pe_chkE i2 (by omega) (by decide) (pe_nm (x := G2) (by rw [c2, hG2]) (pe_chkE i2 (by omega) (by decide) (pe_b3 en2' (pe_chkE i3 (by omega) (by decide) (pe_nm (x := G3) (by rw [c3, hG3]) rfl))))))))) (pe_b3 e6 (pe_chkE i5 (by omega) (by decide) (pe_nm (x := G5) (by rw [c5, hG5]) rfl))))))))
  · rw [hG5, pk_un (by omega), hG3, pk_un (by omega), hG2, pk_un (by omega), hG1, pk_un (by omega), hG0, pk_un (by omega)]
  · rw [hG5, pk_un (by omega), hG3, pk_un (by omega), hG2, pk_un (by omega), hG1, pk_un (by omega), hG0, pk_us]
  · rw [hG5, pk_un (by omega), hG3, pk_un (by omega), hG2, pk_un (by omega), hG1, pk_us, d1 (by omega)]
  · rw [hG5, pk_us, d6 (by omega), h7]
  · intro e; exact absurd e hW
  · intro e; exact absurd e hE
  · intro _
    exact ⟨by rw [hG5, pk_un (by omega), hG3, pk_un (by omega), hG2, pk_us, dn1 (by omega)], by rw [hG5, pk_un (by omega), hG3, pk_us, dn2 (by omega)]⟩
theorem zm_rule (h : zt_T T L sg mt) {s b q : Nat} (g : Nat → Int32) (hs : s < L) (h0 : zt_sz (T s) ≠ 0) (hB : zm_B T L s b) (hq : q + 6 ≤ 60) : ∃ g', fn_X9_readRule (nI L) (nI (s + 1)) (-9) g mt (nI (T s)) (nI q) = some (zm_at s b (zt_sz (T s)), zm_fa s b (zt_sz (T s)), g') ∧ (∀ j, j < q ∨ q + 6 ≤ j → g' j = g j) ∧ (b = zt_sz (T s) → zm_rec T s g' q) := by
  have e1 : zm_at s b 1 = nI (s + 1) := if_pos hB.1
  have e2 : zm_fa s b 1 = -9 := if_pos hB.1
  rw [← e1, ← e2]
  rcases zt_szc (T s) with ⟨e, -⟩ | ⟨c, e⟩ | ⟨c, e⟩ | ⟨c, e⟩
  · exact absurd e h0
  · rw [e]; exact zm_ruleE h g c hB hq
  · rw [e]; exact zm_ruleW h g c hB hq
  · rw [e]; exact zm_ruleS h g e (by omega) (by omega) (h.2 s hs).1 hB hq
theorem zm_is : ∀ t, t < 256 → (if nI t = 87 then some (1 : Int32) else (if nI t = 70 then some 1 else (if nI t = 72 then some 1 else (if nI t = 89 then some 1 else (if nI t = 69 then some 1 else some 0))))) = some (if zt_sz t = 0 then 0 else 1) := by decide +kernel
theorem zm_step (h : zt_T T L sg mt) {s b r : Nat} (g : Nat → Int32) (hs : s < L) (h0 : zt_sz (T s) ≠ 0) (hB : zm_B T L s b) (hr : r < 10) : ∃ g', fb_X9_readText_16 (nI L) mt (nI r) (nI s) (-9) g = some (.inl (nI (r + 1), zm_at s b (zt_sz (T s)), zm_fa s b (zt_sz (T s)), g')) ∧ (∀ j, j < 6 * r ∨ 6 * r + 6 ≤ j → g' j = g j) ∧ (b = zt_sz (T s) → zm_rec T s g' (6 * r)) := by
  have h64 := h.1
  obtain ⟨t256, em, -⟩ := h.2 s hs
  obtain ⟨g', er, hfr, hrec⟩ := zm_rule h (q := 6 * r) g hs h0 hB (by omega)
  refine ⟨g', ?_, hfr, hrec⟩
  have hm : (6 : Int32) * nI r = nI (6 * r) := pk_mul 6 r
  have ec : mt (nI s).toNatClampNeg = nI (T s) := by rw [nI_clamp (by omega), em]
  have ew := zm_is (T s) t256
  rw [if_neg h0] at ew
  unfold fb_X9_readText_16
  rw [hm]
  exact pe_if rfl (pe_ifn (nI_ge hs (by omega)) (pe_chk (by omega) (by decide) (pe_nm ec (pe_b1 ew (pe_ifn (by decide) (pe_ifn (fun e => absurd ((nI_eq (b := 10) (by omega) (by decide)).mp e) (by omega)) (pe_nm (nI_1 s) (pe_b3 er (pe_nm (nI_1 r) rfl)))))))))
/-- the letter is none, or there are ten rules -/
theorem zm_stop (h : zt_T T L sg mt) {s r : Nat} (g : Nat → Int32) (hs : s < L) (hr : r ≤ 10) (h0 : r = 10 ∨ zt_sz (T s) = 0) : fb_X9_readText_16 (nI L) mt (nI r) (nI s) (-9) g = some (.inl (nI r, nI s, nI s, g)) := by
  have h64 := h.1
  obtain ⟨t256, em, -⟩ := h.2 s hs
  have ec : mt (nI s).toNatClampNeg = nI (T s) := by rw [nI_clamp (by omega), em]
  have ew := zm_is (T s) t256
  unfold fb_X9_readText_16 fn_X9_fail
  by_cases c : zt_sz (T s) = 0
  · rw [if_pos c] at ew
    exact pe_if rfl (pe_ifn (nI_ge hs (by omega)) (pe_chk (by omega) (by decide) (pe_nm ec (pe_b1 ew (pe_if rfl (pe_b1 (pe_if rfl rfl) rfl))))))
  · rw [if_neg c] at ew
    have : r = 10 := by omega
    subst this
    exact pe_if rfl (pe_ifn (nI_ge hs (by omega)) (pe_chk (by omega) (by decide) (pe_nm ec (pe_b1 ew (pe_ifn (by decide) (pe_if rfl (pe_b1 (pe_if rfl rfl) rfl)))))))
theorem zm_Ball {s : Nat} (h0 : zt_sz (T s) ≠ 0) (ha : zt_all T L s) : zm_B T L s (zt_sz (T s)) := ⟨by omega, by omega, zt_le h0 ha, fun i h1 h2 => ha i h1 h2, fun q => absurd q (by omega)⟩
theorem zm_Bbad {s b : Nat} (hs : s < L) (hb : zt_bad T L s b) : zm_B T L s b := by
  obtain ⟨b1, b2, b3, b4⟩ := hb
  refine ⟨b1, by omega, ?_, b3, fun _ => b4⟩
  rcases Nat.lt_or_ge 1 b with q | q
  · have := (b3 (b - 1) (by omega) (by omega)).1
    omega
  · omega
def zm_I (T : Nat → Nat) (k : Nat) (z : Int32 × Int32 × Int32 × (Nat → Int32)) : Prop := ∃ g, z = (nI k, nI (zt_st T k), -9, g) ∧ ∀ r, r < k → zm_rec T (zt_st T r) g (6 * r)
theorem zm_next (h : zt_T T L sg mt) {k : Nat} {z : Int32 × Int32 × Int32 × (Nat → Int32)} (hk : k < 10) (hf : zt_fine T L k) (hI : zm_I T k z) : ∃ z', fb_X9_readText_16 (nI L) mt z.1 z.2.1 z.2.2.1 z.2.2.2 = some (.inl z') ∧ zm_I T (k + 1) z' := by
  obtain ⟨g, rfl, hr⟩ := hI
  obtain ⟨f1, f2, f3⟩ := hf
  obtain ⟨g', e, hfr, hrec⟩ := zm_step h (r := k) g f1 f2 (zm_Ball f2 f3) hk
  have e1 : zm_at (zt_st T k) (zt_sz (T (zt_st T k))) (zt_sz (T (zt_st T k))) = nI (zt_st T (k + 1)) := if_pos (Nat.le_refl _)
  have e2 : zm_fa (zt_st T k) (zt_sz (T (zt_st T k))) (zt_sz (T (zt_st T k))) = -9 := if_pos (Nat.le_refl _)
  rw [e1, e2] at e
  refine ⟨_, e, g', rfl, fun r hrk => ?_⟩
  rcases Nat.lt_or_ge r k with q | q
  · exact zm_rec_same (fun j _ _ => hfr j (Or.inl (by omega))) (hr r q)
  · rw [show r = k by omega]; exact hrec rfl
/-- a text without fault -/
theorem zm_good (h : zt_T T L sg mt) {N : Nat} (hN : N ≤ 10) (hf : ∀ r, r < N → zt_fine T L r) (hL : L ≤ zt_st T N) (hL2 : zt_st T N ≤ L) (g : Nat → Int32) : ∃ x g', fn_X9_readText (nI L) g mt = some (-9, nI N, x, -9, g') ∧ ∀ r, r < N → zm_rec T (zt_st T r) g' (6 * r) := by
  have h64 := h.1
  obtain ⟨w, ew, g', hw, hr⟩ := pe_itI (b := fun z : Int32 × Int32 × Int32 × (Nat → Int32) => fb_X9_readText_16 (nI L) mt z.1 z.2.1 z.2.2.1 z.2.2.2) (zm_I T) N (fun w => zm_I T N w) (s0 := (0, 0, -9, g)) ⟨g, rfl, fun r hr => absurd hr (Nat.not_lt_zero r)⟩ (fun k z hk hI => zm_next h (by omega) (hf k hk) hI) (fun z hI => by
    obtain ⟨g1, rfl, hr⟩ := hI
    refine ⟨(nI N, nI (zt_st T N), -9, g1), ?_, g1, rfl, hr⟩
    unfold fb_X9_readText_16
    exact pe_if rfl (pe_if (nI_le hL (by omega)) rfl)) (by omega)
  subst hw
  exact ⟨nI (zt_st T N), g', pe_b4 ew rfl, hr⟩
/-- a text with a fault -/
theorem zm_run (h : zt_T T L sg mt) {N f : Nat} (hN : N ≤ 10) (hf : ∀ r, r < N → zt_fine T L r) (hf31 : f < 2 ^ 31) (hst : ∀ gk, ∃ x y g', fb_X9_readText_16 (nI L) mt (nI N) (nI (zt_st T N)) (-9) gk = some (.inl (x, y, nI f, g'))) (g : Nat → Int32) : ∃ x y g', fn_X9_readText (nI L) g mt = some (nI f, x, y, nI f, g') := by
  obtain ⟨w, ew, x, y, g', hw⟩ := pe_itI (b := fun z : Int32 × Int32 × Int32 × (Nat → Int32) => fb_X9_readText_16 (nI L) mt z.1 z.2.1 z.2.2.1 z.2.2.2) (fun k z => (k ≤ N ∧ zm_I T k z) ∨ (k = N + 1 ∧ ∃ x y g', z = (x, y, nI f, g'))) (N + 1) (fun w => ∃ x y g', w = (x, y, nI f, g')) (s0 := (0, 0, -9, g)) (Or.inl ⟨Nat.zero_le _, g, rfl, fun r hr => absurd hr (Nat.not_lt_zero r)⟩) (fun k z hk hI => by
    rcases hI with ⟨hkN, hI⟩ | ⟨hkN, -⟩
    · rcases Nat.lt_or_ge k N with q | q
      · obtain ⟨z', e, hz⟩ := zm_next h (by omega) (hf k q) hI
        exact ⟨z', e, Or.inl ⟨by omega, hz⟩⟩
      · have : k = N := by omega
        subst this
        obtain ⟨g1, rfl, -⟩ := hI
        obtain ⟨x, y, g', e⟩ := hst g1
        exact ⟨_, e, Or.inr ⟨rfl, x, y, g', rfl⟩⟩
    · omega) (fun z hI => by
    rcases hI with ⟨hkN, -⟩ | ⟨-, x, y, g', rfl⟩
    · omega
    · refine ⟨(x, y, nI f, g'), ?_, x, y, g', rfl⟩
      unfold fb_X9_readText_16
      exact pe_ifn (zm_m9 hf31) rfl) (by omega)
  subst hw
  exact ⟨x, y, g', pe_b4 ew rfl⟩
end ZM
/-- both find the same first fault; without one, the model has read the rules -/
theorem pf_first {len mlen : Int32} {sg mt : Nat → Int32} (hT : zi_text len sg mlen mt) (g : Nat → Int32) : (∃ f x y g', f < 2 ^ 31 ∧ fn_X6_firstFault len sg = some (nI f, ()) ∧ fn_X9_readText mlen g mt = some (nI f, x, y, nI f, g')) ∨ ∃ L T N x g', len = nI L ∧ zt_T T L sg mt ∧ N ≤ 10 ∧ (∀ r, r < N → zt_fine T L r) ∧ zt_st T N = L ∧ fn_X6_firstFault len sg = some (-9, ()) ∧ fn_X9_readText mlen g mt = some (-9, nI N, x, -9, g') ∧ ∀ r, r < N → zm_rec T (zt_st T r) g' (6 * r) := by
  obtain ⟨L, T, rfl, rfl, h⟩ := zt_of hT
  have h64 := h.1
  obtain ⟨N, hN, hf, hle, hc⟩ := zt_cases T L
  obtain ⟨c1, c2, c3⟩ := zt_fault8 h hN hf
  rcases hc with hc | ⟨hs, hc⟩ | ⟨hs, h10, h0, b, hb⟩
  · obtain ⟨x, g', e, hr⟩ := zm_good h hN hf hc hle g
    exact Or.inr ⟨L, T, N, x, g', rfl, h, hN, hf, by omega, c1 hc, e, hr⟩
  · obtain ⟨x, y, g', e⟩ := zm_run h (f := zt_st T N) hN hf (by omega) (fun gk => ⟨_, _, _, zm_stop h gk hs hN hc⟩) g
    exact Or.inl ⟨zt_st T N, x, y, g', by omega, c2 hs hc, e⟩
  · have hB := zm_Bbad hs hb
    have hb3 := hB.2.2.1
    have e1 : zm_at (zt_st T N) b (zt_sz (T (zt_st T N))) = nI (zt_st T N + b) := if_neg (by have := hb.2.1; omega)
    have e2 : zm_fa (zt_st T N) b (zt_sz (T (zt_st T N))) = nI (zt_st T N + b) := if_neg (by have := hb.2.1; omega)
    obtain ⟨x, y, g', e⟩ := zm_run h (f := zt_st T N + b) hN hf (by omega) (fun gk => by
      obtain ⟨g', es, -⟩ := zm_step h (r := N) gk hs h0 hB h10
      rw [e1, e2] at es
      exact ⟨_, _, _, es⟩) g
    exact Or.inl ⟨zt_st T N + b, x, y, g', by omega, c3 b hs h10 hb, e⟩
theorem pf_fault {len mlen : Int32} {sg mt : Nat → Int32} (hT : zi_text len sg mlen mt) (g : Nat → Int32) : ∃ r w1 w2 w3 w4, fn_X8_fault len sg = some (r, ()) ∧ fn_X9_fault mlen g mt = some (r, w1, w2, w3, w4) := by
  rcases pf_first hT g with ⟨f, x, y, g', -, e1, e2⟩ | ⟨L, T, N, x, g', -, -, -, -, -, e1, e2, -⟩
  · exact ⟨nI f, x, y, nI f, g', pe_b2 e1 rfl, pe_b5 e2 rfl⟩
  · exact ⟨-9, nI N, x, -9, g', pe_b2 e1 rfl, pe_b5 e2 rfl⟩
