/-! the class finds the first fault -/
theorem zt_y {p : Prop} (hp : p) : (1 : Int32) = 0 ↔ ¬ p := ⟨fun e => absurd e (by decide), fun e => absurd hp e⟩
theorem zt_n {p : Prop} (hp : ¬ p) : (0 : Int32) = 0 ↔ ¬ p := ⟨fun _ => hp, fun _ => rfl⟩
section ZT
variable {T : Nat → Nat} {L : Nat} {sg mt : Nat → Int32}
/-- a good sign is a figure -/
theorem zt_is {s i : Nat} (h0 : zt_sz (T s) ≠ 0) (h1 : 1 ≤ i) (h2 : i < zt_sz (T s)) (hg : ∀ k, 1 ≤ k → k < i + 1 → zt_gd T L s k) : 48 ≤ T (s + i) ∧ T (s + i) ≤ 57 := by
  rcases zt_szc (T s) with ⟨e, -⟩ | ⟨c, e⟩ | ⟨c, e⟩ | ⟨c, e⟩
  · exact absurd e h0
  · obtain ⟨a1, a2⟩ := zt_E c hg
    have : i = 1 ∨ i = 2 := by omega
    rcases this with rfl | rfl
    · have := a1 (by decide); omega
    · have := a2 (by decide); omega
  · obtain ⟨a1, a2, a3, a4, a5⟩ := zt_W c hg
    have : i = 1 ∨ i = 2 ∨ i = 3 ∨ i = 4 ∨ i = 5 := by omega
    rcases this with rfl | rfl | rfl | rfl | rfl
    · have := a1 (by decide); omega
    · have := a2 (by decide); omega
    · have := a3 (by decide); omega
    · have := a3 (by decide); have := a4 (by decide); omega
    · have := a5 (by decide); omega
  · obtain ⟨a1, a2, a3, a4, a5, a6⟩ := zt_S e (by omega) hg
    have : i = 1 ∨ i = 2 ∨ i = 3 ∨ i = 4 ∨ i = 5 ∨ i = 6 := by omega
    rcases this with rfl | rfl | rfl | rfl | rfl | rfl
    · have := a1 (by decide); omega
    · have := a2 (by decide); omega
    · have := a3 (by decide); omega
    · have := a2 (by decide); have := a4 (by decide); omega
    · have := a5 (by decide); omega
    · have := a6 (by decide); omega
theorem zt_fitsW (h : zt_T T L sg mt) {s i f : Nat} (hW : T s = 87) (h1 : 2 ≤ i) (h2 : i < 5) (hL : s + i < L) (hg : ∀ k, 1 ≤ k → k < i → zt_gd T L s k) (hf : f ≤ 9) (ef : T (s + i) = 48 + f) : ∃ x, fn_X6_fitsWeekday (nI L) sg (nI s) (nI i) (nI f) = some (x, ()) ∧ (x = 0 ∨ x = 1) ∧ (x = 0 ↔ ¬ zt_gd T L s i) := by
  have e6 : zt_sz 87 = 6 := rfl
  obtain ⟨a1, a2, a3, a4, a5⟩ := zt_W hW hg
  have h64 := h.1
  unfold fn_X6_fitsWeekday
  have ci : i = 2 ∨ i = 3 ∨ i = 4 := by omega
  rcases ci with rfl | rfl | rfl
  · have hq : zt_gd T L s 2 ↔ f ≤ 6 := by
      unfold zt_gd zt_lo zt_hi
      simp only [hW, e6]
      simp
      omega
    rw [hq]
    by_cases c : f ≤ 6
    · exact ⟨1, pe_if rfl (pe_ifn (nI_ge (b := 7) (by omega) (by decide)) rfl), Or.inr rfl, zt_y c⟩
    · exact ⟨0, pe_if rfl (pe_if (nI_le (a := 7) (by omega) (by omega)) rfl), Or.inl rfl, zt_n c⟩
  · have hq : zt_gd T L s 3 ↔ 1 ≤ f ∧ f ≤ 4 := by
      unfold zt_gd zt_lo zt_hi
      simp only [hW, e6]
      simp
      omega
    rw [hq]
    by_cases c : 1 ≤ f
    · by_cases c2 : f ≤ 4
      · exact ⟨1, pe_ifn (by decide) (pe_if rfl (pe_ifn (nI_nlt (b := 1) c (by omega)) (pe_ifn (nI_nlt (a := 4) c2 (by decide)) rfl))), Or.inr rfl, zt_y ⟨c, c2⟩⟩
      · exact ⟨0, pe_ifn (by decide) (pe_if rfl (pe_ifn (nI_nlt (b := 1) c (by omega)) (pe_if (nI_lt (a := 4) (by omega) (by omega)) rfl))), Or.inl rfl, zt_n (fun e => c2 e.2)⟩
    · exact ⟨0, pe_ifn (by decide) (pe_if rfl (pe_if (nI_lt (b := 1) (by omega) (by decide)) rfl)), Or.inl rfl, zt_n (fun e => c e.1)⟩
  · have b3 := a3 (by decide)
    have hq : zt_gd T L s 4 ↔ f < zt_dg T (s + 3) := by
      unfold zt_gd zt_lo zt_hi
      simp only [hW, e6]
      unfold zt_dg
      simp
      omega
    have e3 := zt_fig h (j := s + 3) (by omega) (by omega) (by omega)
    rw [← nI_add] at e3
    have d3 : zt_dg T (s + 3) ≤ 4 := by unfold zt_dg; omega
    rw [hq]
    by_cases c : f < zt_dg T (s + 3)
    · exact ⟨1, pe_ifn (by decide) (pe_ifn (by decide) (pe_b2 e3 (pe_ifn (nI_ge c (by omega)) rfl))), Or.inr rfl, zt_y c⟩
    · exact ⟨0, pe_ifn (by decide) (pe_ifn (by decide) (pe_b2 e3 (pe_if (nI_le (by omega) (by omega)) rfl))), Or.inl rfl, zt_n c⟩
theorem zt_night (h : zt_T T L sg mt) {j : Nat} (hj : j + 1 < L) (h1 : 48 ≤ T j) (h2 : T j ≤ 57) (h3 : 48 ≤ T (j + 1)) (h4 : T (j + 1) ≤ 57) : fn_X6_nightAt (nI L) sg (nI j) = some (nI (10 * zt_dg T j + zt_dg T (j + 1)), ()) := by
  have e2 := zt_fig h (j := j + 1) hj h3 h4
  rw [← nI_1] at e2
  refine pe_b2 (zt_fig h (by omega) h1 h2) (pe_b2 e2 ?_)
  rw [show (10 : Int32) = nI 10 from rfl, pk_mul, nI_add, Nat.mul_comm]
theorem zt_fitsS (h : zt_T T L sg mt) {s i f : Nat} (h7 : zt_sz (T s) = 7) (hW : T s ≠ 87) (h1 : 2 ≤ i) (h2 : i < 6) (hL : s + i < L) (hg : ∀ k, 1 ≤ k → k < i → zt_gd T L s k) (hf : f ≤ 9) (ef : T (s + i) = 48 + f) : ∃ x, fn_X6_fitsSpan (nI L) sg (nI s) (nI i) (nI f) = some (x, ()) ∧ (x = 0 ∨ x = 1) ∧ (x = 0 ↔ ¬ zt_gd T L s i) := by
  obtain ⟨a1, a2, a3, a4, a5, a6⟩ := zt_S h7 hW hg
  have h64 := h.1
  unfold fn_X6_fitsSpan
  have ci : i = 2 ∨ i = 3 ∨ i = 4 ∨ i = 5 := by omega
  rcases ci with rfl | rfl | rfl | rfl
  · have hq : zt_gd T L s 2 ↔ f ≤ 5 := by
      unfold zt_gd zt_lo zt_hi
      simp only [hW, h7, if_false]
      simp
      omega
    have e2 := zt_fig h (j := s + 2) (by omega) (by omega) (by omega)
    rw [← nI_add] at e2
    rw [hq]
    by_cases c : f ≤ 5
    · exact ⟨1, pe_b2 e2 (pe_if rfl (pe_ifn (nI_nlt (a := 5) c (by decide)) rfl)), Or.inr rfl, zt_y c⟩
    · exact ⟨0, pe_b2 e2 (pe_if rfl (pe_if (nI_lt (a := 5) (by omega) (by omega)) rfl)), Or.inl rfl, zt_n c⟩
  · have b2 := a2 (by decide)
    have d2 : zt_dg T (s + 2) ≤ 5 ∧ T (s + 2) = 48 + zt_dg T (s + 2) := by unfold zt_dg; omega
    have hq : zt_gd T L s 3 ↔ zt_dg T (s + 2) * 10 + f < 56 := by
      unfold zt_gd zt_lo zt_hi
      simp only [hW, h7, if_false]
      simp
      split <;> omega
    have e2 := zt_fig h (j := s + 2) (by omega) (by omega) (by omega)
    rw [← nI_add] at e2
    have em : nI (zt_dg T (s + 2)) * 10 + nI f = nI (zt_dg T (s + 2) * 10 + f) := by rw [show (10 : Int32) = nI 10 from rfl, pk_mul, nI_add]
    rw [hq]
    by_cases c : zt_dg T (s + 2) * 10 + f < 56
    · exact ⟨1, pe_b2 e2 (pe_ifn (by decide) (pe_if rfl (pe_ifn (by rw [em]; exact nI_ge (b := 56) c (by decide)) rfl))), Or.inr rfl, zt_y c⟩
    · exact ⟨0, pe_b2 e2 (pe_ifn (by decide) (pe_if rfl (pe_if (by rw [em]; exact nI_le (a := 56) (by omega) (by omega)) rfl))), Or.inl rfl, zt_n c⟩
  · have b2 := a2 (by decide)
    have d2 : zt_dg T (s + 2) ≤ 5 ∧ T (s + 2) = 48 + zt_dg T (s + 2) := by unfold zt_dg; omega
    have hq : zt_gd T L s 4 ↔ zt_dg T (s + 2) ≤ f ∧ f ≤ 5 := by
      unfold zt_gd zt_lo zt_hi
      simp only [hW, h7, if_false]
      simp
      omega
    have e2 := zt_fig h (j := s + 2) (by omega) (by omega) (by omega)
    rw [← nI_add] at e2
    rw [hq]
    by_cases c : zt_dg T (s + 2) ≤ f
    · by_cases c2 : f ≤ 5
      · exact ⟨1, pe_b2 e2 (pe_ifn (by decide) (pe_ifn (by decide) (pe_if rfl (pe_ifn (nI_nlt c (by omega)) (pe_ifn (nI_nlt (a := 5) c2 (by decide)) rfl))))), Or.inr rfl, zt_y ⟨c, c2⟩⟩
      · exact ⟨0, pe_b2 e2 (pe_ifn (by decide) (pe_ifn (by decide) (pe_if rfl (pe_ifn (nI_nlt c (by omega)) (pe_if (nI_lt (a := 5) (by omega) (by omega)) rfl))))), Or.inl rfl, zt_n (fun e => c2 e.2)⟩
    · exact ⟨0, pe_b2 e2 (pe_ifn (by decide) (pe_ifn (by decide) (pe_if rfl (pe_if (nI_lt (by omega) (by omega)) rfl)))), Or.inl rfl, zt_n (fun e => c e.1)⟩
  · have b2 := a2 (by decide)
    have b3 := a3 (by decide)
    have b4 := a4 (by decide)
    have d2 : zt_dg T (s + 2) ≤ 5 ∧ T (s + 2) = 48 + zt_dg T (s + 2) := by unfold zt_dg; omega
    have d3 : zt_dg T (s + 3) ≤ 9 ∧ T (s + 3) = 48 + zt_dg T (s + 3) := by unfold zt_dg; omega
    have d4 : zt_dg T (s + 4) ≤ 5 ∧ T (s + 4) = 48 + zt_dg T (s + 4) := by unfold zt_dg; omega
    have hq : zt_gd T L s 5 ↔ 10 * zt_dg T (s + 2) + zt_dg T (s + 3) ≤ zt_dg T (s + 4) * 10 + f ∧ zt_dg T (s + 4) * 10 + f < 56 := by
      unfold zt_gd zt_lo zt_hi
      simp only [hW, h7, if_false]
      simp
      split <;> split <;> omega
    have e2 := zt_fig h (j := s + 2) (by omega) (by omega) (by omega)
    have e4 := zt_fig h (j := s + 4) (by omega) (by omega) (by omega)
    have en := zt_night h (j := s + 2) (by omega) (by omega) (by omega) (by rw [show s + 2 + 1 = s + 3 by omega]; omega) (by rw [show s + 2 + 1 = s + 3 by omega]; omega)
    rw [show s + 2 + 1 = s + 3 by omega] at en
    rw [← nI_add] at e2 e4 en
    have em : nI (zt_dg T (s + 4)) * 10 + nI f = nI (zt_dg T (s + 4) * 10 + f) := by rw [show (10 : Int32) = nI 10 from rfl, pk_mul, nI_add]
    rw [hq]
    by_cases c : 10 * zt_dg T (s + 2) + zt_dg T (s + 3) ≤ zt_dg T (s + 4) * 10 + f
    · by_cases c2 : zt_dg T (s + 4) * 10 + f < 56
      · exact ⟨1, pe_b2 e2 (pe_ifn (by decide) (pe_ifn (by decide) (pe_ifn (by decide) (pe_b2 e4 (pe_nm em (pe_b2 en (pe_ifn (nI_nlt c (by omega)) (pe_ifn (nI_ge (b := 56) c2 (by decide)) rfl)))))))), Or.inr rfl, zt_y ⟨c, c2⟩⟩
      · exact ⟨0, pe_b2 e2 (pe_ifn (by decide) (pe_ifn (by decide) (pe_ifn (by decide) (pe_b2 e4 (pe_nm em (pe_b2 en (pe_ifn (nI_nlt c (by omega)) (pe_if (nI_le (a := 56) (by omega) (by omega)) rfl)))))))), Or.inl rfl, zt_n (fun e => c2 e.2)⟩
    · exact ⟨0, pe_b2 e2 (pe_ifn (by decide) (pe_ifn (by decide) (pe_ifn (by decide) (pe_b2 e4 (pe_nm em (pe_b2 en (pe_if (nI_lt (by omega) (by omega)) rfl))))))), Or.inl rfl, zt_n (fun e => c e.1)⟩
theorem zt_fits (h : zt_T T L sg mt) {s i : Nat} (h0 : zt_sz (T s) ≠ 0) (h1 : 1 ≤ i) (h2 : i < zt_sz (T s)) (hL : s + i < L) (hg : ∀ k, 1 ≤ k → k < i → zt_gd T L s k) : ∃ x, fn_X6_fits (nI L) sg (nI s) (nI (s + i)) = some (x, ()) ∧ (x = 0 ↔ ¬ zt_gd T L s i) := by
  have h64 := h.1
  have hz := zt_szc (T s)
  have ei : nI (s + i) - nI s = nI i := by rw [pk_sub (by omega)]; congr 1; omega
  unfold fn_X6_fits
  by_cases c : 48 ≤ T (s + i) ∧ T (s + i) ≤ 57
  · have ef := zt_fig h hL c.1 c.2
    have hf : zt_dg T (s + i) ≤ 9 ∧ T (s + i) = 48 + zt_dg T (s + i) := by unfold zt_dg; omega
    generalize zt_dg T (s + i) = f at *
    have p1 : ¬ nI f < 0 := nI_pos (by omega)
    have p2 : nI f ≤ 9 := nI_le (b := 9) hf.1 (by decide)
    by_cases c1 : i = 1
    · subst c1
      have hq : zt_gd T L s 1 := by
        unfold zt_gd zt_lo zt_hi
        refine ⟨hL, ?_, ?_⟩
        · split <;> simp <;> omega
        · simp; omega
      exact ⟨1, pe_b2 ef (pe_nm ei (pe_ifn p1 (pe_if p2 (pe_if rfl rfl)))), zt_y hq⟩
    · have n1 : ¬ nI i = 1 := fun e => c1 ((nI_eq (b := 1) (by omega) (by decide)).mp e)
      have es := zt_size h (j := s) (by omega)
      by_cases c2 : i + 1 = zt_sz (T s)
      · have hq : zt_gd T L s i ↔ f ≤ 1 := by
          unfold zt_gd zt_lo zt_hi
          rw [if_neg c1, if_pos c2]
          have : (if T s = 87 then (if i = 3 then 1 else 0) else if i = 4 then zt_dg T (s + 2) else if i = 5 then (if zt_dg T (s + 4) = zt_dg T (s + 2) then zt_dg T (s + 3) else 0) else 0) = 0 := by
            by_cases w : T s = 87
            · rw [if_pos w, if_neg (by omega)]
            · rw [if_neg w, if_neg (by omega), if_neg (by omega)]
          rw [this]
          omega
        have e8 : nI i = nI (zt_sz (T s)) - 1 := by rw [← c2, nI_pred]
        rw [hq]
        by_cases c3 : f ≤ 1
        · exact ⟨1, pe_b2 ef (pe_nm ei (pe_ifn p1 (pe_if p2 (pe_ifn n1 (pe_b2 es (pe_if e8 (pe_ifn (nI_ge (b := 2) (by omega) (by decide)) rfl))))))), zt_y c3⟩
        · exact ⟨0, pe_b2 ef (pe_nm ei (pe_ifn p1 (pe_if p2 (pe_ifn n1 (pe_b2 es (pe_if e8 (pe_if (nI_le (a := 2) (by omega) (by omega)) rfl))))))), zt_n c3⟩
      · have n8 : ¬ nI i = nI (zt_sz (T s)) - 1 := by
          rw [show zt_sz (T s) = (zt_sz (T s) - 1) + 1 by omega, nI_pred]
          exact fun e => c2 (by have := (nI_eq (by omega) (by omega)).mp e; omega)
        have eg := zt_sign h (j := s) (by omega)
        have l87 := (zt_b2 _ (h.2 s (by omega)).1).2.2.2.1
        by_cases w : T s = 87
        · have e6 : zt_sz (T s) = 6 := by rw [w]; rfl
          obtain ⟨x, ex, hx, hq⟩ := zt_fitsW h w (i := i) (by omega) (by omega) hL hg hf.1 hf.2
          exact ⟨x, pe_b2 ef (pe_nm ei (pe_ifn p1 (pe_if p2 (pe_ifn n1 (pe_b2 es (pe_ifn n8 (pe_b2 eg (pe_if (l87.mpr w) (pe_b2 ex (pe_bl hx rfl)))))))))), hq⟩
        · have e7 : zt_sz (T s) = 7 := by omega
          obtain ⟨x, ex, hx, hq⟩ := zt_fitsS h e7 w (i := i) (by omega) (by omega) hL hg hf.1 hf.2
          exact ⟨x, pe_b2 ef (pe_nm ei (pe_ifn p1 (pe_if p2 (pe_ifn n1 (pe_b2 es (pe_ifn n8 (pe_b2 eg (pe_ifn (fun e => w (l87.mp e)) (pe_b2 ex (pe_bl hx rfl)))))))))), hq⟩
  · obtain ⟨x, ex, hx⟩ := zt_fign h hL c
    have hq : ¬ zt_gd T L s i := fun e => c (zt_is h0 h1 h2 (fun k k1 k2 => by
      rcases Nat.lt_or_ge k i with q | q
      · exact hg k k1 q
      · have : k = i := by omega
        subst this; exact e))
    refine ⟨0, pe_b2 ex (pe_nm ei ?_), zt_n hq⟩
    by_cases c1 : x < 0
    · exact pe_if c1 rfl
    · exact pe_ifn c1 (pe_ifn (by rcases hx with q | q; exact absurd q c1; exact q) rfl)
/-- one rule that is well -/
theorem zt_rule8 (h : zt_T T L sg mt) {s r : Nat} (hs : s < L) (h0 : zt_sz (T s) ≠ 0) (ha : zt_all T L s) (hr : r < 10) : fb_X6_firstFault_4 (nI L) sg (nI s) (nI r) = some (.inl (nI (s + zt_sz (T s)), nI (r + 1))) := by
  have h64 := h.1
  have hz := zt_szc (T s)
  have hle := zt_le h0 ha
  unfold fb_X6_firstFault_4
  refine pe_ifn (nI_ge (b := 10) hr (by decide)) (pe_ifn (nI_ge hs (by omega)) (pe_b2 (zt_size h hs) (pe_ifn (nI_ne0 (by omega) (by omega)) (pe_nm (nI_add _ _) (pe_nm (nI_1 s) (pe_mtl (t := ()) (pe_itE (fun k => nI (s + 1 + k)) (zt_sz (T s) - 1) rfl ?_ ?_ (by omega)) ?_))))))
  · intro k hk
    have hgd := ha (1 + k) (by omega) (by omega)
    obtain ⟨x, ex, hx⟩ := zt_fits h h0 (i := 1 + k) (by omega) (by omega) hgd.1 (fun k' k1 k2 => ha k' k1 (by omega))
    have hl := hgd.1
    unfold fb_X6_firstFault_40
    rw [show s + 1 + (k + 1) = s + 1 + k + 1 by omega, show s + 1 + k = s + (1 + k) by omega]
    exact pe_ifn (nI_ge (by omega) (by omega)) (pe_ifn (nI_ge (by omega) (by omega)) (pe_b2 ex (pe_ifn (fun e => (hx.mp e) hgd) (pe_nm (nI_1 _) rfl))))
  · unfold fb_X6_firstFault_40
    rw [show s + 1 + (zt_sz (T s) - 1) = s + zt_sz (T s) by omega]
    exact pe_if (Int32.le_refl _) rfl
  · unfold fk_X6_firstFault_40
    exact pe_if (nI_le hle (by omega)) (pe_nm (nI_1 r) rfl)
/-- one rule that is not -/
theorem zt_bad8 (h : zt_T T L sg mt) {s r b : Nat} (hs : s < L) (hb : zt_bad T L s b) (hr : r < 10) : fb_X6_firstFault_4 (nI L) sg (nI s) (nI r) = some (.inr (.inr (nI (s + b), ()))) := by
  have h64 := h.1
  have hz := zt_szc (T s)
  obtain ⟨b1, b2, b3, b4⟩ := hb
  have h0 : zt_sz (T s) ≠ 0 := by omega
  have step : ∀ k, k < b - 1 → fb_X6_firstFault_40 (nI L) sg (nI s) (nI (s + zt_sz (T s))) (nI (s + 1 + k)) = some (.inl (nI (s + 1 + (k + 1)))) := by
    intro k hk
    have hgd := b3 (1 + k) (by omega) (by omega)
    obtain ⟨x, ex, hx⟩ := zt_fits h h0 (i := 1 + k) (by omega) (by omega) hgd.1 (fun k' k1 k2 => b3 k' k1 (by omega))
    have hl := hgd.1
    unfold fb_X6_firstFault_40
    rw [show s + 1 + (k + 1) = s + 1 + k + 1 by omega, show s + 1 + k = s + (1 + k) by omega]
    exact pe_ifn (nI_ge (by omega) (by omega)) (pe_ifn (nI_ge (by omega) (by omega)) (pe_b2 ex (pe_ifn (fun e => (hx.mp e) hgd) (pe_nm (nI_1 _) rfl))))
  have hsb : s + b ≤ L := by
    rcases Nat.lt_or_ge 1 b with q | q
    · have := (b3 (b - 1) (by omega) (by omega)).1
      omega
    · omega
  unfold fb_X6_firstFault_4
  refine pe_ifn (nI_ge (b := 10) hr (by decide)) (pe_ifn (nI_ge hs (by omega)) (pe_b2 (zt_size h hs) (pe_ifn (nI_ne0 (by omega) (by omega)) (pe_nm (nI_add _ _) (pe_nm (nI_1 s) ?_)))))
  by_cases c : s + b < L
  · refine pe_mtr (pe_itE (fun k => nI (s + 1 + k)) (b - 1) rfl step ?_ (by omega))
    obtain ⟨x, ex, hx⟩ := zt_fits h h0 b1 b2 c b3
    unfold fb_X6_firstFault_40
    rw [show s + 1 + (b - 1) = s + b by omega]
    exact pe_ifn (nI_ge (by omega) (by omega)) (pe_ifn (nI_ge (by omega) (by omega)) (pe_b2 ex (pe_if (hx.mpr b4) rfl)))
  · have e : s + b = L := by omega
    refine pe_mtl (t := ()) (pe_itE (fun k => nI (s + 1 + k)) (b - 1) rfl step ?_ (by omega)) ?_
    · unfold fb_X6_firstFault_40
      rw [show s + 1 + (b - 1) = L by omega]
      exact pe_ifn (nI_ge (by omega) (by omega)) (pe_if (Int32.le_refl _) rfl)
    · unfold fk_X6_firstFault_40
      rw [e]
      exact pe_ifn (nI_ge (by omega) (by omega)) rfl
theorem zt_steps8 (h : zt_T T L sg mt) {N : Nat} (hN : N ≤ 10) (hf : ∀ r, r < N → zt_fine T L r) {x : Int32 ⊕ (Int32 × Unit)} (he : fb_X6_firstFault_4 (nI L) sg (nI (zt_st T N)) (nI N) = some (.inr x)) : zz_it (fun z => fb_X6_firstFault_4 (nI L) sg z.1 z.2) zz_fuel (0, 0) = some x := by
  refine pe_itE (fun r => (nI (zt_st T r), nI r)) N rfl ?_ he (by omega)
  intro r hr
  obtain ⟨f1, f2, f3⟩ := hf r hr
  exact zt_rule8 h f1 f2 f3 (by omega)
/-- the fault, as the class has it -/
theorem zt_fault8 (h : zt_T T L sg mt) {N : Nat} (hN : N ≤ 10) (hf : ∀ r, r < N → zt_fine T L r) : (L ≤ zt_st T N → fn_X6_firstFault (nI L) sg = some (-9, ())) ∧ (zt_st T N < L → (N = 10 ∨ zt_sz (T (zt_st T N)) = 0) → fn_X6_firstFault (nI L) sg = some (nI (zt_st T N), ())) ∧ ∀ b, zt_st T N < L → N < 10 → zt_bad T L (zt_st T N) b → fn_X6_firstFault (nI L) sg = some (nI (zt_st T N + b), ()) := by
  have h64 := h.1
  have hst : zt_st T N ≤ L := by
    cases N with
    | zero => exact Nat.zero_le _
    | succ n =>
      have := hf n (by omega)
      rw [zt_st]
      exact zt_le this.2.1 this.2.2
  refine ⟨fun c => ?_, fun c1 c2 => ?_, fun b c1 c2 c3 => ?_⟩
  · refine pe_mtl (zt_steps8 h hN hf (x := .inl (nI (zt_st T N))) ?_) ?_
    · unfold fb_X6_firstFault_4
      by_cases q : 10 ≤ N
      · exact pe_if (nI_le (a := 10) q (by omega)) rfl
      · exact pe_ifn (nI_ge (b := 10) (by omega) (by decide)) (pe_if (nI_le c (by omega)) rfl)
    · unfold fk_X6_firstFault_4
      exact pe_if (nI_le c (by omega)) rfl
  · by_cases q : 10 ≤ N
    · refine pe_mtl (zt_steps8 h hN hf (x := .inl (nI (zt_st T N))) ?_) ?_
      · unfold fb_X6_firstFault_4
        exact pe_if (nI_le (a := 10) q (by omega)) rfl
      · unfold fk_X6_firstFault_4
        exact pe_ifn (nI_ge c1 (by omega)) rfl
    · have z : zt_sz (T (zt_st T N)) = 0 := by omega
      refine pe_mtr (zt_steps8 h hN hf (x := .inr (nI (zt_st T N), ())) ?_)
      unfold fb_X6_firstFault_4
      exact pe_ifn (nI_ge (b := 10) (by omega) (by decide)) (pe_ifn (nI_ge c1 (by omega)) (pe_b2 (zt_size h c1) (pe_if (by rw [z]; rfl) rfl)))
  · exact pe_mtr (zt_steps8 h hN hf (x := .inr (nI (zt_st T N + b), ())) (zt_bad8 h c1 c3 c2))
end ZT
