/-! the text: where its first fault is; the class's look at it -/
def zt_dg (T : Nat → Nat) (j : Nat) : Nat := T j - 48
def zt_sz (c : Nat) : Nat := if c = 69 then 3 else if c = 70 then 7 else if c = 72 then 7 else if c = 87 then 6 else if c = 89 then 7 else 0
def zt_lo (T : Nat → Nat) (s i : Nat) : Nat := if T s = 87 then (if i = 3 then 1 else 0) else if i = 4 then zt_dg T (s + 2) else if i = 5 then (if zt_dg T (s + 4) = zt_dg T (s + 2) then zt_dg T (s + 3) else 0) else 0
def zt_hi (T : Nat → Nat) (s i : Nat) : Nat := if i = 1 then 9 else if i + 1 = zt_sz (T s) then 1 else if T s = 87 then (if i = 2 then 6 else if i = 3 then 4 else zt_dg T (s + 3) - 1) else (if i = 2 then 5 else if i = 3 then (if zt_dg T (s + 2) = 5 then 5 else 9) else if i = 4 then 5 else (if zt_dg T (s + 4) = 5 then 5 else 9))
def zt_gd (T : Nat → Nat) (L s i : Nat) : Prop := s + i < L ∧ 48 + zt_lo T s i ≤ T (s + i) ∧ T (s + i) ≤ 48 + zt_hi T s i
def zt_st (T : Nat → Nat) : Nat → Nat
  | 0 => 0
  | r + 1 => zt_st T r + zt_sz (T (zt_st T r))
def zt_all (T : Nat → Nat) (L s : Nat) : Prop := ∀ i, 1 ≤ i → i < zt_sz (T s) → zt_gd T L s i
def zt_fine (T : Nat → Nat) (L r : Nat) : Prop := zt_st T r < L ∧ zt_sz (T (zt_st T r)) ≠ 0 ∧ zt_all T L (zt_st T r)
def zt_bad (T : Nat → Nat) (L s b : Nat) : Prop := 1 ≤ b ∧ b < zt_sz (T s) ∧ (∀ i, 1 ≤ i → i < b → zt_gd T L s i) ∧ ¬ zt_gd T L s b
theorem zt_szc (c : Nat) : (zt_sz c = 0 ∧ c ≠ 69 ∧ c ≠ 70 ∧ c ≠ 72 ∧ c ≠ 87 ∧ c ≠ 89) ∨ (c = 69 ∧ zt_sz c = 3) ∨ (c = 87 ∧ zt_sz c = 6) ∨ ((c = 70 ∨ c = 72 ∨ c = 89) ∧ zt_sz c = 7) := by
  unfold zt_sz
  by_cases h1 : c = 69
  · subst h1; exact Or.inr (Or.inl ⟨rfl, rfl⟩)
  · by_cases h2 : c = 70
    · subst h2; exact Or.inr (Or.inr (Or.inr ⟨Or.inl rfl, rfl⟩))
    · by_cases h3 : c = 72
      · subst h3; exact Or.inr (Or.inr (Or.inr ⟨Or.inr (Or.inl rfl), rfl⟩))
      · by_cases h4 : c = 87
        · subst h4; exact Or.inr (Or.inr (Or.inl ⟨rfl, rfl⟩))
        · by_cases h5 : c = 89
          · subst h5; exact Or.inr (Or.inr (Or.inr ⟨Or.inr (Or.inr rfl), rfl⟩))
          · exact Or.inl ⟨by rw [if_neg h1, if_neg h2, if_neg h3, if_neg h4, if_neg h5], h1, h2, h3, h4, h5⟩
theorem zt_le {T : Nat → Nat} {L s : Nat} (h0 : zt_sz (T s) ≠ 0) (h : zt_all T L s) : s + zt_sz (T s) ≤ L := by
  have hz := zt_szc (T s)
  have := h (zt_sz (T s) - 1) (by omega) (by omega)
  have := this.1
  omega
/-- either all is well, or N rules are well and then there is a first fault -/
theorem zt_cases (T : Nat → Nat) (L : Nat) : ∃ N, N ≤ 10 ∧ (∀ r, r < N → zt_fine T L r) ∧ zt_st T N ≤ L ∧ (L ≤ zt_st T N ∨ (zt_st T N < L ∧ (N = 10 ∨ zt_sz (T (zt_st T N)) = 0)) ∨ (zt_st T N < L ∧ N < 10 ∧ zt_sz (T (zt_st T N)) ≠ 0 ∧ ∃ b, zt_bad T L (zt_st T N) b)) := by
  obtain ⟨N, hN, hmin⟩ := pk_least (fun r => ¬ (r < 10 ∧ zt_fine T L r)) ⟨10, by omega⟩
  have hf : ∀ r, r < N → r < 10 ∧ zt_fine T L r := fun r hr => Classical.byContradiction (fun e => hmin r hr e)
  have hN10 : N ≤ 10 := by
    rcases Nat.lt_or_ge 10 N with q | q
    · have := (hf 10 q).1; omega
    · exact q
  have hst : zt_st T N ≤ L := by
    cases N with
    | zero => exact Nat.zero_le _
    | succ n =>
      have := (hf n (by omega)).2
      rw [zt_st]
      exact zt_le this.2.1 this.2.2
  refine ⟨N, hN10, fun r hr => (hf r hr).2, hst, ?_⟩
  by_cases c1 : L ≤ zt_st T N
  · exact Or.inl c1
  · by_cases c2 : N = 10 ∨ zt_sz (T (zt_st T N)) = 0
    · exact Or.inr (Or.inl ⟨by omega, c2⟩)
    · have c3 : N < 10 := by omega
      have c4 : zt_sz (T (zt_st T N)) ≠ 0 := fun e => c2 (Or.inr e)
      have c5 : ¬ zt_all T L (zt_st T N) := fun e => hN ⟨c3, by omega, c4, e⟩
      refine Or.inr (Or.inr ⟨by omega, c3, c4, ?_⟩)
      obtain ⟨b, ⟨hb1, hb2, hb3⟩, hbm⟩ := pk_least (fun b => 1 ≤ b ∧ b < zt_sz (T (zt_st T N)) ∧ ¬ zt_gd T L (zt_st T N) b) (Classical.byContradiction (fun e => c5 (fun i h1 h2 => Classical.byContradiction (fun e2 => e ⟨i, h1, h2, e2⟩))))
      exact ⟨b, hb1, hb2, fun i h1 h2 => Classical.byContradiction (fun e => hbm i h2 ⟨h1, by omega, e⟩), hb3⟩
/-- the two texts hold the same bytes -/
def zt_T (T : Nat → Nat) (L : Nat) (sg mt : Nat → Int32) : Prop := L ≤ 64 ∧ ∀ j, j < L → T j < 256 ∧ mt j = nI (T j) ∧ sg j = (nI (T j)).toInt8.toInt32
theorem zt_of {len mlen : Int32} {sg mt : Nat → Int32} (h : zi_text len sg mlen mt) : ∃ L T, len = nI L ∧ mlen = nI L ∧ zt_T T L sg mt := by
  obtain ⟨L, hL, rfl, rfl, hj⟩ := h
  refine ⟨L, zi_g mt, rfl, rfl, hL, fun j hjL => ?_⟩
  obtain ⟨t, ht, e1, e2⟩ := hj j hjL
  have : zi_g mt j = t := zi_gn e1 (by omega)
  rw [this]
  exact ⟨ht, e1, e2⟩
theorem zt_b1 : ∀ t, t < 256 → (48 ≤ t ∧ t ≤ 57 → (nI t).toInt8.toInt32 - 48 = nI (t - 48)) ∧ (¬ (48 ≤ t ∧ t ≤ 57) → (nI t).toInt8.toInt32 - 48 < 0 ∨ ¬ (nI t).toInt8.toInt32 - 48 ≤ 9) := by decide +kernel
theorem zt_b2 : ∀ t, t < 256 → ((nI t).toInt8.toInt32 = 69 ↔ t = 69) ∧ ((nI t).toInt8.toInt32 = 70 ↔ t = 70) ∧ ((nI t).toInt8.toInt32 = 72 ↔ t = 72) ∧ ((nI t).toInt8.toInt32 = 87 ↔ t = 87) ∧ ((nI t).toInt8.toInt32 = 89 ↔ t = 89) := by decide +kernel
section ZT
variable {T : Nat → Nat} {L : Nat} {sg mt : Nat → Int32}
theorem zt_sign (h : zt_T T L sg mt) {j : Nat} (hj : j < L) : fn_X6_signAt (nI L) sg (nI j) = some ((nI (T j)).toInt8.toInt32, ()) := by
  have := h.1
  unfold fn_X6_signAt
  refine pe_ifn (nI_pos (by omega)) (pe_ifn (nI_ge hj (by omega)) (pe_chk (by omega) (by decide) ?_))
  rw [nI_clamp (by omega), (h.2 j hj).2.2]
theorem zt_fig (h : zt_T T L sg mt) {j : Nat} (hj : j < L) (h1 : 48 ≤ T j) (h2 : T j ≤ 57) : fn_X6_figureAt (nI L) sg (nI j) = some (nI (zt_dg T j), ()) := by
  refine pe_b2 (zt_sign h hj) ?_
  rw [(zt_b1 _ (h.2 j hj).1).1 ⟨h1, h2⟩]; rfl
theorem zt_fign (h : zt_T T L sg mt) {j : Nat} (hj : j < L) (h1 : ¬ (48 ≤ T j ∧ T j ≤ 57)) : ∃ x, fn_X6_figureAt (nI L) sg (nI j) = some (x, ()) ∧ (x < 0 ∨ ¬ x ≤ 9) :=
  ⟨_, pe_b2 (zt_sign h hj) rfl, (zt_b1 _ (h.2 j hj).1).2 h1⟩
theorem zt_size (h : zt_T T L sg mt) {j : Nat} (hj : j < L) : fn_X6_sizeOfRule (nI L) sg (nI j) = some (nI (zt_sz (T j)), ()) := by
  refine pe_b2 (zt_sign h hj) ?_
  obtain ⟨c1, c2, c3, c4, c5⟩ := zt_b2 _ (h.2 j hj).1
  unfold zt_sz
  by_cases h1 : T j = 69
  · rw [if_pos h1]; exact pe_if (c1.mpr h1) rfl
  · rw [if_neg h1]
    refine pe_ifn (fun e => h1 (c1.mp e)) ?_
    by_cases h2 : T j = 70
    · rw [if_pos h2]; exact pe_if (c2.mpr h2) rfl
    · rw [if_neg h2]
      refine pe_ifn (fun e => h2 (c2.mp e)) ?_
      by_cases h3 : T j = 72
      · rw [if_pos h3]; exact pe_if (c3.mpr h3) rfl
      · rw [if_neg h3]
        refine pe_ifn (fun e => h3 (c3.mp e)) ?_
        by_cases h4 : T j = 87
        · rw [if_pos h4]; exact pe_if (c4.mpr h4) rfl
        · rw [if_neg h4]
          refine pe_ifn (fun e => h4 (c4.mp e)) ?_
          by_cases h5 : T j = 89
          · rw [if_pos h5]; exact pe_if (c5.mpr h5) rfl
          · rw [if_neg h5]; exact pe_ifn (fun e => h5 (c5.mp e)) rfl
/-- what the good figures of a rule are -/
theorem zt_W {s i : Nat} (hW : T s = 87) (hg : ∀ k, 1 ≤ k → k < i → zt_gd T L s k) : (1 < i → s + 1 < L ∧ 48 ≤ T (s + 1) ∧ T (s + 1) ≤ 57) ∧ (2 < i → s + 2 < L ∧ 48 ≤ T (s + 2) ∧ T (s + 2) ≤ 54) ∧ (3 < i → s + 3 < L ∧ 49 ≤ T (s + 3) ∧ T (s + 3) ≤ 52) ∧ (4 < i → s + 4 < L ∧ 48 ≤ T (s + 4) ∧ T (s + 4) < T (s + 3)) ∧ (5 < i → s + 5 < L ∧ 48 ≤ T (s + 5) ∧ T (s + 5) ≤ 49) := by
  have e6 : zt_sz 87 = 6 := rfl
  have k1 := fun h => hg 1 (by omega) h
  have k2 := fun h => hg 2 (by omega) h
  have k3 := fun h => hg 3 (by omega) h
  have k4 := fun h => hg 4 (by omega) h
  have k5 := fun h => hg 5 (by omega) h
  unfold zt_gd zt_lo zt_hi at k1 k2 k3 k4 k5
  simp only [hW, e6] at k1 k2 k3 k4 k5
  unfold zt_dg at k1 k2 k3 k4 k5
  simp at k1 k2 k3 k4 k5
  refine ⟨fun h => ?_, fun h => ?_, fun h => ?_, fun h => ?_, fun h => ?_⟩
  · have := k1 h; omega
  · have := k2 h; omega
  · have := k3 h; omega
  · have a := k3 (by omega); have := k4 h; omega
  · have := k5 h; omega
theorem zt_S {s i : Nat} (h7 : zt_sz (T s) = 7) (hW : T s ≠ 87) (hg : ∀ k, 1 ≤ k → k < i → zt_gd T L s k) : (1 < i → s + 1 < L ∧ 48 ≤ T (s + 1) ∧ T (s + 1) ≤ 57) ∧ (2 < i → s + 2 < L ∧ 48 ≤ T (s + 2) ∧ T (s + 2) ≤ 53) ∧ (3 < i → s + 3 < L ∧ 48 ≤ T (s + 3) ∧ T (s + 3) ≤ 57 ∧ (T (s + 2) = 53 → T (s + 3) ≤ 53)) ∧ (4 < i → s + 4 < L ∧ T (s + 2) ≤ T (s + 4) ∧ T (s + 4) ≤ 53) ∧ (5 < i → s + 5 < L ∧ 48 ≤ T (s + 5) ∧ T (s + 5) ≤ 57 ∧ (T (s + 4) = 53 → T (s + 5) ≤ 53) ∧ (T (s + 4) = T (s + 2) → T (s + 3) ≤ T (s + 5))) ∧ (6 < i → s + 6 < L ∧ 48 ≤ T (s + 6) ∧ T (s + 6) ≤ 49) := by
  have k1 := fun h => hg 1 (by omega) h
  have k2 := fun h => hg 2 (by omega) h
  have k3 := fun h => hg 3 (by omega) h
  have k4 := fun h => hg 4 (by omega) h
  have k5 := fun h => hg 5 (by omega) h
  have k6 := fun h => hg 6 (by omega) h
  unfold zt_gd zt_lo zt_hi at k1 k2 k3 k4 k5 k6
  simp only [h7, hW, if_false] at k1 k2 k3 k4 k5 k6
  unfold zt_dg at k1 k2 k3 k4 k5 k6
  simp at k1 k2 k3 k4 k5 k6
  have a2 : 2 < i → s + 2 < L ∧ 48 ≤ T (s + 2) ∧ T (s + 2) ≤ 53 := fun h => by have := k2 h; omega
  have a3 : 3 < i → s + 3 < L ∧ 48 ≤ T (s + 3) ∧ T (s + 3) ≤ 57 ∧ (T (s + 2) = 53 → T (s + 3) ≤ 53) := fun h => by
    have b := a2 (by omega)
    have := k3 h
    split at this <;> omega
  have a4 : 4 < i → s + 4 < L ∧ T (s + 2) ≤ T (s + 4) ∧ T (s + 4) ≤ 53 := fun h => by
    have b := a2 (by omega)
    have := k4 h
    omega
  refine ⟨fun h => ?_, a2, a3, a4, fun h => ?_, fun h => ?_⟩
  · have := k1 h; omega
  · have b := a2 (by omega)
    have c := a3 (by omega)
    have d := a4 (by omega)
    have := k5 h
    split at this <;> split at this <;> omega
  · have := k6 h; omega
theorem zt_E {s i : Nat} (hE : T s = 69) (hg : ∀ k, 1 ≤ k → k < i → zt_gd T L s k) : (1 < i → s + 1 < L ∧ 48 ≤ T (s + 1) ∧ T (s + 1) ≤ 57) ∧ (2 < i → s + 2 < L ∧ 48 ≤ T (s + 2) ∧ T (s + 2) ≤ 49) := by
  have e3 : zt_sz 69 = 3 := rfl
  have k1 := fun h => hg 1 (by omega) h
  have k2 := fun h => hg 2 (by omega) h
  unfold zt_gd zt_lo zt_hi at k1 k2
  simp only [hE, e3] at k1 k2
  simp at k1 k2
  exact ⟨fun h => by have := k1 h; omega, fun h => by have := k2 h; omega⟩
end ZT
