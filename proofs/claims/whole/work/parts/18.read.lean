/-! the class's reading of a paper, night by night -/
theorem fb_holes : ∀ (m n : Nat) (f : Nat → Nat), (∀ i, i < n → f i < m) → (∀ i j, i < j → j < n → f i ≠ f j) → n ≤ m := by
  intro m
  induction m with
  | zero =>
    intro n f h1 _
    rcases Nat.eq_zero_or_pos n with h | h
    · omega
    · exact absurd (h1 0 h) (Nat.not_lt_zero _)
  | succ m ih =>
    intro n f h1 h2
    by_cases hx : ∃ i, i < n ∧ f i = m
    · obtain ⟨a, ha, hfa⟩ := hx
      have hg := ih (n - 1) (fun i => if i < a then f i else f (i + 1)) (by
        intro i hi
        by_cases q : i < a
        · simp only [if_pos q]
          have b1 := h1 i (by omega)
          have b2 := h2 i a q ha
          omega
        · simp only [if_neg q]
          have b1 := h1 (i + 1) (by omega)
          have b2 := h2 a (i + 1) (by omega) (by omega)
          omega) (by
        intro i j hij hj
        by_cases q : i < a
        · by_cases r : j < a
          · simp only [if_pos q, if_pos r]
            exact h2 i j hij (by omega)
          · simp only [if_pos q, if_neg r]
            exact h2 i (j + 1) (by omega) (by omega)
        · have r : ¬ j < a := by omega
          simp only [if_neg q, if_neg r]
          exact h2 (i + 1) (j + 1) (by omega) (by omega))
      omega
    · have hg := ih n f (fun i hi => by
        have b1 := h1 i hi
        have b2 : f i ≠ m := fun e => hx ⟨i, hi, e⟩
        omega) h2
      omega
/-- two of them in one place -/
theorem fb_twice {m n : Nat} {f : Nat → Nat} (h : ∀ i, i < n → f i < m) (hm : m < n) : ∃ i j, i < j ∧ j < n ∧ f i = f j := by
  refine Classical.byContradiction fun hx => ?_
  have := fb_holes m n f h (fun i j hij hj e => hx ⟨i, j, hij, hj, e⟩)
  omega
/-- as many as places, none twice: each place is taken -/
theorem fb_onto {n : Nat} {f : Nat → Nat} (h : ∀ i, i < n → f i < n) (h2 : ∀ i j, i < j → j < n → f i ≠ f j) {y : Nat} (hy : y < n) : ∃ i, i < n ∧ f i = y := by
  refine Classical.byContradiction fun hx => ?_
  have hne : ∀ i, i < n → f i ≠ y := fun i hi e => hx ⟨i, hi, e⟩
  have := fb_holes (n - 1) n (fun i => if f i < y then f i else f i - 1) (by
    intro i hi
    have b1 := h i hi
    have b2 := hne i hi
    by_cases q : f i < y
    · simp only [if_pos q]; omega
    · simp only [if_neg q]; omega) (by
    intro i j hij hj
    have b1 := hne i (by omega)
    have b2 := hne j hj
    have b3 := h2 i j hij hj
    by_cases q : f i < y
    · by_cases r : f j < y
      · simp only [if_pos q, if_pos r]; exact b3
      · simp only [if_pos q, if_neg r]; omega
    · by_cases r : f j < y
      · simp only [if_neg q, if_pos r]; omega
      · simp only [if_neg q, if_neg r]; omega)
  omega
theorem pe_itI {σ ρ : Type} {b : σ → Option (σ ⊕ ρ)} (I : Nat → σ → Prop) (N : Nat) (P : ρ → Prop) {s0 : σ} (h0 : I 0 s0) (hs : ∀ k s, k < N → I k s → ∃ s', b s = some (.inl s') ∧ I (k + 1) s') (he : ∀ s, I N s → ∃ r, b s = some (.inr r) ∧ P r) (hN : N < 2000) : ∃ r, zz_it b zz_fuel s0 = some r ∧ P r := by
  have key : ∀ j k n s, k + j = N → j < n → I k s → ∃ r, zz_it b n s = some r ∧ P r := by
    intro j
    induction j with
    | zero =>
      intro k n s hk hn hI
      obtain ⟨n, rfl⟩ : ∃ z, n = z + 1 := ⟨n - 1, by omega⟩
      have : k = N := by omega
      subst this
      obtain ⟨r, e, hP⟩ := he s hI
      exact ⟨r, by rw [zz_it, e]; rfl, hP⟩
    | succ j ih =>
      intro k n s hk hn hI
      obtain ⟨n, rfl⟩ : ∃ z, n = z + 1 := ⟨n - 1, by omega⟩
      obtain ⟨s', e, hI'⟩ := hs k s (by omega) hI
      obtain ⟨r, e2, hP⟩ := ih (k + 1) n s' (by omega) (by omega) hI'
      exact ⟨r, by rw [zz_it, e]; exact e2, hP⟩
  exact key N 0 zz_fuel s0 (by omega) hN h0
def zr_f (Z O F : Int64) : Int64 := 72057594037927935 &&& (((Z ||| O) ||| F) ^^^ (-1))
theorem zr_settle (Z O F a b : Int64) : fn_X4_settle Z O F a b = some (Z ||| ((a &&& (b ^^^ (-1))) &&& zr_f Z O F), O ||| ((b &&& (a ^^^ (-1))) &&& zr_f Z O F), F ||| ((a &&& b) &&& zr_f Z O F)) := by
  unfold fn_X4_settle fn_X4_nightsThatAre
  exact pe_b2 (pe_ifn (by decide) (pe_ifn (by decide) (pe_if rfl rfl))) (pe_nm rfl (pe_nm rfl (pe_nm rfl rfl)))
theorem zr_fb (Z O F : Int64) {i : Nat} (hi : i < 64) : zb_tb (zr_f Z O F) i = (decide (i < 56) && !(zb_tb Z i || zb_tb O i || zb_tb F i)) := by
  unfold zr_f
  rw [zb_and, zb_ALL, zb_not _ hi, zb_or, zb_or]
theorem zi_sy_ne {c a b k h i : Nat} (ev : Bool) (hc : c ≠ 89) : zi_sy c a b k h i ev = zi_sy c a b k h i false := by
  unfold zi_sy
  simp [hc]
theorem zi_sy_y {a b k h i : Nat} : (zi_sy 89 a b k h i true == some true) = ((zi_sy 89 a b k h i false).isSome && !(zi_sy 89 a b k h i false == some true)) := by
  unfold zi_sy
  by_cases d : a ≤ i ∧ i ≤ b
  · simp [d]
  · simp [d]
theorem zr_ones {told ones : Nat → Int64} {turns : Nat → Int32} {rank : Int32} {mp : Nat → Int32} {q r y : Nat} (rule : zi_rule rank (told r) (ones r) (turns r) mp q) (hr : r < 10) (hy : y ≤ 99) : ∃ x, fn_X2_nightsOfOne ones told turns (nI r) (nI y) = some (x, ()) ∧ ∀ i, i < 64 → zb_tb x i = (decide (i < 56) && (zi_S mp q i (decide (y % 2 = 0)) == some true)) := by
  obtain ⟨ok, -, ht, htold, hones⟩ := rule
  have cr : (nI r).toNatClampNeg = r := nI_clamp (by omega)
  have my : nI y &&& 1 = nI (y % 2) := pk_andN (by omega) 1 (by decide)
  unfold fn_X2_nightsOfOne
  have lo : ¬ nI r < 0 := nI_pos (by omega)
  have hi10 : nI r < 10 := nI_lt (b := 10) hr (by decide)
  by_cases c : zi_g mp q = 89
  · rw [if_pos c] at ht
    by_cases ev : y % 2 = 0
    · refine ⟨told r &&& (ones r ^^^ (-1)), pe_ifn lo (pe_if hi10 (pe_chk hr (by decide) (pe_b1 (a1 := 1) (pe_ifn (by rw [cr, ht]; decide) (pe_if (by rw [my, ev]; rfl) rfl)) (pe_ifn (by decide) (pe_chk hr (by decide) (pe_chk hr (by decide) (by rw [cr]))))))), fun i hi => ?_⟩
      rw [zb_and, zb_not _ hi, htold i hi, hones i hi]
      unfold zi_S
      rw [c, show decide (y % 2 = 0) = true by simp [ev], zi_sy_y]
      cases decide (i < 56) <;> simp
    · refine ⟨ones r, pe_ifn lo (pe_if hi10 (pe_chk hr (by decide) (pe_b1 (a1 := 0) (pe_ifn (by rw [cr, ht]; decide) (pe_ifn (fun z => ev (by rw [my] at z; exact (nI_eq (b := 0) (by omega) (by decide)).mp z)) rfl)) (pe_if rfl (pe_chk hr (by decide) (by rw [cr])))))), fun i hi => ?_⟩
      rw [hones i hi, show decide (y % 2 = 0) = false by simp [ev]]
  · rw [if_neg c] at ht
    refine ⟨ones r, pe_ifn lo (pe_if hi10 (pe_chk hr (by decide) (pe_b1 (a1 := 0) (pe_if (by rw [cr, ht]) rfl) (pe_if rfl (pe_chk hr (by decide) (by rw [cr])))))), fun i hi => ?_⟩
    rw [hones i hi]
    unfold zi_S
    rw [zi_sy_ne (decide (y % 2 = 0)) c]
theorem zi_S_some (mp : Nat → Int32) (q i : Nat) (ev : Bool) : (zi_S mp q i ev).isSome = (zi_S mp q i false).isSome := by
  unfold zi_S zi_sy
  by_cases c : zi_g mp q = 87
  · simp [c]
  · by_cases d : zi_g mp (q + 2) ≤ i ∧ i ≤ zi_g mp (q + 3)
    · simp [c, d]
    · simp [c, d]
/-- what rank and houses are behind k rules -/
theorem zw_char (s : Nat → Option Bool) (rk : Nat → Nat) : ∀ k, (∀ r, r < k → rk r ≤ 9) → ((zw_t s rk k).2.1 = 0 ↔ ∀ r, r < k → s r = none) ∧ ((zw_t s rk k).2.1 = 0 → (zw_t s rk k).1 = 10) ∧ (∀ r, r < k → s r ≠ none → (zw_t s rk k).1 ≤ rk r) ∧ (∀ β, (zw_t s rk k).2.1.testBit (zc_b β) = true ↔ ∃ r, r < k ∧ s r = some β ∧ rk r = (zw_t s rk k).1) ∧ ∀ j, (zw_t s rk k).2.2.testBit j = true ↔ j < k ∧ s j ≠ none ∧ rk j = (zw_t s rk k).1
  | 0, _ => by
    refine ⟨⟨fun _ r h => absurd h (Nat.not_lt_zero r), fun _ => rfl⟩, fun _ => rfl, fun r h => absurd h (Nat.not_lt_zero r), fun β => ⟨fun h => ?_, fun ⟨r, h, _⟩ => absurd h (Nat.not_lt_zero r)⟩, fun j => ⟨fun h => ?_, fun ⟨h, _⟩ => absurd h (Nat.not_lt_zero j)⟩⟩
    · have h : (0 : Nat).testBit (zc_b β) = true := h
      rw [Nat.zero_testBit] at h; cases h
    · have h : (0 : Nat).testBit j = true := h
      rw [Nat.zero_testBit] at h; cases h
  | k + 1, hrk => by
    obtain ⟨i1, i2, i3, i4, i5⟩ := zw_char s rk k (fun r hr => hrk r (by omega))
    have h9 := hrk k (by omega)
    rw [zw_t]
    cases hs : s k with
    | none =>
      dsimp only
      refine ⟨?_, i2, ?_, ?_, ?_⟩
      · rw [i1]
        exact ⟨fun h r hr => by
          rcases Nat.lt_or_ge r k with q | q
          · exact h r q
          · rw [show r = k by omega, hs], fun h r hr => h r (by omega)⟩
      · intro r hr hn
        rcases Nat.lt_or_ge r k with q | q
        · exact i3 r q hn
        · exact absurd (by rw [show r = k by omega, hs]) hn
      · intro β
        rw [i4]
        exact ⟨fun ⟨r, h, e⟩ => ⟨r, by omega, e⟩, fun ⟨r, h, e, e2⟩ => by
          rcases Nat.lt_or_ge r k with q | q
          · exact ⟨r, q, e, e2⟩
          · rw [show r = k by omega, hs] at e; cases e⟩
      · intro j
        rw [i5]
        exact ⟨fun ⟨h, e⟩ => ⟨by omega, e⟩, fun ⟨h, e, e2⟩ => by
          rcases Nat.lt_or_ge j k with q | q
          · exact ⟨q, e, e2⟩
          · exact absurd (by rw [show j = k by omega, hs]) e⟩
    | some b =>
      dsimp only
      by_cases c : (zw_t s rk k).1 < rk k
      · rw [if_pos c]
        have hne : (zw_t s rk k).2.1 ≠ 0 := fun e => by have := i2 e; omega
        refine ⟨⟨fun h => absurd h hne, fun h => absurd (h k (by omega)) (by rw [hs]; simp)⟩, i2, ?_, ?_, ?_⟩
        · intro r hr hn
          rcases Nat.lt_or_ge r k with q | q
          · exact i3 r q hn
          · rw [show r = k by omega]; omega
        · intro β
          rw [i4]
          exact ⟨fun ⟨r, h, e⟩ => ⟨r, by omega, e⟩, fun ⟨r, h, e, e2⟩ => by
            rcases Nat.lt_or_ge r k with q | q
            · exact ⟨r, q, e, e2⟩
            · rw [show r = k by omega] at e2; omega⟩
        · intro j
          rw [i5]
          exact ⟨fun ⟨h, e⟩ => ⟨by omega, e⟩, fun ⟨h, e, e2⟩ => by
            rcases Nat.lt_or_ge j k with q | q
            · exact ⟨q, e, e2⟩
            · rw [show j = k by omega] at e2; omega⟩
      · rw [if_neg c]
        have hb : ∀ β, (2 ^ zc_b b).testBit (zc_b β) = true ↔ b = β := by
          intro β
          cases b <;> cases β <;> decide
        refine ⟨⟨fun h => ?_, fun h => absurd (h k (by omega)) (by rw [hs]; simp)⟩, fun h => ?_, ?_, ?_, ?_⟩
        · exfalso
          have h : (if rk k < (zw_t s rk k).1 then 0 else (zw_t s rk k).2.1) ||| 2 ^ zc_b b = 0 := h
          have : (2 ^ zc_b b) = 0 := by
            have := Nat.or_eq_zero_iff.mp h
            exact this.2
          exact absurd this (Nat.ne_of_gt (Nat.pow_pos (by decide)))
        · exfalso
          have h : (if rk k < (zw_t s rk k).1 then 0 else (zw_t s rk k).2.1) ||| 2 ^ zc_b b = 0 := h
          have : (2 ^ zc_b b) = 0 := by
            have := Nat.or_eq_zero_iff.mp h
            exact this.2
          exact absurd this (Nat.ne_of_gt (Nat.pow_pos (by decide)))
        · intro r hr hn
          show rk k ≤ rk r
          rcases Nat.lt_or_ge r k with q | q
          · have := i3 r q hn; omega
          · rw [show r = k by omega]; exact Nat.le_refl _
        · intro β
          show ((if rk k < (zw_t s rk k).1 then 0 else (zw_t s rk k).2.1) ||| 2 ^ zc_b b).testBit (zc_b β) = true ↔ ∃ r, r < k + 1 ∧ s r = some β ∧ rk r = rk k
          rw [Nat.testBit_or, Bool.or_eq_true, hb]
          by_cases d : rk k < (zw_t s rk k).1
          · rw [if_pos d, Nat.zero_testBit]
            constructor
            · intro h
              rcases h with h | h
              · cases h
              · exact ⟨k, by omega, by rw [hs, h], rfl⟩
            · intro ⟨r, h, e, e2⟩
              rcases Nat.lt_or_ge r k with q | q
              · have := i3 r q (by rw [e]; simp); omega
              · rw [show r = k by omega, hs] at e
                exact Or.inr (Option.some.inj e)
          · rw [if_neg d, i4, show (zw_t s rk k).1 = rk k by omega]
            constructor
            · intro h
              rcases h with ⟨r, h, e, e2⟩ | h
              · exact ⟨r, by omega, e, e2⟩
              · exact ⟨k, by omega, by rw [hs, h], rfl⟩
            · intro ⟨r, h, e, e2⟩
              rcases Nat.lt_or_ge r k with q | q
              · exact Or.inl ⟨r, q, e, e2⟩
              · rw [show r = k by omega, hs] at e
                exact Or.inr (Option.some.inj e)
        · intro j
          show ((if rk k < (zw_t s rk k).1 then 0 else (zw_t s rk k).2.2) ||| 2 ^ k).testBit j = true ↔ j < k + 1 ∧ s j ≠ none ∧ rk j = rk k
          rw [Nat.testBit_or, Bool.or_eq_true, Nat.testBit_two_pow, decide_eq_true_iff]
          by_cases d : rk k < (zw_t s rk k).1
          · rw [if_pos d, Nat.zero_testBit]
            constructor
            · intro h
              rcases h with h | h
              · cases h
              · subst h; exact ⟨by omega, by rw [hs]; simp, rfl⟩
            · intro ⟨h, e, e2⟩
              rcases Nat.lt_or_ge j k with q | q
              · have := i3 j q e; omega
              · exact Or.inr (by omega)
          · rw [if_neg d, i5, show (zw_t s rk k).1 = rk k by omega]
            constructor
            · intro h
              rcases h with ⟨h, e, e2⟩ | h
              · exact ⟨by omega, e, e2⟩
              · subst h; exact ⟨by omega, by rw [hs]; simp, rfl⟩
            · intro ⟨h, e, e2⟩
              rcases Nat.lt_or_ge j k with q | q
              · exact Or.inl ⟨q, e, e2⟩
              · exact Or.inr (by omega)
theorem zw_2bits : ∀ a, a < 4 → ∀ b, b < 4 → (a.testBit 0 = b.testBit 0 ∧ a.testBit 1 = b.testBit 1) → a = b := by decide
/-- rank and houses do not hang on the order of the rules -/
theorem zw_perm {s : Nat → Option Bool} {rk : Nat → Nat} {n : Nat} {b : Nat → Nat} (h9 : ∀ r, r < n → rk r ≤ 9) (hb : ∀ j, j < n → b j < n) (hi : ∀ i j, i < j → j < n → b i ≠ b j) : (zw_t (fun j => s (b j)) (fun j => rk (b j)) n).2.1 = (zw_t s rk n).2.1 := by
  have onto : ∀ y, y < n → ∃ i, i < n ∧ b i = y := fun y hy => fb_onto hb hi hy
  obtain ⟨a1, a2, a3, a4, a5⟩ := zw_char s rk n h9
  obtain ⟨c1, c2, c3, c4, c5⟩ := zw_char (fun j => s (b j)) (fun j => rk (b j)) n (fun r hr => h9 _ (hb r hr))
  have l1 := (zw_inv s rk n h9).2.1
  have l2 := (zw_inv (fun j => s (b j)) (fun j => rk (b j)) n (fun r hr => h9 _ (hb r hr))).2.1
  have bits : ∀ β, (zw_t (fun j => s (b j)) (fun j => rk (b j)) n).2.1.testBit (zc_b β) = (zw_t s rk n).2.1.testBit (zc_b β) := by
    intro β
    rw [Bool.eq_iff_iff, a4, c4]
    constructor
    · intro ⟨j, hj, e1, e2⟩
      refine ⟨b j, hb j hj, e1, ?_⟩
      have q1 := a3 (b j) (hb j hj) (by rw [e1]; simp)
      have : ∃ r, r < n ∧ s r ≠ none ∧ rk r = (zw_t s rk n).1 := by
        have hne : (zw_t s rk n).2.1 ≠ 0 := fun z => by have := a1.mp z (b j) (hb j hj); rw [this] at e1; cases e1
        have h4 : (zw_t s rk n).2.1.testBit 0 = true ∨ (zw_t s rk n).2.1.testBit 1 = true := by
          have : ∀ a, a < 4 → a ≠ 0 → (a.testBit 0 = true ∨ a.testBit 1 = true) := by decide
          exact this _ l1 hne
        rcases h4 with h | h
        · obtain ⟨r, hr, er, er2⟩ := (a4 false).mp h
          exact ⟨r, hr, by rw [er]; simp, er2⟩
        · obtain ⟨r, hr, er, er2⟩ := (a4 true).mp h
          exact ⟨r, hr, by rw [er]; simp, er2⟩
      obtain ⟨r, hr, er, er2⟩ := this
      obtain ⟨i, hi', rfl⟩ := onto r hr
      have := c3 i hi' er
      have e2 : rk (b j) = _ := e2
      omega
    · intro ⟨r, hr, e1, e2⟩
      obtain ⟨i, hi', rfl⟩ := onto r hr
      refine ⟨i, hi', e1, ?_⟩
      show rk (b i) = _
      have q1 := c3 i hi' (by show s (b i) ≠ none; rw [e1]; simp)
      have hne : (zw_t (fun j => s (b j)) (fun j => rk (b j)) n).2.1 ≠ 0 := fun z => by have : s (b i) = none := c1.mp z i hi'; rw [this] at e1; cases e1
      have h4 : (zw_t (fun j => s (b j)) (fun j => rk (b j)) n).2.1.testBit 0 = true ∨ (zw_t (fun j => s (b j)) (fun j => rk (b j)) n).2.1.testBit 1 = true := by
        have : ∀ a, a < 4 → a ≠ 0 → (a.testBit 0 = true ∨ a.testBit 1 = true) := by decide
        exact this _ l2 hne
      have : ∃ j, j < n ∧ s (b j) ≠ none ∧ rk (b j) = (zw_t (fun j => s (b j)) (fun j => rk (b j)) n).1 := by
        rcases h4 with h | h
        · obtain ⟨r, hr, er, er2⟩ := (c4 false).mp h
          exact ⟨r, hr, by show s (b r) ≠ none; have er : s (b r) = some false := er; rw [er]; simp, er2⟩
        · obtain ⟨r, hr, er, er2⟩ := (c4 true).mp h
          exact ⟨r, hr, by show s (b r) ≠ none; have er : s (b r) = some true := er; rw [er]; simp, er2⟩
      obtain ⟨j, hj, ej, ej2⟩ := this
      have := a3 (b j) (hb j hj) ej
      have q1 : _ ≤ rk (b i) := q1
      omega
  exact zw_2bits _ l2 _ l1 ⟨bits false, bits true⟩
