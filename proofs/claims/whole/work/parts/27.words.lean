/-! words that go ahead of others -/
theorem zw_one {s : Nat → Option Bool} {rk : Nat → Nat} {n : Nat} (h9 : ∀ r, r < n → rk r ≤ 9) (hne : (zw_t s rk n).2.1 ≠ 0) : ∃ r, r < n ∧ s r ≠ none ∧ rk r = (zw_t s rk n).1 := by
  obtain ⟨a1, a2, a3, a4, a5⟩ := zw_char s rk n h9
  have l1 := (zw_inv s rk n h9).2.1
  have h4 : (zw_t s rk n).2.1.testBit 0 = true ∨ (zw_t s rk n).2.1.testBit 1 = true := by
    have : ∀ a, a < 4 → a ≠ 0 → (a.testBit 0 = true ∨ a.testBit 1 = true) := by decide
    exact this _ l1 hne
  rcases h4 with h | h
  · obtain ⟨r, hr, er, er2⟩ := (a4 false).mp h
    exact ⟨r, hr, by rw [er]; simp, er2⟩
  · obtain ⟨r, hr, er, er2⟩ := (a4 true).mp h
    exact ⟨r, hr, by rw [er]; simp, er2⟩
theorem pf_words {y my size : Int32} {ranks turns numbers : Nat → Int32} {told ones : Nat → Int64} {mp mm : Nat → Int32} (hY : zi_year y my) (hP : zi_paper size ranks told ones turns numbers mp mm 0) (w : Int32) (p1 : Int32) : ∃ r w1, fn_X8_words size numbers ranks told p1 = some (r, ()) ∧ fn_X9_words my w mm mp p1 = some (r, w1) := by
  obtain ⟨Y, hY1, rfl, rfl⟩ := hY
  obtain ⟨n, hn, rfl, hm, hok, b, hb1, hb2, hb3, hrule⟩ := hP
  unfold fn_X8_words fn_X9_words
  by_cases h1 : 0 ≤ p1.toInt ∧ p1.toInt ≤ 55
  · obtain ⟨i, hi, rfl⟩ := zi_rng (B := 55) h1.1 h1.2 (by decide)
    have h9 : ∀ r, r < n → zw_rk mp 0 r ≤ 9 := fun r hr => (hok r hr).2.2.2.1
    have onto : ∀ y, y < n → ∃ i, i < n ∧ b i = y := fun y hy => fb_onto (fun j hj => (hb1 j hj).2) hb2 hy
    obtain ⟨s, es⟩ : ∃ s, s = zw_s mp 0 i 0 (decide (Y % 2 = 0)) := ⟨_, rfl⟩
    obtain ⟨rk, erk⟩ : ∃ rk, rk = zw_rk mp 0 := ⟨_, rfl⟩
    have hsome : ∀ j, j < n → (zb_tb (told j) i = true ↔ s (b j) ≠ none) := by
      intro j hj
      rw [(hrule j hj).2.2.2.1 i (by omega), ← zi_S_some mp _ i (decide (Y % 2 = 0)), es]
      unfold zw_s
      rw [Nat.zero_testBit]
      have : i < 56 := by omega
      cases zi_S mp (60 * 0 + 6 * b j) i (decide (Y % 2 = 0)) <;> simp [this]
    have hrank : ∀ j, j < n → ranks j = nI (rk (b j)) := fun j hj => by rw [erk]; exact (hrule j hj).2.1
    have h9' : ∀ r, r < n → rk r ≤ 9 := by rw [erk]; exact h9
    have hmod := zi_whoseOf (mp := mp) (mm := mm) (p := 0) (wo := 0) (i := i) (y := Y) (by decide) (by omega) hY1 (by decide) hn hm hok
    rw [← es, ← erk] at hmod
    obtain ⟨B, eB, hB⟩ : ∃ r : Int32, zz_it (fun z => fb_X2_foremost_8 (nI i) (nI n) told ranks numbers z.1 z.2.1 z.2.2) zz_fuel (0, (-9), 0) = some r ∧ r = nI (zw_t s rk n).2.2 := by
      refine pe_itI (fun j st => ∃ (Bn : Nat) (le : Int32), st = (nI Bn, le, nI j) ∧ (((zw_t (fun j => s (b j)) (fun j => rk (b j)) j).2.1 = 0 ∧ le = -9 ∧ Bn = 0) ∨ ((zw_t (fun j => s (b j)) (fun j => rk (b j)) j).2.1 ≠ 0 ∧ le = nI (zw_t (fun j => s (b j)) (fun j => rk (b j)) j).1 ∧ ∀ r, Bn.testBit r = true ↔ ∃ j', j' < j ∧ b j' = r ∧ s (b j') ≠ none ∧ rk (b j') = (zw_t (fun j => s (b j)) (fun j => rk (b j)) j).1))) n _ ⟨0, -9, rfl, Or.inl ⟨rfl, rfl, rfl⟩⟩ ?_ ?_ (by omega)
      · intro j st hj ⟨Bn, le, e, hI⟩
        subst e
        obtain ⟨eb, hbj⟩ := hb1 j hj
        have cj : (nI j).toNatClampNeg = j := nI_clamp (by omega)
        have h9b : ∀ r, r < j → rk (b r) ≤ 9 := fun r hr => h9' _ (hb1 r (by omega)).2
        obtain ⟨c1, c2, c3, c4, c5⟩ := zw_char (fun j => s (b j)) (fun j => rk (b j)) j h9b
        have hinv := zw_inv (fun j => s (b j)) (fun j => rk (b j)) j h9b
        obtain ⟨t1, t2⟩ := zr_t1 (fun j => s (b j)) (fun j => rk (b j)) j
        have hq9 := h9' (b j) hbj
        have start : ∀ (st' : Int32 × Int32 × Int32), (zz_b2 (fn_X1_holds (told j) (nI i)) (fun x50 u51 => (if x50 = 0 then zz_nm (nI j + 1) (fun x67 => some (.inl (nI Bn, le, x67))) else zz_b1 (if le = (-9) then zz_chk (nI j) 10 (zz_nm (ranks j) (fun x66 => some x66)) else some le) (fun (x57 : Int32) => zz_chk (nI j) 10 ((if (ranks j) = x57 then zz_chk (nI j) 10 (zz_nm (nI Bn ||| ((1 : Int32) <<< (nI (b j) &&& 31))) (fun x63 => zz_nm (nI j + 1) (fun x64 => some (.inl (x63, x57, x64))))) else zz_nm (nI j + 1) (fun x61 => some (.inl (nI Bn, x57, x61)))))))) : Option ((Int32 × Int32 × Int32) ⊕ Int32)) = some (.inl st') → (fun z : Int32 × Int32 × Int32 => fb_X2_foremost_8 (nI i) (nI n) told ranks numbers z.1 z.2.1 z.2.2) (nI Bn, le, nI j) = some (.inl st') := by
          intro st' hst
          show fb_X2_foremost_8 (nI i) (nI n) told ranks numbers (nI Bn) le (nI j) = _
          unfold fb_X2_foremost_8
          rw [cj, eb]
          exact pe_ifn (nI_ge hj (by omega)) (pe_ifn (nI_ge (b := 10) (by omega) (by decide)) (pe_chk (by omega) (by decide) hst))
        cases hs : s (b j) with
        | none =>
          refine ⟨(nI Bn, le, nI (j + 1)), start _ (pe_b2 (zi_holds _ (by omega)) (pe_if ?_ (pe_nm (nI_1 j) rfl))), Bn, le, rfl, ?_⟩
          · have : ¬ zb_tb (told j) i = true := fun q => absurd hs ((hsome j hj).mp q)
            rw [if_neg this]
          · rw [t1, t2, hs]
            rcases hI with h | ⟨q1, q2, q3⟩
            · exact Or.inl h
            · refine Or.inr ⟨q1, q2, fun r => ?_⟩
              rw [q3]
              exact ⟨fun ⟨j', a, c⟩ => ⟨j', by omega, c⟩, fun ⟨j', a, c, d, e⟩ => by
                rcases Nat.lt_or_ge j' j with z | z
                · exact ⟨j', z, c, d, e⟩
                · rw [show j' = j by omega, hs] at d; exact absurd rfl d⟩
        | some β =>
          have hh : zb_tb (told j) i = true := (hsome j hj).mpr (by rw [hs]; simp)
          have hv : (if zb_tb (told j) i = true then (1 : Int32) else 0) = 1 := if_pos hh
          have er : ranks j = nI (rk (b j)) := hrank j hj
          have bits1 : nI Bn ||| ((1 : Int32) <<< (nI (b j) &&& 31)) = nI (Bn ||| 2 ^ b j) := by rw [zi_pw _ (by omega), zi_or]
          rcases hI with ⟨q1, q2, q3⟩ | ⟨q1, q2, q3⟩
          · have t10 : (zw_t (fun j => s (b j)) (fun j => rk (b j)) j).1 = 10 := c2 q1
            refine ⟨(nI (Bn ||| 2 ^ b j), nI (rk (b j)), nI (j + 1)), start _ (pe_b2 (zi_holds _ (by omega)) (pe_ifn (by rw [hv]; decide) (pe_b1 (a1 := nI (rk (b j))) (pe_if q2 (pe_chk (by omega) (by decide) (pe_nm er rfl))) (pe_chk (by omega) (by decide) (pe_if er (pe_chk (by omega) (by decide) (pe_nm bits1 (pe_nm (nI_1 j) rfl)))))))), Bn ||| 2 ^ b j, nI (rk (b j)), rfl, Or.inr ⟨?_, ?_, fun r => ?_⟩⟩
            · rw [t2, hs, t10, q1]
              show (if 10 < rk (b j) then 0 else (if rk (b j) < 10 then 0 else 0) ||| 2 ^ zc_b β) ≠ 0
              rw [if_neg (by omega), if_pos (by omega), Nat.zero_or]
              exact Nat.ne_of_gt (Nat.pow_pos (by decide))
            · rw [t1, hs, t10]
              show _ = nI (if 10 < rk (b j) then 10 else rk (b j))
              rw [if_neg (by omega)]
            · have e1 : (zw_t (fun j => s (b j)) (fun j => rk (b j)) (j + 1)).1 = rk (b j) := by
                rw [t1, hs, t10]
                show (if 10 < rk (b j) then 10 else rk (b j)) = _
                rw [if_neg (by omega)]
              rw [e1, q3, Nat.zero_or, Nat.testBit_two_pow, decide_eq_true_iff]
              constructor
              · intro e; exact ⟨j, by omega, e, by rw [hs]; simp, rfl⟩
              · intro ⟨j', a, c, d, e⟩
                rcases Nat.lt_or_ge j' j with z | z
                · exact absurd (c1.mp q1 j' z) d
                · rw [show j' = j by omega] at c; exact c
          · obtain ⟨j0, hj0, hn0, hr0⟩ := zw_one h9b q1
            have hr0 : rk (b j0) = (zw_t (fun j => s (b j)) (fun j => rk (b j)) j).1 := hr0
            have sorted : (zw_t (fun j => s (b j)) (fun j => rk (b j)) j).1 ≤ rk (b j) := by
              rw [← hr0, erk]; exact hb3 j0 j hj0 hj
            have hle9 : ¬ le = -9 := by
              rw [q2]
              intro q
              have q : (nI (zw_t (fun j => s (b j)) (fun j => rk (b j)) j).1).toInt = (-9 : Int32).toInt := by rw [q]
              rw [nI_toInt (by omega), show (-9 : Int32).toInt = -9 by decide] at q
              omega
            by_cases eq : rk (b j) = (zw_t (fun j => s (b j)) (fun j => rk (b j)) j).1
            · have e1 : (zw_t (fun j => s (b j)) (fun j => rk (b j)) (j + 1)).1 = (zw_t (fun j => s (b j)) (fun j => rk (b j)) j).1 := by
                rw [t1, hs]
                show (if _ < rk (b j) then _ else rk (b j)) = _
                rw [if_neg (by omega), eq]
              refine ⟨(nI (Bn ||| 2 ^ b j), le, nI (j + 1)), start _ (pe_b2 (zi_holds _ (by omega)) (pe_ifn (by rw [hv]; decide) (pe_b1 (a1 := le) (pe_ifn hle9 rfl) (pe_chk (by omega) (by decide) (pe_if (by rw [er, q2, eq]) (pe_chk (by omega) (by decide) (pe_nm bits1 (pe_nm (nI_1 j) rfl)))))))), Bn ||| 2 ^ b j, le, rfl, Or.inr ⟨?_, ?_, fun r => ?_⟩⟩
              · rw [t2, hs]
                show (if _ < rk (b j) then _ else (if rk (b j) < _ then 0 else _) ||| 2 ^ zc_b β) ≠ 0
                rw [if_neg (by omega)]
                intro z
                exact absurd (Nat.or_eq_zero_iff.mp z).2 (Nat.ne_of_gt (Nat.pow_pos (by decide)))
              · rw [e1]; exact q2
              · rw [e1, Nat.testBit_or, Bool.or_eq_true, q3, Nat.testBit_two_pow, decide_eq_true_iff]
                constructor
                · intro z
                  rcases z with ⟨j', a, c⟩ | z
                  · exact ⟨j', by omega, c⟩
                  · exact ⟨j, by omega, z, by rw [hs]; simp, eq⟩
                · intro ⟨j', a, c, d, e⟩
                  rcases Nat.lt_or_ge j' j with z | z
                  · exact Or.inl ⟨j', z, c, d, e⟩
                  · rw [show j' = j by omega] at c; exact Or.inr c
            · have lt : (zw_t (fun j => s (b j)) (fun j => rk (b j)) j).1 < rk (b j) := by omega
              have e1 : (zw_t (fun j => s (b j)) (fun j => rk (b j)) (j + 1)).1 = (zw_t (fun j => s (b j)) (fun j => rk (b j)) j).1 := by
                rw [t1, hs]; exact if_pos lt
              have e2 : (zw_t (fun j => s (b j)) (fun j => rk (b j)) (j + 1)).2.1 = (zw_t (fun j => s (b j)) (fun j => rk (b j)) j).2.1 := by
                rw [t2, hs]; exact if_pos lt
              refine ⟨(nI Bn, le, nI (j + 1)), start _ (pe_b2 (zi_holds _ (by omega)) (pe_ifn (by rw [hv]; decide) (pe_b1 (a1 := le) (pe_ifn hle9 rfl) (pe_chk (by omega) (by decide) (pe_ifn (fun z => eq ?_) (pe_nm (nI_1 j) rfl)))))), Bn, le, rfl, Or.inr ⟨by rw [e2]; exact q1, by rw [e1]; exact q2, fun r => ?_⟩⟩
              · rw [er, q2] at z
                exact (nI_eq (by omega) (by omega)).mp z
              · rw [e1, q3]
                exact ⟨fun ⟨j', a, c⟩ => ⟨j', by omega, c⟩, fun ⟨j', a, c, d, e⟩ => by
                  rcases Nat.lt_or_ge j' j with z | z
                  · exact ⟨j', z, c, d, e⟩
                  · rw [show j' = j by omega] at e; omega⟩
      · intro st ⟨Bn, le, e, hI⟩
        subst e
        refine ⟨nI Bn, ?_, ?_⟩
        · show fb_X2_foremost_8 (nI i) (nI n) told ranks numbers (nI Bn) le (nI n) = _
          unfold fb_X2_foremost_8
          exact pe_if (Int32.le_refl _) rfl
        · congr 1
          obtain ⟨a1, a2, a3, a4, a5⟩ := zw_char s rk n h9'
          have h9b : ∀ r, r < n → rk (b r) ≤ 9 := fun r hr => h9' _ (hb1 r hr).2
          obtain ⟨c1, c2, c3, c4, c5⟩ := zw_char (fun j => s (b j)) (fun j => rk (b j)) n h9b
          apply Nat.eq_of_testBit_eq
          intro r
          rw [Bool.eq_iff_iff, a5]
          rcases hI with ⟨q1, q2, q3⟩ | ⟨q1, q2, q3⟩
          · rw [q3, Nat.zero_testBit]
            constructor
            · intro z; cases z
            · intro ⟨z, d, _⟩
              obtain ⟨j', hj', rfl⟩ := onto r z
              exact absurd (c1.mp q1 j' hj') d
          · have hT : (zw_t (fun j => s (b j)) (fun j => rk (b j)) n).1 = (zw_t s rk n).1 := by
              obtain ⟨j0, hj0, hn0, hr0⟩ := zw_one h9b q1
              have x1 := a3 (b j0) (hb1 j0 hj0).2 hn0
              have hr0 : rk (b j0) = _ := hr0
              have ne2 : (zw_t s rk n).2.1 ≠ 0 := fun z => absurd (a1.mp z (b j0) (hb1 j0 hj0).2) hn0
              obtain ⟨r1, hr1, hn1, e1⟩ := zw_one h9' ne2
              obtain ⟨j1, hj1, rfl⟩ := onto r1 hr1
              have x2 : _ ≤ rk (b j1) := c3 j1 hj1 hn1
              omega
            rw [q3, hT]
            constructor
            · intro ⟨j', a, c, d, e⟩
              subst c
              exact ⟨(hb1 j' a).2, d, e⟩
            · intro ⟨z, d, e⟩
              obtain ⟨j', hj', rfl⟩ := onto r z
              exact ⟨j', hj', rfl, d, e⟩
    refine ⟨nI (zw_t s rk n).2.2, nI (zw_t s rk n).2.2, pe_b2 (zi_night8 _) (pe_ifn (zi_i1 h1) (pe_b2 (a2 := ()) ?_ rfl)), pe_b2 (zi_night9 _) (pe_ifn (zi_i1 h1) (pe_b2 hmod rfl))⟩
    unfold fn_X2_foremost
    rw [hB] at eB
    exact pe_b1 eB rfl
  · exact ⟨-1, w, pe_b2 (zi_night8 _) (pe_if (zi_i0 h1) rfl), pe_b2 (zi_night9 _) (pe_if (zi_i0 h1) rfl)⟩
