/-! a brother -/
theorem zb_ct_not (q : Nat → Bool) : ∀ n, zb_ct q n + zb_ct (fun i => !q i) n = n
  | 0 => rfl
  | n + 1 => by
    have := zb_ct_not q n
    rw [zb_ct, zb_ct]
    cases q n <;> simp <;> omega
def zt_q (h0 h1 : Nat → Nat) (most : Bool) (i : Nat) : Bool := if most = true then !((decide (h0 i = 1) && decide (h1 i = 2)) || (decide (h0 i = 2) && decide (h1 i = 1))) else ((decide (h0 i = 1) && decide (h1 i = 1)) || (decide (h0 i = 2) && decide (h1 i = 2)))
theorem zt_step {a b : Nat} (ha : a < 4) (hb : b < 4) {p2 : Int32} {α : Type} {x1 x2 x3 x4 x5 x6 x7 r1 r0 : Option α} (e1 : x1 = r0) (e2 : x2 = r1) (e3 : x3 = r0) (e4 : x4 = r1) (e5 : x5 = r1) (e6 : x6 = r1) (e7 : x7 = r0) : (if p2 = 0 then (if 2 ≤ nI (zw_of a) then x1 else (if nI (zw_of a) = nI (zw_of b) then x2 else x3)) else (if 1 < nI (zw_of a) then x4 else (if 1 < nI (zw_of b) then x5 else (if nI (zw_of a) = nI (zw_of b) then x6 else x7)))) = if (if (!decide (p2 = 0)) = true then !((decide (a = 1) && decide (b = 2)) || (decide (a = 2) && decide (b = 1))) else ((decide (a = 1) && decide (b = 1)) || (decide (a = 2) && decide (b = 2)))) = true then r1 else r0 := by
  have ca : a = 0 ∨ a = 1 ∨ a = 2 ∨ a = 3 := by omega
  have cb : b = 0 ∨ b = 1 ∨ b = 2 ∨ b = 3 := by omega
  by_cases q : p2 = 0
  · rw [if_pos q, show decide (p2 = 0) = true by simp [q]]
    rcases ca with rfl | rfl | rfl | rfl
    · rw [if_pos (by decide), e1]; rcases cb with rfl | rfl | rfl | rfl <;> rfl
    · rw [if_neg (by decide)]
      rcases cb with rfl | rfl | rfl | rfl
      · rw [if_neg (by decide), e3]; rfl
      · rw [if_pos rfl, e2]; rfl
      · rw [if_neg (by decide), e3]; rfl
      · rw [if_neg (by decide), e3]; rfl
    · rw [if_neg (by decide)]
      rcases cb with rfl | rfl | rfl | rfl
      · rw [if_neg (by decide), e3]; rfl
      · rw [if_neg (by decide), e3]; rfl
      · rw [if_pos rfl, e2]; rfl
      · rw [if_neg (by decide), e3]; rfl
    · rw [if_pos (by decide), e1]; rcases cb with rfl | rfl | rfl | rfl <;> rfl
  · rw [if_neg q, show decide (p2 = 0) = false by simp [q]]
    rcases ca with rfl | rfl | rfl | rfl
    · rw [if_pos (by decide), e4]; rcases cb with rfl | rfl | rfl | rfl <;> rfl
    · rw [if_neg (by decide)]
      rcases cb with rfl | rfl | rfl | rfl
      · rw [if_pos (by decide), e5]; rfl
      · rw [if_neg (by decide), if_pos rfl, e6]; rfl
      · rw [if_neg (by decide), if_neg (by decide), e7]; rfl
      · rw [if_pos (by decide), e5]; rfl
    · rw [if_neg (by decide)]
      rcases cb with rfl | rfl | rfl | rfl
      · rw [if_pos (by decide), e5]; rfl
      · rw [if_neg (by decide), if_neg (by decide), e7]; rfl
      · rw [if_neg (by decide), if_pos rfl, e6]; rfl
      · rw [if_pos (by decide), e5]; rfl
    · rw [if_pos (by decide), e4]; rcases cb with rfl | rfl | rfl | rfl <;> rfl
theorem zt_core {y my size sz : Int32} {ranks turns byRank rk tu by' : Nat → Int32} {told ones tl on : Nat → Int64} {mp mm : Nat → Int32} {s : Nat} (hs : s ≤ 1) (hY : zi_year y my) (hP : zi_paper size ranks told ones turns byRank mp mm 0) (hS : zi_paper sz rk tl on tu by' mp mm (1 + s)) (p2 : Int32) : ∃ (r : Int32) (Z O F Z' O' F' : Int64), fn_X8_readPaper y size byRank ones ranks told turns = some (Z, O, F) ∧ fn_X2_readTo sz by' on rk tl tu y 0 = some (Z', O', F') ∧ (if p2 = 0 then zz_b2 (fn_J13_bitCount_95d88 ((Z &&& Z') ||| (O &&& O'))) (fun x16 u17 => some (x16, Z', O', F', Z, O, F)) else zz_b2 (fn_J13_bitCount_95d88 ((Z &&& O') ||| (O &&& Z'))) (fun x19 u20 => some (56 - x19, Z', O', F', Z, O, F))) = some (r, Z', O', F', Z, O, F) ∧ ∀ w, ∃ w', zz_it (fun z => fb_X9_together_29 (nI s) p2 my mm mp z.1 z.2.1 z.2.2) zz_fuel (0, 0, w) = some (r, w') := by
  obtain ⟨Y, hY1, rfl, rfl⟩ := hY
  obtain ⟨Z, O, F, e, hb⟩ := zr_read (wo := 0) hY1 (by decide) hP
  obtain ⟨Z', O', F', e', hb'⟩ := zr_read (wo := 0) hY1 (by decide) hS
  obtain ⟨n, hn, rfl, hm, hok, -⟩ := hP
  obtain ⟨n', hn', rfl, hm', hok', -⟩ := hS
  obtain ⟨h0, eh0⟩ : ∃ h, h = zw_h mp mm 0 0 (decide (Y % 2 = 0)) := ⟨_, rfl⟩
  obtain ⟨h1, eh1⟩ : ∃ h, h = zw_h mp mm (1 + s) 0 (decide (Y % 2 = 0)) := ⟨_, rfl⟩
  have h04 : ∀ i, h0 i < 4 := by rw [eh0]; exact zw_h4 hm hn hok
  have h14 : ∀ i, h1 i < 4 := by rw [eh1]; exact zw_h4 hm' hn' hok'
  rw [← eh0] at hb
  rw [← eh1] at hb'
  have w0 : ∀ i, i < 56 → ∃ w, fn_X9_whoseOf mm mp 0 (nI i) (nI Y) 0 = some (nI (zw_of (h0 i)), w) := by
    intro i hi
    refine ⟨nI (zw_t (zw_s mp 0 i 0 (decide (Y % 2 = 0))) (zw_rk mp 0) n).2.2, ?_⟩
    rw [eh0]
    unfold zw_h
    rw [zi_gn hm (by omega)]
    exact zi_whoseOf (p := 0) (wo := 0) (by decide) hi hY1 (by decide) hn hm hok
  have w1 : ∀ i, i < 56 → ∃ w, fn_X9_whoseOf mm mp (1 + nI s) (nI i) (nI Y) 0 = some (nI (zw_of (h1 i)), w) := by
    intro i hi
    refine ⟨nI (zw_t (zw_s mp (1 + s) i 0 (decide (Y % 2 = 0))) (zw_rk mp (1 + s)) n').2.2, ?_⟩
    rw [eh1]
    unfold zw_h
    rw [zi_gn hm' (by omega), show (1 : Int32) = nI 1 from rfl, nI_add]
    exact zi_whoseOf (p := 1 + s) (wo := 0) (by omega) hi hY1 (by decide) hn' hm' hok'
  have cut : ∀ A B C D : Int64, (∀ i, 56 ≤ i → zb_tb A i = false ∧ zb_tb C i = false) → zb_ct (zb_tb ((A &&& B) ||| (C &&& D))) 64 = zb_ct (fun i => (zb_tb A i && zb_tb B i) || (zb_tb C i && zb_tb D i)) 56 := by
    intro A B C D hz
    rw [zb_ct_cut (fun i hi => by rw [zb_or, zb_and, zb_and, (hz i hi).1, (hz i hi).2]; simp)]
    exact zb_ct_cong (fun i _ => by rw [zb_or, zb_and, zb_and])
  have hz : ∀ i, 56 ≤ i → zb_tb Z i = false ∧ zb_tb O i = false := fun i hi => ⟨((hb i).2 hi).1, ((hb i).2 hi).2.1⟩
  refine ⟨nI (zb_ct (zt_q h0 h1 (!decide (p2 = 0))) 56), Z, O, F, Z', O', F', pe_b3 e rfl, e', ?_, ?_⟩
  · by_cases q : p2 = 0
    · refine pe_if q (pe_b2 (zb_bc _) ?_)
      rw [cut Z Z' O O' hz]
      have : zb_ct (fun i => (zb_tb Z i && zb_tb Z' i) || (zb_tb O i && zb_tb O' i)) 56 = zb_ct (zt_q h0 h1 (!decide (p2 = 0))) 56 := by
        refine zb_ct_cong (fun i hi => ?_)
        rw [((hb i).1 hi).1, ((hb i).1 hi).2.1, ((hb' i).1 hi).1, ((hb' i).1 hi).2.1]
        unfold zt_q
        simp [q]
      rw [this]
    · refine pe_ifn q (pe_b2 (zb_bc _) ?_)
      rw [cut Z O' O Z' hz]
      have : zb_ct (fun i => !((zb_tb Z i && zb_tb O' i) || (zb_tb O i && zb_tb Z' i))) 56 = zb_ct (zt_q h0 h1 (!decide (p2 = 0))) 56 := by
        refine zb_ct_cong (fun i hi => ?_)
        rw [((hb i).1 hi).1, ((hb i).1 hi).2.1, ((hb' i).1 hi).1, ((hb' i).1 hi).2.1]
        unfold zt_q
        simp [q]
      have nn := zb_ct_not (fun i => (zb_tb Z i && zb_tb O' i) || (zb_tb O i && zb_tb Z' i)) 56
      rw [this] at nn
      rw [show (56 : Int32) = nI 56 from rfl, pk_sub (by omega)]
      congr 3
      omega
  · intro w
    obtain ⟨⟨r, w'⟩, er, hr⟩ := pe_itI (b := fun z => fb_X9_together_29 (nI s) p2 (nI Y) mm mp z.1 z.2.1 z.2.2) (s0 := (0, 0, w)) (fun k st => ∃ w', st = (nI (zb_ct (zt_q h0 h1 (!decide (p2 = 0))) k), nI k, w')) 56 (fun r => r.1 = nI (zb_ct (zt_q h0 h1 (!decide (p2 = 0))) 56)) ⟨w, rfl⟩ (by
      intro k st hk ⟨w', ee⟩
      subst ee
      obtain ⟨wa, ea⟩ := w0 k hk
      obtain ⟨wb, eb⟩ := w1 k hk
      refine ⟨(nI (zb_ct (zt_q h0 h1 (!decide (p2 = 0))) (k + 1)), nI (k + 1), wb), ?_, wb, rfl⟩
      show fb_X9_together_29 (nI s) p2 (nI Y) mm mp (nI (zb_ct (zt_q h0 h1 (!decide (p2 = 0))) k)) (nI k) w' = _
      unfold fb_X9_together_29
      have r1 : ∀ c : Nat, zz_nm (nI c + 1) (fun x => zz_nm (nI k + 1) (fun x2 => some (Sum.inl (β := Int32 × Int32) (x, x2, wb)))) = some (.inl (nI (c + 1), nI (k + 1), wb)) := fun c => pe_nm (nI_1 c) (pe_nm (nI_1 k) rfl)
      have r0 : ∀ c : Nat, zz_nm (nI c + 0) (fun x => zz_nm (nI k + 1) (fun x2 => some (Sum.inl (β := Int32 × Int32) (x, x2, wb)))) = some (.inl (nI c, nI (k + 1), wb)) := fun c => pe_nm (nI_add c 0) (pe_nm (nI_1 k) rfl)
      refine pe_ifn (nI_ge (b := 56) hk (by decide)) (pe_b2 ea (pe_b2 eb ?_))
      refine (zt_step (h04 k) (h14 k) (r0 _) (r1 _) (r0 _) (r1 _) (r1 _) (r1 _) (r0 _)).trans ?_
      show (if zt_q h0 h1 (!decide (p2 = 0)) k = true then _ else _) = _
      rw [zb_ct]
      cases zt_q h0 h1 (!decide (p2 = 0)) k <;> rfl) (by
      intro st ⟨w', ee⟩
      subst ee
      refine ⟨(nI (zb_ct (zt_q h0 h1 (!decide (p2 = 0))) 56), w'), ?_, rfl⟩
      show fb_X9_together_29 (nI s) p2 (nI Y) mm mp (nI (zb_ct (zt_q h0 h1 (!decide (p2 = 0))) 56)) (nI 56) w' = _
      unfold fb_X9_together_29
      exact pe_if (Int32.le_refl _) rfl) (by decide)
    have hr : r = _ := hr
    exact ⟨w', by rw [er, hr]⟩
theorem pf_together {y my size sz1 sz2 k1 k2 : Int32} {ranks turns byRank rk1 tu1 by1 rk2 tu2 by2 : Nat → Int32} {told ones tl1 on1 tl2 on2 : Nat → Int64} {mp mm mk : Nat → Int32} (hY : zi_year y my) (hP : zi_paper size ranks told ones turns byRank mp mm 0) (h1 : zi_paper sz1 rk1 tl1 on1 tu1 by1 mp mm 1) (h2 : zi_paper sz2 rk2 tl2 on2 tu2 by2 mp mm 2) (f1 : zi_flag k1 mk 0) (f2 : zi_flag k2 mk 1) (a1 a2 a3 b1 b2 b3 : Int64) (w : Int32) (p1 p2 : Int32) : ∃ r o1 o2 o3 o4 o5 o6 w1, fn_X8_together y size byRank ones ranks told turns a1 a2 a3 b1 b2 b3 k2 sz2 by2 on2 rk2 tl2 tu2 k1 sz1 by1 on1 rk1 tl1 tu1 p1 p2 = some (r, o1, o2, o3, o4, o5, o6) ∧ fn_X9_together my w mk mm mp p1 p2 = some (r, w1) := by
  unfold fn_X8_together fn_X9_together
  by_cases hp : 0 ≤ p1.toInt ∧ p1.toInt ≤ 1
  · obtain ⟨s, hs, rfl⟩ := zi_rng (B := 1) hp.1 hp.2 (by decide)
    have cs : s = 0 ∨ s = 1 := by omega
    rcases cs with rfl | rfl
    · by_cases q : k1 = 0
      · exact ⟨-3, a1, a2, a3, b1, b2, b3, w, pe_b2 (zi_slot8 _) (pe_ifn (zi_i1 hp) (pe_if rfl (pe_if q rfl))), pe_b2 (zi_in _ (A := 0) (B := 1) (by decide) (by decide)) (pe_ifn (zi_i1 hp) (pe_chk (by decide) (by decide) (pe_if (by show mk 0 = 0; rw [f1.2, q]) rfl)))⟩
      · obtain ⟨r, Z, O, F, Z', O', F', e1, e2, e3, e4⟩ := zt_core (s := 0) (by decide) hY hP h1 p2
        obtain ⟨w', ew⟩ := e4 w
        exact ⟨r, Z', O', F', Z, O, F, w', pe_b2 (zi_slot8 _) (pe_ifn (zi_i1 hp) (pe_if rfl (pe_ifn q (pe_b3 e1 (pe_b3 e2 e3))))), pe_b2 (zi_in _ (A := 0) (B := 1) (by decide) (by decide)) (pe_ifn (zi_i1 hp) (pe_chk (by decide) (by decide) (pe_ifn (by show ¬ mk 0 = 0; rw [f1.2]; exact q) (pe_b2 ew rfl))))⟩
    · by_cases q : k2 = 0
      · exact ⟨-3, a1, a2, a3, b1, b2, b3, w, pe_b2 (zi_slot8 _) (pe_ifn (zi_i1 hp) (pe_ifn (by decide) (pe_if q rfl))), pe_b2 (zi_in _ (A := 0) (B := 1) (by decide) (by decide)) (pe_ifn (zi_i1 hp) (pe_chk (by decide) (by decide) (pe_if (by show mk 1 = 0; rw [f2.2, q]) rfl)))⟩
      · obtain ⟨r, Z, O, F, Z', O', F', e1, e2, e3, e4⟩ := zt_core (s := 1) (by decide) hY hP h2 p2
        obtain ⟨w', ew⟩ := e4 w
        exact ⟨r, Z', O', F', Z, O, F, w', pe_b2 (zi_slot8 _) (pe_ifn (zi_i1 hp) (pe_ifn (by decide) (pe_ifn q (pe_b3 e1 (pe_b3 e2 e3))))), pe_b2 (zi_in _ (A := 0) (B := 1) (by decide) (by decide)) (pe_ifn (zi_i1 hp) (pe_chk (by decide) (by decide) (pe_ifn (by show ¬ mk 1 = 0; rw [f2.2]; exact q) (pe_b2 ew rfl))))⟩
  · exact ⟨-1, a1, a2, a3, b1, b2, b3, w, pe_b2 (zi_slot8 _) (pe_if (zi_i0 hp) rfl), pe_b2 (zi_in _ (A := 0) (B := 1) (by decide) (by decide)) (pe_if (zi_i0 hp) rfl)⟩
