/-! wedding -/
def zq_W (q : Nat → Bool) (v : Nat → Int32) : Nat → Int32 × Int32
  | 0 => (-9, 0)
  | i + 1 => if q i = true then (if (zq_W q v i).1 = -9 then (nI i, v i) else if (zq_W q v i).2 ≤ v i then zq_W q v i else (nI i, v i)) else zq_W q v i
theorem zq_W0 {q : Nat → Bool} {v : Nat → Int32} {lo : Nat} (h : ∀ i, i < lo → q i = false) : ∀ i, i ≤ lo → zq_W q v i = (-9, 0)
  | 0, _ => rfl
  | i + 1, hi => by rw [zq_W, h i (by omega), if_neg (by decide), zq_W0 h i (by omega)]
theorem zq_Wn {q : Nat → Bool} {v : Nat → Int32} {i : Nat} (h : q i = false) : zq_W q v (i + 1) = zq_W q v i := by rw [zq_W, h, if_neg (by decide)]
theorem zq_Wy {q : Nat → Bool} {v : Nat → Int32} {i : Nat} (h : q i = true) {α : Type} {f : Int32 × Int32 → Option α} {a b c : Option α} (ha : a = f (nI i, v i)) (hb : b = f (zq_W q v i)) (hc : c = f (nI i, v i)) : (if (zq_W q v i).1 = -9 then a else (if (zq_W q v i).2 ≤ v i then b else c)) = f (zq_W q v (i + 1)) := by
  rw [zq_W, h, if_pos rfl]
  split
  · exact ha
  · split
    · exact hb
    · exact hc
theorem zq_upd {g : Nat → Int32} {i : Nat} {a b : Int32} (h : g i = b) : upd (upd g i a) i b = g := by
  funext j
  by_cases e : j = i
  · subst e; rw [pk_us, h]
  · rw [pk_un e, pk_un e]
theorem pf_wedding {lo pl ph wa : Int32} {ag : Nat → Int32} {mo ab ha mw : Int32} {wn wh ww : Nat → Int32} {P : Int64} {mpl : Nat → Int32} (hW : zi_wishes lo pl ph wa ag mo ab ha mw wn wh ww) (hL : zi_plan P mpl 0) (p1 p2 : Int32) : ∃ r, fn_X8_wedding P lo pl ph wa ag p1 p2 = some (r, ()) ∧ fn_X9_wedding mo ab ha mw mpl wh wn ww p1 p2 = some (r, mpl) := by
  unfold fn_X8_wedding fn_X9_wedding
  by_cases h1 : 0 ≤ p1.toInt ∧ p1.toInt ≤ 55
  · by_cases h2 : 0 ≤ p2.toInt ∧ p2.toInt ≤ 1
    · obtain ⟨n, hn, rfl⟩ := zi_rng (B := 55) h1.1 h1.2 (by decide)
      obtain ⟨hb, rfl⟩ : ∃ hb : Bool, p2 = if hb = true then 1 else 0 := by
        obtain ⟨k, hk, rfl⟩ := zi_rng (B := 1) h2.1 h2.2 (by decide)
        have : k = 0 ∨ k = 1 := by omega
        rcases this with rfl | rfl
        · exact ⟨false, rfl⟩
        · exact ⟨true, rfl⟩
      have cn : (nI n).toNatClampNeg = n := nI_clamp (by omega)
      by_cases he : zb_tb P n = hb
      · exact ⟨-9, pe_b2 (zi_night8 _) (pe_ifn (zi_i1 h1) (pe_b2 (zi_house8 _) (pe_ifn (zi_i1 h2) (pe_b2 (zi_houseAt P (by omega)) (pe_if (by rw [he]) rfl))))), pe_b2 (zi_night9 _) (pe_ifn (zi_i1 h1) (pe_b2 (zi_house9 _) (pe_ifn (zi_i1 h2) (pe_chk (by omega) (by decide) (pe_if (by rw [cn, zi_planD hL (by omega), he]) rfl)))))⟩
      · obtain ⟨m, a, j, w, g1, g2, g3, g4, g5, rfl, rfl, rfl, rfl, rfl, rfl, rfl, rfl, g6, g7⟩ := hW
        obtain ⟨q, hq⟩ : ∃ q : Nat → Bool, ∀ i, q i = (decide (n ≤ i + 14 ∧ i ≤ n + 14 ∧ i < 56) && (zb_tb P i == hb)) := ⟨_, fun _ => rfl⟩
        obtain ⟨v, hv⟩ : ∃ v : Nat → Int32, ∀ i, v i = nI (zc_cost m a j (fun n h => zi_price wn wh ww n h w) (fun x => zb_tb P x ^^ decide (x = n) ^^ decide (x = i)) 56) := ⟨_, fun _ => rfl⟩
        have hlo : ∀ i, i < n - 14 → q i = false := fun i hi => by rw [hq, show decide (n ≤ i + 14 ∧ i ≤ n + 14 ∧ i < 56) = false by simp; omega]; rfl
        have hqn : q n = false := by
          rw [hq]
          have : (zb_tb P n == hb) = false := by simp [he]
          rw [this]; simp
        have hnb : zb_tb P n = !hb := by cases hb <;> cases b : zb_tb P n <;> simp_all
        have e0 : ¬ (if zb_tb P n = true then (1 : Int32) else 0) = if hb = true then 1 else 0 := zi_ne01 he
        have key : ∀ i, i < 56 → q i = true → ∃ o, fn_X1_turned P (nI n) (nI i) = some (o, ()) ∧ fn_X7_costOf (nI m) (nI a) (nI j) (nI w) ag o = some (v i, ()) ∧ fn_X9_costOf (nI m) (nI a) (nI j) (nI w) (upd (upd mpl n (if hb = true then 1 else 0)) i (1 - if hb = true then 1 else 0)) wh wn ww = some (v i, ()) := by
          intro i hi hqi
          have hni : i ≠ n := fun e => by rw [e, hqn] at hqi; exact Bool.noConfusion hqi
          have hbi : zb_tb P i = hb := by
            rw [hq] at hqi
            simp at hqi
            exact hqi.2
          obtain ⟨o, eo, hbo⟩ := zi_turned P (k := n) (l := i) (by omega) (by omega)
          have ho : zb_tb o = fun x => zb_tb P x ^^ decide (x = n) ^^ decide (x = i) := funext hbo
          refine ⟨o, eo, ?_, ?_⟩
          · rw [hv, ← ho]
            refine zi_cost8 g1 g2 g5 g7 o (fun x hx => ?_)
            rw [hbo, hL.2 x hx, show decide (x = n) = false by simp; omega, show decide (x = i) = false by simp; omega]; rfl
          · rw [hv]
            refine zi_cost9 g2 g5 g6 (fun x hx => ?_)
            by_cases e1 : x = i
            · subst e1
              rw [pk_us, zi_flip, hbi]
              simp [hni]
            · rw [pk_un e1]
              by_cases e2 : x = n
              · subst e2
                rw [pk_us, hnb]
                simp [e1]
              · rw [pk_un e2, zi_planD hL hx]
                simp [e1, e2]
        obtain ⟨hi, ehi⟩ : ∃ hi : Nat, hi = min 55 (n + 14) := ⟨_, rfl⟩
        refine ⟨(zq_W q v (hi + 1)).1, ?_, ?_⟩
        · refine pe_b2 (zi_night8 _) (pe_ifn (zi_i1 h1) (pe_b2 (zi_house8 _) (pe_ifn (zi_i1 h2) (pe_b2 (zi_houseAt P (by omega)) (pe_ifn e0 (pe_b2 (a1 := (zq_W q v (hi + 1)).1) (a2 := ()) ?_ rfl))))))
          unfold fn_X8_cheapestReturn
          have x1 : (if nI n - 14 < 0 then 0 else nI n - 14) = nI (n - 14) := by
            have t := pk_sub_toInt (a := n) (b := 14) (by omega) (by decide)
            by_cases c : n < 14
            · rw [if_pos ((zi_ltc (c := 0) (C := 0) rfl).mpr (by rw [show (14 : Int32) = nI 14 from rfl, t]; omega)), show n - 14 = 0 by omega]; rfl
            · rw [if_neg (fun e => by have := (zi_ltc (c := 0) (C := 0) rfl).mp e; rw [show (14 : Int32) = nI 14 from rfl, t] at this; omega)]
              exact pk_sub (a := n) (b := 14) (by omega)
          have x2 : (if 55 < nI n + 14 then 55 else nI n + 14) = nI hi := by
            rw [show (14 : Int32) = nI 14 from rfl, nI_add, ehi]
            by_cases c : 55 < n + 14
            · rw [Nat.min_eq_left (by omega)]
              exact if_pos (nI_lt (a := 55) c (by omega))
            · rw [Nat.min_eq_right (by omega)]
              exact if_neg (nI_nlt (b := n + 14) (a := 55) (by omega) (by omega))
          refine pe_nm x1 (pe_nm x2 (pe_b1 (pe_itE (fun k => ((zq_W q v (n - 14 + k)).1, (zq_W q v (n - 14 + k)).2, nI (n - 14 + k))) (hi + 1 - (n - 14)) ?_ ?_ ?_ (by omega)) rfl))
          · rw [zq_W0 hlo _ (by omega)]; rfl
          · intro k hk
            have hk1 : n - 14 + k < 56 := by omega
            have hk2 : n - 14 + k ≤ hi := by omega
            show fb_X8_cheapestReturn_30 _ _ _ _ _ _ _ _ _ _ _ (nI (n - 14 + k)) = some (Sum.inl (_, _, nI (n - 14 + k + 1)))
            rw [show n - 14 + (k + 1) = n - 14 + k + 1 by omega]
            generalize ei : n - 14 + k = i at *
            have hw : n ≤ i + 14 ∧ i ≤ n + 14 ∧ i < 56 := by omega
            unfold fb_X8_cheapestReturn_30
            refine pe_ifn (nI_nlt hk2 (by omega)) (pe_b2 (zi_houseAt P (by omega)) ?_)
            by_cases hqi : q i = true
            · have hbi : zb_tb P i = hb := by
                rw [hq] at hqi
                simp at hqi
                exact hqi.2
              obtain ⟨o, k1, k2, -⟩ := key i hk1 hqi
              refine pe_if (by rw [hbi]) (pe_b2 k1 (pe_b2 k2 ?_))
              exact zq_Wy (f := fun z => some (Sum.inl (z.1, z.2, nI (i + 1)))) hqi (pe_nm (nI_1 i) rfl) (pe_nm (nI_1 i) rfl) (pe_nm (nI_1 i) rfl)
            · have hqf : q i = false := by simpa using hqi
              have hbi : ¬ zb_tb P i = hb := by
                intro e
                rw [hq, e] at hqf
                simp at hqf
                omega
              rw [zq_Wn hqf]
              exact pe_ifn (zi_ne01 hbi) (pe_nm (nI_1 i) rfl)
          · rw [show n - 14 + (hi + 1 - (n - 14)) = hi + 1 by omega]
            unfold fb_X8_cheapestReturn_30
            exact pe_if (nI_lt (by omega) (by omega)) rfl
        · obtain ⟨g, hg⟩ : ∃ g : Nat → Int32, g = upd mpl n (if hb = true then 1 else 0) := ⟨_, rfl⟩
          have xk : ∀ k : Nat, (nI n - 14) + nI k = nI (n + k) - 14 := fun k => by
            rw [← nI_add, Int32.sub_eq_add_neg, Int32.sub_eq_add_neg, Int32.add_assoc, Int32.add_assoc, Int32.add_comm (-14)]
          refine pe_b2 (zi_night9 _) (pe_ifn (zi_i1 h1) (pe_b2 (zi_house9 _) (pe_ifn (zi_i1 h2) (pe_chk (by omega) (by decide) (pe_ifn (by rw [cn, zi_planD hL (by omega)]; exact e0) (pe_chk (by omega) (by decide) (pe_nm (x := g) (by rw [cn, hg]) (pe_nm rfl (pe_b2 (a1 := (zq_W q v (hi + 1)).1) (a2 := g) ?_ (pe_chk (by omega) (by decide) (pe_nm (x := mpl) ?_ rfl)))))))))))
          · refine pe_itE (fun k => ((zq_W q v (n + k - 14)).1, (zq_W q v (n + k - 14)).2, nI n - 14 + nI k, g)) 29 ?_ ?_ ?_ (by decide)
            · rw [zq_W0 hlo _ (by omega), show nI 0 = (0 : Int32) from rfl, Int32.add_zero]
            · intro k hk
              have x3 : (nI n - 14 + nI k) + 1 = nI n - 14 + nI (k + 1) := by rw [Int32.add_assoc, nI_1]
              have t := pk_sub_toInt (a := n + k) (b := 14) (by omega) (by decide)
              have t' : (nI n - 14 + nI k).toInt = ((n + k : Nat) : Int) - 14 := by rw [xk]; exact t
              unfold fb_X9_wedding_48
              refine pe_ifn ?_ (pe_b2 (zi_night9 _) ?_)
              · intro e
                have e' := zi_lt.mp e
                rw [show (14 : Int32) = nI 14 from rfl, nI_add, nI_toInt (by omega)] at e'
                rw [show (nI 14 : Int32) = 14 from rfl, t'] at e'
                omega
              · by_cases c : 0 ≤ (nI n - 14 + nI k).toInt ∧ (nI n - 14 + nI k).toInt ≤ 55
                · refine pe_ifn (zi_i1 c) ?_
                  rw [t'] at c
                  have ex : nI n - 14 + nI k = nI (n + k - 14) := by rw [xk]; exact pk_sub (a := n + k) (b := 14) (by omega)
                  show _ = some (Sum.inl ((zq_W q v (n + (k + 1) - 14)).1, (zq_W q v (n + (k + 1) - 14)).2, nI n - 14 + nI (k + 1), g))
                  rw [← x3]
                  show (if nI n - 14 + nI k = nI n then _ else _) = _
                  rw [show n + (k + 1) - 14 = (n + k - 14) + 1 by omega]
                  have hi56 : n + k - 14 < 56 := by omega
                  have hw : n ≤ (n + k - 14) + 14 ∧ (n + k - 14) ≤ n + 14 ∧ n + k - 14 < 56 := by omega
                  dsimp only
                  rw [ex]
                  generalize n + k - 14 = i at *
                  have ci : (nI i).toNatClampNeg = i := nI_clamp (by omega)
                  by_cases ein : i = n
                  · rw [ein, zq_Wn hqn]
                    exact pe_if rfl (pe_nm rfl rfl)
                  · have gi : g i = if zb_tb P i = true then 1 else 0 := by rw [hg, pk_un ein]; exact zi_planD hL hi56
                    refine pe_ifn (fun e => ein ((nI_eq (by omega) (by omega)).mp e)) (pe_chk hi56 (by decide) ?_)
                    by_cases hqi : q i = true
                    · have hbi : zb_tb P i = hb := by
                        rw [hq] at hqi
                        simp at hqi
                        exact hqi.2
                      obtain ⟨o, -, -, k3⟩ := key i hi56 hqi
                      refine pe_if (by rw [ci, gi, hbi]) (pe_chk hi56 (by decide) (pe_nm (x := upd g i (1 - if hb = true then 1 else 0)) (by rw [ci]) (pe_b2 (a1 := v i) (a2 := ()) (by rw [hg]; exact k3) (pe_chk hi56 (by decide) (pe_nm (x := g) (by rw [ci]; exact zq_upd (by rw [gi, hbi])) ?_)))))
                      exact zq_Wy (f := fun z => some (Sum.inl (z.1, z.2, nI i + 1, g))) hqi (pe_nm rfl rfl) (pe_nm rfl rfl) (pe_nm rfl rfl)
                    · have hqf : q i = false := by simpa using hqi
                      have hbi : ¬ zb_tb P i = hb := by
                        intro e
                        rw [hq, e] at hqf
                        simp at hqf
                        omega
                      rw [zq_Wn hqf]
                      exact pe_ifn (by rw [ci, gi]; exact zi_ne01 hbi) (pe_nm rfl rfl)
                · refine pe_if (zi_i0 c) (pe_nm x3 ?_)
                  rw [t'] at c
                  by_cases c2 : n + k < 14
                  · rw [show n + k - 14 = 0 by omega, show n + (k + 1) - 14 = 0 by omega]
                  · rw [show n + (k + 1) - 14 = (n + k - 14) + 1 by omega, zq_Wn]
                    rw [hq, show decide (n ≤ n + k - 14 + 14 ∧ n + k - 14 ≤ n + 14 ∧ n + k - 14 < 56) = false by simp; omega]; rfl
            · unfold fb_X9_wedding_48
              refine pe_if ?_ ?_
              · show nI n + 14 < nI n - 14 + nI 29
                rw [xk, show nI (n + 29) - 14 = nI (n + 29 - 14) from pk_sub (a := n + 29) (b := 14) (by omega), show (14 : Int32) = nI 14 from rfl, nI_add]
                exact nI_lt (by omega) (by omega)
              · have : ∀ d, hi + 1 + d ≤ n + 15 → zq_W q v (hi + 1 + d) = zq_W q v (hi + 1) := by
                  intro d
                  induction d with
                  | zero => intro _; rfl
                  | succ d ih =>
                    intro hd
                    rw [← ih (by omega)]
                    refine zq_Wn (i := hi + 1 + d) ?_
                    rw [hq, show decide (n ≤ hi + 1 + d + 14 ∧ hi + 1 + d ≤ n + 14 ∧ hi + 1 + d < 56) = false from decide_eq_false (by omega)]; rfl
                have t := this (n + 15 - (hi + 1)) (by omega)
                rw [show hi + 1 + (n + 15 - (hi + 1)) = n + 29 - 14 by omega] at t
                show some (Sum.inr ((zq_W q v (n + 29 - 14)).1, g)) = _
                rw [t]
          · rw [cn, hg, zi_flip, ← hnb]
            exact zq_upd (zi_planD hL (by omega))
    · exact ⟨-1, pe_b2 (zi_night8 _) (pe_ifn (zi_i1 h1) (pe_b2 (zi_house8 _) (pe_if (zi_i0 h2) rfl))), pe_b2 (zi_night9 _) (pe_ifn (zi_i1 h1) (pe_b2 (zi_house9 _) (pe_if (zi_i0 h2) rfl)))⟩
  · exact ⟨-1, pe_b2 (zi_night8 _) (pe_if (zi_i0 h1) rfl), pe_b2 (zi_night9 _) (pe_if (zi_i0 h1) rfl)⟩
