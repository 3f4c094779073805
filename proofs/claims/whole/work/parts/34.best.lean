/-! best, bestAt, take, then -/
theorem zi_price_le {wn wh ww : Nat → Int32} {n h : Nat} : ∀ {w : Nat}, (∀ k, k < w → zi_g ww k ≤ 9) → zi_price wn wh ww n h w ≤ 9 * w
  | 0, _ => Nat.le_refl _
  | w + 1, H => by
    have ih := zi_price_le (wn := wn) (wh := wh) (ww := ww) (n := n) (h := h) (w := w) (fun k hk => H k (by omega))
    have h9 := H w (by omega)
    rw [zi_price]
    split <;> omega
theorem zd_some (h : Nat → Nat) (mv : Bool) (k : Nat) : zd_ok h mv k 0 = true ∨ zd_ok h mv k 1 = true := by
  unfold zd_ok
  by_cases c : (mv && zc_sch k) = true
  · rw [if_pos c]; exact Or.inl rfl
  · rw [if_neg c, if_neg c]
    by_cases c1 : zw_of (h k) = 0
    · left; simp [c1]
    · right
      by_cases c2 : zw_of (h k) = 1
      · simp [c2]
      · simp; omega
theorem zd_0 {h : Nat → Nat} (h4 : ∀ i, h i < 4) (mv : Bool) (k : Nat) : (decide (h k = 2) && !(mv && zc_sch k)) = !zd_ok h mv k 0 := by
  unfold zd_ok
  have key : ∀ a, a < 4 → decide (a = 2) = !(decide (1 < zw_of a) || decide (zw_of a = 0)) := by decide
  rw [key _ (h4 k)]
  cases (mv && zc_sch k) <;> simp
theorem zd_1 {h : Nat → Nat} (h4 : ∀ i, h i < 4) (mv : Bool) (k : Nat) : (decide (h k = 1) || (mv && zc_sch k)) = !zd_ok h mv k 1 := by
  unfold zd_ok
  have key : ∀ a, a < 4 → decide (a = 1) = !(decide (1 < zw_of a) || decide (zw_of a = 1)) := by decide
  rw [key _ (h4 k)]
  cases (mv && zc_sch k) <;> simp
theorem pf_core {y my size : Int32} {ranks turns byRank : Nat → Int32} {told ones : Nat → Int64} {mp mm : Nat → Int32} {lo pl ph wa : Int32} {ag : Nat → Int32} {mo ab ha mw : Int32} {wn wh ww : Nat → Int32} (hY : zi_year y my) (hP : zi_paper size ranks told ones turns byRank mp mm 0) (hW : zi_wishes lo pl ph wa ag mo ab ha mw wn wh ww) (w0 : Int32) (g0 ah be c0 : Nat → Int32) (q0 : Nat → Int64) : ∃ Z O F, fn_X8_readPaper y size byRank ones ranks told turns = some (Z, O, F) ∧ ∀ (mv : Bool) (p2 p4 : Int64), (∀ n, n < 56 → zb_tb p4 n = (zb_tb O n && !(mv && zc_sch n))) → (∀ n, n < 56 → zb_tb p2 n = (zb_tb Z n || (mv && zc_sch n))) → ∃ r X g q w1 ah' be' gw, fn_X3_find lo pl ph ag c0 q0 p2 p4 = some (r, X, g, q) ∧ fn_X9_layBest my w0 mo ab ha mw ah be mm mp wh wn ww g0 (if mv = true then 1 else 0) = some (r, w1, ah', be', gw) ∧ zi_plan X be' 0 := by
  obtain ⟨h, h4, ⟨Z, O, F, e0, hb⟩, -, hlay⟩ := pf_read hY hP
  obtain ⟨m, a, j, w, g1, g2, g3, g4, g5, rfl, rfl, rfl, rfl, rfl, rfl, rfl, rfl, g6, g7⟩ := hW
  obtain ⟨w1, gw, el, hg⟩ := hlay w0 g0
  refine ⟨Z, O, F, e0, fun mv p2 p4 hp4 hp2 => ?_⟩
  obtain ⟨K, eK⟩ : ∃ K : zs_T, K = ((fun n b => zd_ok h mv n (zc_b b)), (fun n b => zi_price wn wh ww n b w), m, a, j) := ⟨_, rfl⟩
  have k1 : m = zs_m K := by rw [eK]; rfl
  have k2 : a = zs_a K := by rw [eK]; rfl
  have k3 : j = zs_j K := by rw [eK]; rfl
  have k4 : ∀ n b, zs_ok K n b = zd_ok h mv n (zc_b b) := fun n b => by rw [eK]; rfl
  have k5 : ∀ n b, zs_pr K n b = zi_price wn wh ww n b w := fun n b => by rw [eK]; rfl
  have gd : zs_G K := by
    refine ⟨by omega, by omega, by omega, by omega, fun n b => ?_, fun n hn => ?_⟩
    · rw [k5]
      have := zi_price_le (wn := wn) (wh := wh) (ww := ww) (n := n) (h := b) (w := w) (fun k hk => (g6 k hk).2.2.2.2.2)
      omega
    · rw [k4, k4]; exact zd_some h mv n
  have hQ : zs_Q K (nI w) wh wn ww gw (if mv = true then 1 else 0) := by
    refine ⟨fun n b hn => ?_, fun n b hn => ?_⟩
    · rw [k4]; exact zi_mayBe h4 hn (zc_b2 b) (hg n hn) mv
    · rw [k5]; exact zi_unwanted g5 g6 (by omega) (by have := zc_b2 b; omega)
  obtain ⟨X, g, q, ef, hX⟩ := zs_find gd (ag := ag) (p2 := p2) (p4 := p4) (fun n b hn hb => by rw [k5]; exact g7 n b hn hb) (fun n hn => by rw [hp4 n hn, ((hb n).1 hn).2.1, k4]; exact zd_0 h4 mv n) (fun n hn => by rw [hp2 n hn, ((hb n).1 hn).1, k4]; exact zd_1 h4 mv n) c0 q0
  obtain ⟨ah', be', eb, hbe⟩ := zs_lay gd hQ el ah be
  rw [← k1, ← k2, ← k3] at ef eb
  refine ⟨_, X, g, q, w1, ah', be', gw, ef, eb, fun i hi => ?_, fun i hi => ?_⟩
  · rw [Nat.zero_add, hbe i hi, hX]
  · rw [hX]; exact zs_P0 56 (Nat.le_refl _) _ _ _ (Or.inr hi)
theorem pf_fbest {y my size : Int32} {ranks turns byRank : Nat → Int32} {told ones : Nat → Int64} {mp mm : Nat → Int32} {lo pl ph wa : Int32} {ag : Nat → Int32} {mo ab ha mw : Int32} {wn wh ww : Nat → Int32} (hY : zi_year y my) (hP : zi_paper size ranks told ones turns byRank mp mm 0) (hW : zi_wishes lo pl ph wa ag mo ab ha mw wn wh ww) (w0 : Int32) (g0 ah be c0 : Nat → Int32) (q0 : Nat → Int64) : ∃ r X g q Z O F w1 ah' be' gw, fn_X8_findBest y size byRank ones ranks told turns c0 q0 lo pl ph ag = some (r, X, g, q, Z, O, F) ∧ fn_X9_layBest my w0 mo ab ha mw ah be mm mp wh wn ww g0 0 = some (r, w1, ah', be', gw) ∧ zi_plan X be' 0 := by
  obtain ⟨Z, O, F, e0, hall⟩ := pf_core hY hP hW w0 g0 ah be c0 q0
  obtain ⟨r, X, g, q, w1, ah', be', gw, e1, e2, hX⟩ := hall false Z O (fun n _ => by simp) (fun n _ => by simp)
  exact ⟨r, X, g, q, Z, O, F, w1, ah', be', gw, pe_b3 e0 (pe_b4 e1 rfl), e2, hX⟩
theorem pf_best {y my size : Int32} {ranks turns byRank : Nat → Int32} {told ones : Nat → Int64} {mp mm : Nat → Int32} {lo pl ph wa : Int32} {ag : Nat → Int32} {mo ab ha mw : Int32} {wn wh ww : Nat → Int32} (hY : zi_year y my) (hP : zi_paper size ranks told ones turns byRank mp mm 0) (hW : zi_wishes lo pl ph wa ag mo ab ha mw wn wh ww) (w0 : Int32) (g0 ah be c0 : Nat → Int32) (q0 : Nat → Int64) : ∃ r o1 o2 o3 o4 o5 o6 o7 w1 w2 w3 w4, fn_X8_best y size byRank ones ranks told turns c0 q0 lo pl ph ag = some (r, o1, o2, o3, o4, o5, o6, o7) ∧ fn_X9_best my w0 mo ab ha mw ah be mm mp wh wn ww g0 = some (r, w1, w2, w3, w4) := by
  obtain ⟨r, X, g, q, Z, O, F, w1, ah', be', gw, e1, e2, -⟩ := pf_fbest hY hP hW w0 g0 ah be c0 q0
  exact ⟨r, r, X, g, q, Z, O, F, w1, ah', be', gw, pe_b7 e1 rfl, pe_b5 e2 rfl⟩
theorem pf_bestAt {y my size : Int32} {ranks turns byRank : Nat → Int32} {told ones : Nat → Int64} {mp mm : Nat → Int32} {lo pl ph wa : Int32} {ag : Nat → Int32} {mo ab ha mw : Int32} {wn wh ww : Nat → Int32} (hY : zi_year y my) (hP : zi_paper size ranks told ones turns byRank mp mm 0) (hW : zi_wishes lo pl ph wa ag mo ab ha mw wn wh ww) (w0 : Int32) (g0 ah be c0 : Nat → Int32) (q0 : Nat → Int64) (lc : Int32) (bp z o f : Int64) (p1 : Int32) : ∃ r o1 o2 o3 o4 o5 o6 o7 w1 w2 w3 w4, fn_X8_bestAt y size byRank ones ranks told turns lc bp c0 q0 z o f lo pl ph ag p1 = some (r, o1, o2, o3, o4, o5, o6, o7) ∧ fn_X9_bestAt my w0 mo ab ha mw ah be mm mp wh wn ww g0 p1 = some (r, w1, w2, w3, w4) := by
  obtain ⟨r, X, g, q, Z, O, F, w1, ah', be', gw, e1, e2, hX⟩ := pf_fbest hY hP hW w0 g0 ah be c0 q0
  unfold fn_X8_bestAt fn_X9_bestAt
  by_cases h1 : 0 ≤ p1.toInt ∧ p1.toInt ≤ 55
  · obtain ⟨n, hn, rfl⟩ := zi_rng (B := 55) h1.1 h1.2 (by decide)
    refine ⟨_, r, X, g, q, Z, O, F, w1, ah', be', gw, pe_b2 (zi_night8 _) (pe_ifn (zi_i1 h1) (pe_b7 e1 (pe_b2 (zi_houseAt X (by omega)) rfl))), pe_b2 (zi_night9 _) (pe_ifn (zi_i1 h1) (pe_b5 e2 (pe_chk (by omega) (by decide) ?_)))⟩
    rw [nI_clamp (by omega), zi_planD hX (by omega)]
  · exact ⟨-1, lc, bp, c0, q0, z, o, f, w0, ah, be, g0, pe_b2 (zi_night8 _) (pe_if (zi_i0 h1) rfl), pe_b2 (zi_night9 _) (pe_if (zi_i0 h1) rfl)⟩
theorem pf_take {y my size : Int32} {ranks turns byRank : Nat → Int32} {told ones : Nat → Int64} {mp mm : Nat → Int32} {lo pl ph wa : Int32} {ag : Nat → Int32} {mo ab ha mw : Int32} {wn wh ww : Nat → Int32} {P : Int64} {mpl : Nat → Int32} (hY : zi_year y my) (hP : zi_paper size ranks told ones turns byRank mp mm 0) (hW : zi_wishes lo pl ph wa ag mo ab ha mw wn wh ww) (hL : zi_plan P mpl 0) (w0 : Int32) (g0 ah be c0 : Nat → Int32) (q0 : Nat → Int64) : ∃ r o1 o2 o3 o4 o5 o6 o7 o8 w1 w2 w3 w4 w5, fn_X8_take y P size byRank ones ranks told turns c0 q0 lo pl ph ag = some (r, o1, o2, o3, o4, o5, o6, o7, o8) ∧ fn_X9_take my w0 mo ab ha mw ah be mm mp mpl wh wn ww g0 = some (r, w1, w2, w3, w4, w5) ∧ zi_plan o1 w4 0 := by
  obtain ⟨r, X, g, q, Z, O, F, w1, ah', be', gw, e1, e2, hX⟩ := pf_fbest hY hP hW w0 g0 ah be c0 q0
  have hct : zb_ct (zb_tb (P ^^^ X)) 64 = zb_ct (fun i => zb_tb P i ^^ zb_tb X i) 56 := by
    rw [zb_ct_cut (fun i hi => by rw [zb_xor, hL.2 i hi, hX.2 i hi]; rfl)]
    exact zb_ct_cong (fun i _ => zb_xor _ _ _)
  have el : zz_it (fun z => fb_X9_take_10 be' z.1 z.2.1 z.2.2) zz_fuel (0, 0, mpl) = some (nI (zb_ct (fun i => zb_tb P i ^^ zb_tb X i) 56), fun i => if i < 56 then be' i else mpl i) := by
    refine pe_itE (fun k => (nI (zb_ct (fun i => zb_tb P i ^^ zb_tb X i) k), nI k, fun i => if i < k then be' i else mpl i)) 56 ?_ ?_ ?_ (by decide)
    · rw [zi_fill0]; rfl
    · intro k hk
      have ck : (nI k).toNatClampNeg = k := nI_clamp (by omega)
      unfold fb_X9_take_10
      refine pe_ifn (nI_ge (b := 56) hk (by decide)) (pe_chk hk (by decide) (pe_chk hk (by decide) (pe_b1 (a1 := nI (zc_b (zb_tb P k ^^ zb_tb X k))) ?_ (pe_nm (nI_add _ _) (pe_chk hk (by decide) (pe_chk hk (by decide) (pe_nm (by rw [ck]; exact zi_fill mpl be' k) (pe_nm (nI_1 k) rfl))))))))
      show (if (if (nI k).toNatClampNeg < k then be' (nI k).toNatClampNeg else mpl (nI k).toNatClampNeg) = be' (nI k).toNatClampNeg then some (0 : Int32) else some 1) = _
      rw [ck, if_neg (Nat.lt_irrefl k), zi_planD hL hk, zi_planD hX hk]
      cases zb_tb P k <;> cases zb_tb X k <;> rfl
    · unfold fb_X9_take_10
      exact pe_if (Int32.le_refl _) rfl
  refine ⟨_, X, r, X, g, q, Z, O, F, w1, ah', be', (fun i => if i < 56 then be' i else mpl i), gw, pe_b7 e1 (pe_b2 (zb_bc _) rfl), pe_b5 e2 (pe_b2 el ?_), fun i hi => ?_, hX.2⟩
  · rw [hct]
  · rw [Nat.zero_add]; exact (if_pos hi).trans (zi_planD hX hi)
theorem pf_then {y my size : Int32} {ranks turns byRank : Nat → Int32} {told ones : Nat → Int64} {mp mm : Nat → Int32} {lo pl ph wa : Int32} {ag : Nat → Int32} {mo ab ha mw : Int32} {wn wh ww : Nat → Int32} (hY : zi_year y my) (hP : zi_paper size ranks told ones turns byRank mp mm 0) (hW : zi_wishes lo pl ph wa ag mo ab ha mw wn wh ww) (w0 : Int32) (g0 ah be c0 : Nat → Int32) (q0 : Nat → Int64) (lc : Int32) (bp z o f : Int64) (p1 : Int32) : ∃ r o1 o2 o3 o4 o5 o6 o7 w1 w2 w3 w4, fn_X8_then y size byRank ones ranks told turns lc bp c0 q0 z o f lo pl ph ag p1 = some (r, o1, o2, o3, o4, o5, o6, o7) ∧ fn_X9_then my w0 mo ab ha mw ah be mm mp wh wn ww g0 p1 = some (r, w1, w2, w3, w4) := by
  obtain ⟨Z, O, F, e0, hall⟩ := pf_core hY hP hW w0 g0 ah be c0 q0
  unfold fn_X8_then fn_X9_then
  by_cases h1 : 0 ≤ p1.toInt ∧ p1.toInt ≤ 99
  · have q1 : ¬ p1 < 0 := fun e => by have := (zi_ltc (c := 0) (C := 0) rfl).mp e; omega
    have q2 : p1 ≤ 99 := (zi_lec (c := 99) (C := 99) (by decide)).mpr h1.2
    by_cases c : p1 ≤ 45
    · obtain ⟨r, X, g, q, w1, ah', be', gw, e1, e2, -⟩ := hall false (Z ||| 0) (O &&& (0 ^^^ (-1))) (fun n hn => by rw [zb_and, zb_not _ (by omega), zb_0]; simp) (fun n hn => by rw [zb_or, zb_0]; simp)
      exact ⟨r, r, X, g, q, Z, O, F, w1, ah', be', gw, pe_ifn q1 (pe_if q2 (pe_b2 (pe_if c rfl) (pe_b3 e0 (pe_b4 e1 rfl)))), pe_b2 (zi_in _ (A := 0) (B := 99) (by decide) (by decide)) (pe_ifn (zi_i1 h1) (pe_b1 (a1 := 0) (pe_if c rfl) (pe_b5 e2 rfl)))⟩
    · obtain ⟨r, X, g, q, w1, ah', be', gw, e1, e2, -⟩ := hall true (Z ||| 44823227787372495) (O &&& (44823227787372495 ^^^ (-1))) (fun n hn => by rw [zb_and, zb_not _ (by omega), zb_sch]; simp [hn]) (fun n hn => by rw [zb_or, zb_sch]; simp [hn])
      exact ⟨r, r, X, g, q, Z, O, F, w1, ah', be', gw, pe_ifn q1 (pe_if q2 (pe_b2 (pe_ifn c rfl) (pe_b3 e0 (pe_b4 e1 rfl)))), pe_b2 (zi_in _ (A := 0) (B := 99) (by decide) (by decide)) (pe_ifn (zi_i1 h1) (pe_b1 (a1 := 1) (pe_ifn c rfl) (pe_b5 e2 rfl)))⟩
  · refine ⟨-2, lc, bp, c0, q0, z, o, f, w0, ah, be, g0, ?_, pe_b2 (zi_in _ (A := 0) (B := 99) (by decide) (by decide)) (pe_if (zi_i0 h1) rfl)⟩
    by_cases c : p1 < 0
    · exact pe_if c rfl
    · have c' : ¬ p1 ≤ 99 := fun e => by
        have a1 := (zi_lec (c := 99) (C := 99) (by decide)).mp e
        have a2 : ¬ p1.toInt < 0 := fun e => c ((zi_ltc (c := 0) (C := 0) rfl).mpr e)
        omega
      exact pe_ifn c (pe_ifn c' rfl)
