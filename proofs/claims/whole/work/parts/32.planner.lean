/-! the class's planner -/
def zs_E (K : zs_T) (d : Nat) (g : Nat → Int32) (q : Nat → Int64) (r : Nat) : Prop := (g r = nI (zs_V K d false r) ∧ ∀ i, zb_tb (q r) i = zs_P K d false r i) ∧ (g (15 + r) = nI (zs_V K d true r) ∧ ∀ i, zb_tb (q (15 + r)) i = zs_P K d true r i)
theorem zs_pl0 (r : Nat) : fn_X3_placeOf 0 (nI r) = some (nI r, ()) := by
  unfold fn_X3_placeOf
  rw [show (0 : Int32) * 15 = nI 0 from rfl, nI_add, Nat.zero_add]
theorem zs_pl1 (r : Nat) : fn_X3_placeOf 1 (nI r) = some (nI (15 + r), ()) := by
  unfold fn_X3_placeOf
  rw [show (1 : Int32) * 15 = nI 15 from rfl, nI_add]
theorem zs_pick {K : zs_T} {d : Nat} {b c : Bool} {r : Nat} {x : Int64} (hd : d < 56) (h1 : 1 ≤ r) (hr : r ≤ zs_m K) (hc : zs_c K d b r = c) (hx : ∀ i, zb_tb x i = ((c && decide (i = 55 - d)) || (if c = b then zs_P K d b (zs_nx K r) i else zs_P K d c 1 i))) (i : Nat) : zb_tb x i = zs_P K (d + 1) b r i := by
  rw [hx, zs_P, hc]
  have hz : ∀ b' r', zs_P K d b' r' (55 - d) = false := fun b' r' => zs_P0 d (by omega) b' r' _ (by omega)
  by_cases e : i = 55 - d
  · subst e
    rw [if_pos rfl, hz, hz]
    cases c <;> simp
  · rw [if_neg e, decide_eq_false e, Bool.and_false, Bool.false_or]
    by_cases ec : c = b
    · subst ec
      rw [if_pos rfl]
      exact ((zs_Vnx h1 hr).2.1 i).symm
    · rw [if_neg ec]
      have : zs_nw K b r c = 1 := by
        unfold zs_nw
        rw [if_neg (by omega), if_neg ec]
      rw [this]
theorem zs_body {K : zs_T} (gd : zs_G K) {d : Nat} (hd : d < 56) {g : Nat → Int32} {q : Nat → Int64} {r : Nat} (h1 : 1 ≤ r) (hr : r ≤ zs_m K) (hE : zs_E K d g q (zs_nx K r)) {x15 x20 : Int64} (hx15 : ∀ i, zb_tb x15 i = zs_P K d false 1 i) (hx20 : ∀ i, zb_tb x20 i = (decide (i = 55 - d) || zs_P K d true 1 i)) :
    ∃ p0 p1, fb_X3_stepAhead_75 (nI (55 - d)) (nI (zs_pc K (55 - d) false)) (nI (zs_pc K (55 - d) true)) (nI (zs_pc K (55 - d) false + zs_V K d false 1)) (nI (zs_pc K (55 - d) true + zs_V K d true 1)) x15 x20 (nI (zs_a K)) (nI (zs_j K)) (nI (zs_m K)) (nI r) g q = some (.inl (nI (r + 1), upd (upd g r (nI (zs_V K (d + 1) false r))) (15 + r) (nI (zs_V K (d + 1) true r)), vp_updL (vp_updL q r p0) (15 + r) p1)) ∧ (∀ i, zb_tb p0 i = zs_P K (d + 1) false r i) ∧ ∀ i, zb_tb p1 i = zs_P K (d + 1) true r i := by
  obtain ⟨a1, a2, a3, a4, a5, a6⟩ := zs_stb gd (d := d) (b := false) (r := r) hd
  obtain ⟨b1, b2, b3, b4, b5, b6⟩ := zs_stb gd (d := d) (b := true) (r := r) hd
  obtain ⟨c0, v0⟩ := zs_step0 gd hd h1 hr
  obtain ⟨c1, v1⟩ := zs_step1 gd hd h1 hr
  obtain ⟨⟨e1, e2⟩, e3, e4⟩ := hE
  have hm14 := gd.2.1
  have hnx : zs_nx K r ≤ 14 := by unfold zs_nx; split <;> omega
  have y152 : (if nI (zs_m K) < nI r + 1 then nI (zs_m K) else nI r + 1) = nI (zs_nx K r) := by
    rw [nI_1]
    unfold zs_nx
    by_cases q : r = zs_m K
    · rw [if_pos (nI_lt (by omega) (by omega)), if_pos q, q]
    · rw [if_neg (nI_nlt (by omega) (by omega)), if_neg q]
  have y154 : (if nI r = nI (zs_m K) then some (nI (zs_a K)) else some 0) = some (nI (zs_mo K r)) := by
    unfold zs_mo
    by_cases q : r = zs_m K
    · rw [if_pos (by rw [q]), if_pos q]
    · rw [if_neg (fun e => q ((nI_eq (by omega) (by omega)).mp e)), if_neg q]; rfl
  have cx : (nI (zs_nx K r)).toNatClampNeg = zs_nx K r := nI_clamp (by omega)
  have cx15 : (nI (15 + zs_nx K r)).toNatClampNeg = 15 + zs_nx K r := nI_clamp (by omega)
  have cr : (nI r).toNatClampNeg = r := nI_clamp (by omega)
  have cr15 : (nI (15 + r)).toNatClampNeg = 15 + r := nI_clamp (by omega)
  have y166 : (nI (zs_pc K (55 - d) false) + nI (zs_mo K r)) + g (nI (zs_nx K r)).toNatClampNeg = nI (zs_st K d false r) := by rw [cx, e1, nI_add, nI_add]; rfl
  have y171 : (nI (zs_pc K (55 - d) true) + nI (zs_mo K r)) + g (nI (15 + zs_nx K r)).toNatClampNeg = nI (zs_st K d true r) := by rw [cx15, e3, nI_add, nI_add]; rfl
  have yt1 : nI (zs_pc K (55 - d) true + zs_V K d true 1) + nI (zs_j K) = nI (zs_tu K d true) := nI_add _ _
  have yt0 : nI (zs_pc K (55 - d) false + zs_V K d false 1) + nI (zs_j K) = nI (zs_tu K d false) := nI_add _ _
  have bits176 : ∀ i, zb_tb (q (15 + zs_nx K r) ||| ((1 : Int64) <<< ((nI (55 - d)).toInt64 &&& 63))) i = (decide (i = 55 - d) || zs_P K d true (zs_nx K r) i) := by
    intro i
    rw [zb_or, zb_one (by omega), e4, Bool.or_comm]
  have p0 : ∃ p0, (if (if zs_tu K d true < zs_st K d false r then (0 : Int32) else 1) = 0 then some x20 else zz_b2 (fn_X3_placeOf (0 : Int32) (nI (zs_nx K r))) (fun x209 u210 => zz_chk x209 30 (some (q x209.toNatClampNeg)))) = some p0 ∧ ∀ i, zb_tb p0 i = zs_P K (d + 1) false r i := by
    by_cases c : zs_tu K d true < zs_st K d false r
    · refine ⟨x20, pe_if (by rw [if_pos c]) rfl, zs_pick (c := true) hd h1 hr (by rw [c0]; exact decide_eq_true c) (fun i => by rw [hx20]; simp)⟩
    · refine ⟨q (zs_nx K r), pe_ifn (by rw [if_neg c]; decide) (pe_b2 (zs_pl0 _) (pe_chk (by omega) (by decide) (by rw [cx]))), zs_pick (c := false) hd h1 hr (by rw [c0]; exact decide_eq_false c) (fun i => by rw [e2]; simp)⟩
  have p1 : ∃ p1, (∀ i, zb_tb p1 i = zs_P K (d + 1) true r i) ∧ p1 = if zs_st K d true r < zs_tu K d false then (q (15 + zs_nx K r) ||| ((1 : Int64) <<< ((nI (55 - d)).toInt64 &&& 63))) else x15 := by
    by_cases c : zs_st K d true r < zs_tu K d false
    · refine ⟨_, ?_, (if_pos c).symm⟩
      exact zs_pick (c := true) hd h1 hr (by rw [c1]; exact decide_eq_true c) (fun i => by rw [bits176]; simp)
    · refine ⟨_, ?_, (if_neg c).symm⟩
      exact zs_pick (c := false) hd h1 hr (by rw [c1]; exact decide_eq_false c) (fun i => by rw [hx15]; simp)
  obtain ⟨p0, ep0, bp0⟩ := p0
  obtain ⟨p1, bp1, ep1⟩ := p1
  refine ⟨p0, p1, ?_, bp0, bp1⟩
  unfold fb_X3_stepAhead_75
  refine pe_ifn (nI_nlt hr (by omega)) (pe_nm y152 (pe_b1 y154 (pe_b2 (zs_pl0 _) (pe_b2 (zs_pl1 _) (pe_b2 (zs_pl0 _) (pe_chk (by omega) (by decide) (pe_nm y166 (pe_b2 (zs_pl1 _) (pe_chk (by omega) (by decide) (pe_nm y171 (pe_b2 (zs_pl1 _) (pe_chk (by omega) (by decide) (pe_nm (by rw [cx15]) (pe_b1 (a1 := if zs_tu K d true < zs_st K d false r then (0 : Int32) else 1) ?_ (pe_b1 (a1 := nI (zs_V K (d + 1) false r)) ?_ (pe_chk (by omega) (by decide) (pe_nm (by rw [cr]) (pe_b1 ep0 (pe_chk (by omega) (by decide) (pe_nm (by rw [cr]) (pe_b1 (a1 := if zs_st K d true r < zs_tu K d false then (0 : Int32) else 1) ?_ (pe_b1 (a1 := nI (zs_V K (d + 1) true r)) ?_ (pe_chk (by omega) (by decide) (pe_nm (by rw [cr15]) ?_))))))))))))))))))))))))
  · rw [yt1]
    by_cases c : zs_tu K d true < zs_st K d false r
    · exact pe_if (nI_lt c (by omega)) (by rw [if_pos c])
    · exact pe_ifn (nI_nlt (by omega) (by omega)) (by rw [if_neg c])
  · rw [yt1, v0]
    by_cases c : zs_tu K d true < zs_st K d false r
    · exact pe_if (by rw [if_pos c]) (by rw [if_pos c])
    · exact pe_ifn (by rw [if_neg c]; decide) (by rw [if_neg c])
  · rw [yt0]
    by_cases c : zs_st K d true r < zs_tu K d false
    · exact pe_if (nI_lt c (by omega)) (by rw [if_pos c])
    · exact pe_ifn (nI_nlt (by omega) (by omega)) (by rw [if_neg c])
  · rw [yt0, v1]
    by_cases c : zs_st K d true r < zs_tu K d false
    · exact pe_if (by rw [if_pos c]) (by rw [if_pos c])
    · exact pe_ifn (by rw [if_neg c]; decide) (by rw [if_neg c])
  · by_cases c : zs_st K d true r < zs_tu K d false
    · rw [if_pos c] at ep1
      refine pe_if (by rw [if_pos c]) (pe_chk (by omega) (by decide) (pe_nm (x := vp_updL (vp_updL q r p0) (15 + r) p1) (by rw [cr15, ep1]) (pe_nm (nI_1 r) rfl)))
    · rw [if_neg c] at ep1
      refine pe_ifn (by rw [if_neg c]; decide) (pe_chk (by omega) (by decide) (pe_nm (x := vp_updL (vp_updL q r p0) (15 + r) p1) (by rw [cr15, ep1]) (pe_nm (nI_1 r) rfl)))
theorem zs_ahead {K : zs_T} (gd : zs_G K) {d : Nat} (hd : d < 56) {g : Nat → Int32} {q : Nat → Int64} (hE : ∀ r, 1 ≤ r → r ≤ zs_m K → zs_E K d g q r) : ∃ g' q', fn_X3_stepAhead (nI (zs_m K)) (nI (zs_a K)) (nI (zs_j K)) g q (nI (55 - d)) (nI (zs_pc K (55 - d) false)) (nI (zs_pc K (55 - d) true)) = some (g', q') ∧ ∀ r, 1 ≤ r → r ≤ zs_m K → zs_E K (d + 1) g' q' r := by
  have hm1 := gd.1
  have hm14 := gd.2.1
  obtain ⟨⟨e1, e2⟩, e3, e4⟩ := hE 1 (by omega) hm1
  have x21 : (if 1 < (if 14 < nI (zs_m K) then 14 else nI (zs_m K)) then (if 14 < nI (zs_m K) then 14 else nI (zs_m K)) else 1) = nI (zs_m K) := by
    rw [if_neg (show ¬ 14 < nI (zs_m K) from nI_nlt (a := 14) (by omega) (by decide))]
    by_cases c : zs_m K = 1
    · rw [c]; rfl
    · exact if_pos (nI_lt (a := 1) (by omega) (by omega))
  have hx20 : ∀ i, zb_tb (q (15 + 1) ||| ((1 : Int64) <<< ((nI (55 - d)).toInt64 &&& 63))) i = (decide (i = 55 - d) || zs_P K d true 1 i) := by
    intro i
    rw [zb_or, zb_one (by omega), e4, Bool.or_comm]
  obtain ⟨⟨g', q'⟩, ei, hI⟩ := pe_itI (b := fun z => fb_X3_stepAhead_75 (nI (55 - d)) (nI (zs_pc K (55 - d) false)) (nI (zs_pc K (55 - d) true)) (nI (zs_pc K (55 - d) false + zs_V K d false 1)) (nI (zs_pc K (55 - d) true + zs_V K d true 1)) (q 1) (q (15 + 1) ||| ((1 : Int64) <<< ((nI (55 - d)).toInt64 &&& 63))) (nI (zs_a K)) (nI (zs_j K)) (nI (zs_m K)) z.1 z.2.1 z.2.2) (s0 := (1, g, q)) (fun t st => ∃ g' q', st = (nI (t + 1), g', q') ∧ ∀ r, 1 ≤ r → r ≤ zs_m K → (r ≤ t → zs_E K (d + 1) g' q' r) ∧ (t < r → zs_E K d g' q' r)) (zs_m K) (fun r => ∀ k, 1 ≤ k → k ≤ zs_m K → zs_E K (d + 1) r.1 r.2 k) ⟨g, q, rfl, fun r h1 h2 => ⟨fun h => absurd h (by omega), fun _ => hE r h1 h2⟩⟩ (by
    intro t st ht ⟨g', q', e, hI⟩
    subst e
    have hnx : t < zs_nx K (t + 1) ∧ zs_nx K (t + 1) ≤ zs_m K := by unfold zs_nx; split <;> omega
    obtain ⟨p0, p1, eb, bp0, bp1⟩ := zs_body gd hd (r := t + 1) (by omega) (by omega) ((hI (zs_nx K (t + 1)) (by omega) hnx.2).2 hnx.1) e2 hx20
    refine ⟨_, eb, _, _, rfl, fun r h1 h2 => ⟨fun h => ?_, fun h => ?_⟩⟩
    · by_cases er : r = t + 1
      · subst er
        refine ⟨⟨?_, fun i => ?_⟩, ?_, fun i => ?_⟩
        · rw [pk_un (by omega), pk_us]
        · rw [pk_uLn (by omega), pk_uLs, bp0]
        · rw [pk_us]
        · rw [pk_uLs, bp1]
      · obtain ⟨⟨f1, f2⟩, f3, f4⟩ := (hI r h1 h2).1 (by omega)
        refine ⟨⟨?_, fun i => ?_⟩, ?_, fun i => ?_⟩
        · rw [pk_un (by omega), pk_un (by omega), f1]
        · rw [pk_uLn (by omega), pk_uLn (by omega), f2]
        · rw [pk_un (by omega), pk_un (by omega), f3]
        · rw [pk_uLn (by omega), pk_uLn (by omega), f4]
    · obtain ⟨⟨f1, f2⟩, f3, f4⟩ := (hI r h1 h2).2 (by omega)
      refine ⟨⟨?_, fun i => ?_⟩, ?_, fun i => ?_⟩
      · rw [pk_un (by omega), pk_un (by omega), f1]
      · rw [pk_uLn (by omega), pk_uLn (by omega), f2]
      · rw [pk_un (by omega), pk_un (by omega), f3]
      · rw [pk_uLn (by omega), pk_uLn (by omega), f4]) (by
    intro st ⟨g', q', e, hI⟩
    subst e
    refine ⟨(g', q'), ?_, fun k h1 h2 => (hI k h1 h2).1 h2⟩
    show fb_X3_stepAhead_75 _ _ _ _ _ _ _ _ _ _ (nI (zs_m K + 1)) g' q' = _
    unfold fb_X3_stepAhead_75
    exact pe_if (nI_lt (by omega) (by omega)) rfl) (by omega)
  refine ⟨g', q', ?_, hI⟩
  unfold fn_X3_stepAhead
  refine pe_b2 (zs_pl0 1) (pe_chk (i := 1) (by decide) (by decide) (pe_nm (x := nI (zs_pc K (55 - d) false + zs_V K d false 1)) ?_ (pe_b2 (zs_pl1 1) (pe_chk (i := 15 + 1) (by decide) (by decide) (pe_nm (x := nI (zs_pc K (55 - d) true + zs_V K d true 1)) ?_ (pe_b2 (zs_pl0 1) (pe_chk (i := 1) (by decide) (by decide) (pe_nm (x := q 1) rfl (pe_b2 (zs_pl1 1) (pe_chk (i := 15 + 1) (by decide) (by decide) (pe_nm (x := q (15 + 1) ||| ((1 : Int64) <<< ((nI (55 - d)).toInt64 &&& 63))) rfl (pe_nm x21 (pe_b2 ei rfl)))))))))))))
  · show _ + g 1 = _
    rw [e1, nI_add]
  · show _ + g (15 + 1) = _
    rw [e3, nI_add]
theorem zs_within {K : zs_T} {ag : Nat → Int32} {n : Nat} {h : Bool} {B : Int64} (hn : n < 56) (hag : ag (zc_b h * 56 + n) = nI (zs_pr K n (zc_b h))) (hB : zb_tb B n = !zs_ok K n h) : fn_X3_priceWithin ag (nI n) (nI (zc_b h)) B = some (nI (zs_pc K n h), ()) := by
  unfold fn_X3_priceWithin
  refine pe_b2 (zi_holds B (by omega)) ?_
  rw [hB]
  unfold zs_pc
  by_cases c : zs_ok K n h = true
  · rw [c, if_pos rfl]
    exact pe_if rfl (pe_b2 (zi_priceOf hn (zc_b2 h) hag) rfl)
  · rw [if_neg c]
    have : zs_ok K n h = false := by simpa using c
    rw [this]
    exact pe_ifn (by decide) rfl
theorem zs_find {K : zs_T} (gd : zs_G K) {ag : Nat → Int32} {p2 p4 : Int64} (hag : ∀ n h, n < 56 → h < 2 → ag (h * 56 + n) = nI (zs_pr K n h)) (h4 : ∀ n, n < 56 → zb_tb p4 n = !zs_ok K n false) (h2 : ∀ n, n < 56 → zb_tb p2 n = !zs_ok K n true) (c0 : Nat → Int32) (q0 : Nat → Int64) : ∃ X g q, fn_X3_find (nI (zs_m K)) (nI (zs_a K)) (nI (zs_j K)) ag c0 q0 p2 p4 = some (nI (zs_V K 56 false 0), X, g, q) ∧ ∀ i, zb_tb X i = zs_P K 56 false 0 i := by
  have hm1 := gd.1
  have hm14 := gd.2.1
  have i1 : ∃ g q, zz_it (fun z => fb_X3_find_3 z.1 z.2.1 z.2.2) zz_fuel (0, c0, q0) = some (g, q) ∧ ∀ r, 1 ≤ r → r ≤ zs_m K → zs_E K 0 g q r := by
    refine ⟨fun j => if j < 30 then 0 else c0 j, fun j => if j < 30 then 0 else q0 j, ?_, ?_⟩
    · refine pe_itE (fun k => (nI k, (fun j => if j < k then (fun _ => (0 : Int32)) j else c0 j), (fun j => if j < k then (fun _ => (0 : Int64)) j else q0 j))) 30 ?_ ?_ ?_ (by decide)
      · rw [zi_fill0, zi_fill0]; rfl
      · intro k hk
        have ck : (nI k).toNatClampNeg = k := nI_clamp (by omega)
        unfold fb_X3_find_3
        exact pe_ifn (nI_ge (b := 30) hk (by decide)) (pe_chk hk (by decide) (pe_nm (by rw [ck]; exact zi_fill c0 (fun _ => 0) k) (pe_chk hk (by decide) (pe_nm (by rw [ck]; exact zi_fillL q0 (fun _ => 0) k) (pe_nm (nI_1 k) rfl)))))
      · unfold fb_X3_find_3
        exact pe_if (Int32.le_refl _) rfl
    · intro r h1 hr
      refine ⟨⟨?_, fun i => ?_⟩, ?_, fun i => ?_⟩
      · show (if r < 30 then (0 : Int32) else c0 r) = _
        rw [if_pos (by omega)]; rfl
      · show zb_tb (if r < 30 then (0 : Int64) else q0 r) i = _
        rw [if_pos (by omega)]; exact zb_0 i
      · show (if 15 + r < 30 then (0 : Int32) else c0 (15 + r)) = _
        rw [if_pos (by omega)]; rfl
      · show zb_tb (if 15 + r < 30 then (0 : Int64) else q0 (15 + r)) i = _
        rw [if_pos (by omega)]; exact zb_0 i
  obtain ⟨g1, q1, e1, hE1⟩ := i1
  obtain ⟨⟨g2, q2⟩, e2, hE2⟩ := pe_itI (b := fun z => fb_X3_find_39 p2 p4 (nI (zs_m K)) (nI (zs_a K)) (nI (zs_j K)) ag z.1 z.2.1 z.2.2) (s0 := (55, g1, q1)) (fun d st => ∃ g q, st = (nI (55 - d), g, q) ∧ ∀ r, 1 ≤ r → r ≤ zs_m K → zs_E K d g q r) 55 (fun r => ∀ k, 1 ≤ k → k ≤ zs_m K → zs_E K 55 r.1 r.2 k) ⟨g1, q1, rfl, hE1⟩ (by
    intro d st hd ⟨g, q, e, hE⟩
    subst e
    obtain ⟨g', q', ea, hE'⟩ := zs_ahead gd (d := d) (by omega) hE
    refine ⟨(nI (55 - (d + 1)), g', q'), ?_, g', q', rfl, hE'⟩
    show fb_X3_find_39 _ _ _ _ _ _ (nI (55 - d)) g q = _
    unfold fb_X3_find_39
    refine pe_ifn (nI_nle (by omega) (by omega)) (pe_b2 (zs_within (h := false) (by omega) (hag _ 0 (by omega) (by decide)) (h4 _ (by omega))) (pe_b2 (zs_within (h := true) (by omega) (hag _ 1 (by omega) (by decide)) (h2 _ (by omega))) (pe_b2 ea (pe_nm (x := nI (55 - (d + 1))) ?_ rfl))))
    rw [show 55 - d = (55 - (d + 1)) + 1 by omega, pk_m1]) (by
    intro st ⟨g, q, e, hE⟩
    subst e
    refine ⟨(g, q), ?_, hE⟩
    show fb_X3_find_39 _ _ _ _ _ _ (nI 0) g q = _
    unfold fb_X3_find_39
    exact pe_if (Int32.le_refl _) rfl) (by decide)
  obtain ⟨⟨f1, f2⟩, f3, f4⟩ := hE2 1 (by omega) hm1
  obtain ⟨lc, lv, lb1, lb0⟩ := zs_last gd
  have bitX : ∀ i, zb_tb (if zs_fi K true < zs_fi K false then q2 (15 + 1) ||| 1 else q2 1) i = zs_P K 56 false 0 i := by
    intro i
    have hz : ∀ b' r', zs_P K 55 b' r' 0 = false := fun b' r' => zs_P0 55 (by omega) b' r' _ (by omega)
    rw [show zs_P K 56 false 0 i = if i = 55 - 55 then zs_c K 55 false 0 else zs_P K 55 (zs_c K 55 false 0) (zs_nw K false 0 (zs_c K 55 false 0)) i from rfl, lc]
    by_cases c : zs_fi K true < zs_fi K false
    · rw [if_pos c, decide_eq_true c, zb_or, zb_1, f4, show zs_nw K false 0 true = 1 from rfl]
      by_cases e : i = 0
      · subst e; simp
      · rw [if_neg (by omega), decide_eq_false e, Bool.or_false]
    · rw [if_neg c, decide_eq_false c, f2, show zs_nw K false 0 false = 1 from rfl]
      by_cases e : i = 0
      · subst e; rw [hz]; rfl
      · rw [if_neg (by omega)]
  have x52 : nI (zs_pc K 0 false) + g2 1 = nI (zs_fi K false) := by rw [show g2 1 = _ from f1, nI_add]; rfl
  have x60 : nI (zs_pc K 0 true) + g2 (15 + 1) = nI (zs_fi K true) := by rw [show g2 (15 + 1) = _ from f3, nI_add]; rfl
  refine ⟨_, g2, q2, ?_, bitX⟩
  unfold fn_X3_find
  refine pe_b2 e1 (pe_b2 e2 (pe_b2 (zs_within (n := 0) (h := false) (by omega) (hag _ 0 (by omega) (by decide)) (h4 _ (by omega))) (pe_b2 (zs_pl0 1) (pe_chk (i := 1) (by decide) (by decide) (pe_nm x52 (pe_b2 (zs_within (n := 0) (h := true) (by omega) (hag _ 1 (by omega) (by decide)) (h2 _ (by omega))) (pe_b2 (zs_pl1 1) (pe_chk (i := 15 + 1) (by decide) (by decide) (pe_nm x60 (pe_nm (x := nI (zs_V K 56 false 0)) ?_ ?_))))))))))
  · rw [lv]
    by_cases c : zs_fi K true < zs_fi K false
    · rw [if_pos (nI_lt c (by omega)), if_pos c]
    · rw [if_neg (nI_nlt (by omega) (by omega)), if_neg c]
  · by_cases c : zs_fi K true < zs_fi K false
    · rw [if_pos c]
      exact pe_if (nI_lt c (by omega)) (pe_b2 (zs_pl1 1) (pe_chk (i := 15 + 1) (by decide) (by decide) (pe_nm rfl rfl)))
    · rw [if_neg c]
      exact pe_ifn (nI_nlt (by omega) (by omega)) (pe_b2 (zs_pl0 1) (pe_chk (i := 1) (by decide) (by decide) (pe_nm rfl rfl)))
