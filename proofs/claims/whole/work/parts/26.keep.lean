/-! kept and gone on from -/
theorem zk_rule {by1 rk1 tu1 by0 rk0 tu0 : Nat → Int32} {on1 tl1 on0 tl0 : Nat → Int64} {i k : Nat} (hi : i < 10) (hk : k < 10) : fn_X2_copyRule by1 on1 rk1 tl1 tu1 by0 on0 rk0 tl0 tu0 (nI i) (nI k) = some (upd by0 k (by1 i), vp_updL on0 k (on1 i), upd rk0 k (rk1 i), vp_updL tl0 k (tl1 i), upd tu0 k (vp_nar .boolean (tu1 i))) := by
  have ci : (nI i).toNatClampNeg = i := nI_clamp (by omega)
  have ck : (nI k).toNatClampNeg = k := nI_clamp (by omega)
  unfold fn_X2_copyRule
  rw [ci, ck]
  exact pe_ifn (nI_pos (by omega)) (pe_ifn (nI_ge (b := 10) hi (by decide)) (pe_ifn (nI_pos (by omega)) (pe_if (nI_lt (b := 10) hk (by decide)) (pe_chk hi (by decide) (pe_chk hk (by decide) (pe_nm rfl (pe_chk hi (by decide) (pe_chk hk (by decide) (pe_nm rfl (pe_chk hi (by decide) (pe_chk hk (by decide) (pe_nm rfl (pe_chk hi (by decide) (pe_chk hk (by decide) (pe_nm rfl (pe_chk hi (by decide) (pe_chk hk (by decide) (pe_nm rfl rfl))))))))))))))))))
theorem zk_copy2 {sz : Int32} {by1 rk1 tu1 by0 rk0 tu0 : Nat → Int32} {on1 tl1 on0 tl0 : Nat → Int64} : fn_X2_copyOf sz by1 on1 rk1 tl1 tu1 by0 on0 rk0 tl0 tu0 = some (sz, (fun j => if j < 10 then by1 j else by0 j), (fun j => if j < 10 then on1 j else on0 j), (fun j => if j < 10 then rk1 j else rk0 j), (fun j => if j < 10 then tl1 j else tl0 j), (fun j => if j < 10 then vp_nar .boolean (tu1 j) else tu0 j)) := by
  unfold fn_X2_copyOf
  refine pe_b5 (pe_itE (fun k => (nI k, (fun j => if j < k then by1 j else by0 j), (fun j => if j < k then on1 j else on0 j), (fun j => if j < k then rk1 j else rk0 j), (fun j => if j < k then tl1 j else tl0 j), (fun j => if j < k then vp_nar .boolean (tu1 j) else tu0 j))) 10 ?_ ?_ ?_ (by decide)) rfl
  · rw [zi_fill0, zi_fill0, zi_fill0, zi_fill0, zi_fill0]; rfl
  · intro k hk
    unfold fb_X2_copyOf_2
    refine pe_ifn (nI_ge (b := 10) hk (by decide)) (pe_b5 (zk_rule hk hk) (pe_nm (nI_1 k) ?_))
    rw [zi_fill rk0 rk1 k, zi_fillL tl0 tl1 k, zi_fillL on0 on1 k, zi_fill tu0 (fun j => vp_nar .boolean (tu1 j)) k, zi_fill by0 by1 k]
  · unfold fb_X2_copyOf_2
    exact pe_if (Int32.le_refl _) rfl
theorem zk_copy5 {P1 : Int64} {pa1 ti1 pa0 ti0 : Nat → Int32} {sz : Int32} {by1 rk1 tu1 by0 rk0 tu0 : Nat → Int32} {on1 tl1 on0 tl0 : Nat → Int64} : fn_X5_copyOf P1 pa1 sz by1 on1 rk1 tl1 tu1 ti1 pa0 by0 on0 rk0 tl0 tu0 ti0 = some (P1, (fun j => if j < 2 then pa1 j else pa0 j), sz, (fun j => if j < 10 then by1 j else by0 j), (fun j => if j < 10 then on1 j else on0 j), (fun j => if j < 10 then rk1 j else rk0 j), (fun j => if j < 10 then tl1 j else tl0 j), (fun j => if j < 10 then vp_nar .boolean (tu1 j) else tu0 j), (fun j => if j < 2 then ti1 j else ti0 j)) := by
  unfold fn_X5_copyOf
  refine pe_b6 zk_copy2 (pe_b2 (pe_itE (fun k => (nI k, (fun j => if j < k then pa1 j else pa0 j), (fun j => if j < k then ti1 j else ti0 j))) 2 ?_ ?_ ?_ (by decide)) rfl)
  · rw [zi_fill0, zi_fill0]; rfl
  · intro k hk
    unfold fb_X5_copyOf_21
    have ck : (nI k).toNatClampNeg = k := nI_clamp (by omega)
    exact pe_ifn (nI_ge (b := 2) hk (by decide)) (pe_chk hk (by decide) (pe_chk hk (by decide) (pe_nm (show upd _ (nI k).toNatClampNeg _ = _ by rw [ck]; exact zi_fill ti0 ti1 k) (pe_chk hk (by decide) (pe_chk hk (by decide) (pe_nm (show upd _ (nI k).toNatClampNeg _ = _ by rw [ck]; exact zi_fill pa0 pa1 k) (pe_nm (nI_1 k) rfl)))))))
  · unfold fb_X5_copyOf_21
    exact pe_if (Int32.le_refl _) rfl
def zk_put (f g : Nat → Int32) (B n : Nat) : Nat → Int32 := fun j => if B ≤ j ∧ j < B + n then g (j - B) else f j
theorem zk_in {f g : Nat → Int32} {B n j : Nat} (h : j < n) : zk_put f g B n (B + j) = g j := by
  unfold zk_put; rw [if_pos (by omega)]; congr 1; omega
theorem zk_out {f g : Nat → Int32} {B n j : Nat} (h : j < B ∨ B + n ≤ j) : zk_put f g B n j = f j := by
  unfold zk_put; rw [if_neg (by omega)]
theorem zk_s {f g : Nat → Int32} {B k : Nat} : upd (zk_put f g B k) (B + k) (g k) = zk_put f g B (k + 1) := zi_fillB f g B k
theorem zk_0 {f g : Nat → Int32} {B : Nat} : zk_put f g B 0 = f := zi_fillB0 f g B
theorem zk_keep9 {fi mk kf kp kt mm mp mpl tm : Nat → Int32} {s : Nat} (hs : s ≤ 1) : fn_X9_keep fi mk kf kp kt mm mp mpl tm (nI s) = some (mm 0, upd mk s 1, zk_put kf fi (2 * s) 2, zk_put kp mpl (56 * s) 56, zk_put kt tm (2 * s) 2, upd mm (1 + s) (mm 0), zk_put mp mp (60 + 60 * s) 60) := by
  unfold fn_X9_keep
  have hin : (0 : Int) ≤ (nI s).toInt ∧ (nI s).toInt ≤ 1 := by rw [nI_toInt (by omega)]; omega
  have cs : (nI s).toNatClampNeg = s := nI_clamp (by omega)
  have e1 : (1 : Int32) + nI s = nI (1 + s) := nI_add 1 s
  have c1 : ((1 : Int32) + nI s).toNatClampNeg = 1 + s := by rw [e1]; exact nI_clamp (by omega)
  refine pe_b2 (zi_in _ (A := 0) (B := 1) (by decide) (by decide)) (pe_ifn (zi_i1 hin) (pe_chk (by omega) (by decide) (pe_nm (show upd mk (nI s).toNatClampNeg (vp_nar .boolean 1) = upd mk s 1 by rw [cs]; rfl) (pe_chk (i := 0) (by decide) (by decide) (pe_chkE e1 (by omega) (by decide) (pe_nm (show upd mm (1 + nI s).toNatClampNeg (mm (0 : Int32).toNatClampNeg) = upd mm (1 + s) (mm 0) by rw [c1]; rfl) (pe_b1 (a1 := zk_put mp mp (60 + 60 * s) 60) (pe_itE (fun k => (nI k, zk_put mp mp (60 + 60 * s) k)) 60 (by rw [zk_0]; rfl) ?_ ?_ (by decide)) (pe_b1 (a1 := zk_put kp mpl (56 * s) 56) (pe_itE (fun k => (nI k, zk_put kp mpl (56 * s) k)) 56 (by rw [zk_0]; rfl) ?_ ?_ (by decide)) (pe_b2 (a1 := zk_put kf fi (2 * s) 2) (a2 := zk_put kt tm (2 * s) 2) (pe_itE (fun k => (nI k, zk_put kf fi (2 * s) k, zk_put kt tm (2 * s) k)) 2 (by rw [zk_0, zk_0]; rfl) ?_ ?_ (by decide)) (pe_chk (i := 0) (by decide) (by decide) ?_))))))))))
  · intro k hk
    unfold fb_X9_keep_35
    have ck : (nI k).toNatClampNeg = k := nI_clamp (by omega)
    have e : (60 + (60 * nI s)) + nI k = nI ((60 + 60 * s) + k) := by rw [show (60 : Int32) = nI 60 from rfl, pk_mul, nI_add, nI_add]
    refine pe_ifn (nI_ge (b := 60) hk (by decide)) (pe_chk (by omega) (by decide) (pe_chkE e (by omega) (by decide) (pe_nm ?_ (pe_nm (nI_1 k) rfl))))
    show upd (zk_put mp mp (60 + 60 * s) k) ((60 + (60 * nI s)) + nI k).toNatClampNeg (zk_put mp mp (60 + 60 * s) k (nI k).toNatClampNeg) = _
    rw [e, nI_clamp (by omega), ck, zk_out (Or.inl (by omega))]
    exact zk_s
  · unfold fb_X9_keep_35
    exact pe_if (Int32.le_refl _) rfl
  · intro k hk
    unfold fb_X9_keep_69
    have ck : (nI k).toNatClampNeg = k := nI_clamp (by omega)
    have e : (56 * nI s) + nI k = nI (56 * s + k) := by rw [show (56 : Int32) = nI 56 from rfl, pk_mul, nI_add]
    refine pe_ifn (nI_ge (b := 56) hk (by decide)) (pe_chk (by omega) (by decide) (pe_chkE e (by omega) (by decide) (pe_nm ?_ (pe_nm (nI_1 k) rfl))))
    show upd (zk_put kp mpl (56 * s) k) ((56 * nI s) + nI k).toNatClampNeg (mpl (nI k).toNatClampNeg) = _
    rw [e, nI_clamp (by omega), ck]
    exact zk_s
  · unfold fb_X9_keep_69
    exact pe_if (Int32.le_refl _) rfl
  · intro k hk
    unfold fb_X9_keep_100
    have ck : (nI k).toNatClampNeg = k := nI_clamp (by omega)
    have e : (2 * nI s) + nI k = nI (2 * s + k) := by rw [show (2 : Int32) = nI 2 from rfl, pk_mul, nI_add]
    have ce : ((2 * nI s) + nI k).toNatClampNeg = 2 * s + k := by rw [e]; exact nI_clamp (by omega)
    refine pe_ifn (nI_ge (b := 2) hk (by decide)) (pe_chk hk (by decide) (pe_chkE e (by omega) (by decide) (pe_nm (show upd (zk_put kf fi (2 * s) k) ((2 * nI s) + nI k).toNatClampNeg (fi (nI k).toNatClampNeg) = _ by rw [ce, ck]; exact zk_s) (pe_chk hk (by decide) (pe_chkE e (by omega) (by decide) (pe_nm (show upd (zk_put kt tm (2 * s) k) ((2 * nI s) + nI k).toNatClampNeg (tm (nI k).toNatClampNeg) = _ by rw [ce, ck]; exact zk_s) (pe_nm (nI_1 k) rfl)))))))
  · unfold fb_X9_keep_100
    exact pe_if (Int32.le_refl _) rfl
  · show some (upd mm (1 + s) (mm 0) 0, _) = _
    rw [pk_un (by omega)]
theorem zk_again9 {fi mk kf kp kt mm mp mpl tm : Nat → Int32} {s : Nat} (hs : s ≤ 1) (hk1 : ¬ mk s = 0) : fn_X9_again fi mk kf kp kt mm mp mpl tm (nI s) = some (mm (1 + s), zk_put fi (fun j => kf (2 * s + j)) 0 2, upd mm 0 (mm (1 + s)), zk_put mp (fun j => mp (60 + 60 * s + j)) 0 60, zk_put mpl (fun j => kp (56 * s + j)) 0 56, zk_put tm (fun j => kt (2 * s + j)) 0 2) := by
  unfold fn_X9_again
  have hin : (0 : Int) ≤ (nI s).toInt ∧ (nI s).toInt ≤ 1 := by rw [nI_toInt (by omega)]; omega
  have cs : (nI s).toNatClampNeg = s := nI_clamp (by omega)
  have e1 : (1 : Int32) + nI s = nI (1 + s) := nI_add 1 s
  have c1 : ((1 : Int32) + nI s).toNatClampNeg = 1 + s := by rw [e1]; exact nI_clamp (by omega)
  refine pe_b2 (zi_in _ (A := 0) (B := 1) (by decide) (by decide)) (pe_ifn (zi_i1 hin) (pe_chk (by omega) (by decide) (pe_ifn (by rw [cs]; exact hk1) (pe_chkE e1 (by omega) (by decide) (pe_chk (i := 0) (by decide) (by decide) (pe_nm (show upd mm (0 : Int32).toNatClampNeg (mm (1 + nI s).toNatClampNeg) = upd mm 0 (mm (1 + s)) by rw [c1]; rfl) (pe_b1 (a1 := zk_put mp (fun j => mp (60 + 60 * s + j)) 0 60) (pe_itE (fun k => (nI k, zk_put mp (fun j => mp (60 + 60 * s + j)) 0 k)) 60 (by rw [zk_0]; rfl) ?_ ?_ (by decide)) (pe_b1 (a1 := zk_put mpl (fun j => kp (56 * s + j)) 0 56) (pe_itE (fun k => (nI k, zk_put mpl (fun j => kp (56 * s + j)) 0 k)) 56 (by rw [zk_0]; rfl) ?_ ?_ (by decide)) (pe_b2 (a1 := zk_put fi (fun j => kf (2 * s + j)) 0 2) (a2 := zk_put tm (fun j => kt (2 * s + j)) 0 2) (pe_itE (fun k => (nI k, zk_put fi (fun j => kf (2 * s + j)) 0 k, zk_put tm (fun j => kt (2 * s + j)) 0 k)) 2 (by rw [zk_0, zk_0]; rfl) ?_ ?_ (by decide)) (pe_chk (i := 0) (by decide) (by decide) ?_))))))))))
  · intro k hk
    unfold fb_X9_again_40
    have ck : (nI k).toNatClampNeg = k := nI_clamp (by omega)
    have e : (60 + (60 * nI s)) + nI k = nI ((60 + 60 * s) + k) := by rw [show (60 : Int32) = nI 60 from rfl, pk_mul, nI_add, nI_add]
    refine pe_ifn (nI_ge (b := 60) hk (by decide)) (pe_chkE e (by omega) (by decide) (pe_chk (by omega) (by decide) (pe_nm ?_ (pe_nm (nI_1 k) rfl))))
    show upd (zk_put mp (fun j => mp (60 + 60 * s + j)) 0 k) (nI k).toNatClampNeg (zk_put mp (fun j => mp (60 + 60 * s + j)) 0 k ((60 + (60 * nI s)) + nI k).toNatClampNeg) = _
    rw [ck, e, nI_clamp (by omega), zk_out (Or.inr (by omega))]
    have := zk_s (f := mp) (g := fun j => mp (60 + 60 * s + j)) (B := 0) (k := k)
    rw [Nat.zero_add] at this
    exact this
  · unfold fb_X9_again_40
    exact pe_if (Int32.le_refl _) rfl
  · intro k hk
    unfold fb_X9_again_74
    have ck : (nI k).toNatClampNeg = k := nI_clamp (by omega)
    have e : (56 * nI s) + nI k = nI (56 * s + k) := by rw [show (56 : Int32) = nI 56 from rfl, pk_mul, nI_add]
    refine pe_ifn (nI_ge (b := 56) hk (by decide)) (pe_chkE e (by omega) (by decide) (pe_chk (by omega) (by decide) (pe_nm ?_ (pe_nm (nI_1 k) rfl))))
    show upd (zk_put mpl (fun j => kp (56 * s + j)) 0 k) (nI k).toNatClampNeg (kp ((56 * nI s) + nI k).toNatClampNeg) = _
    rw [ck, e, nI_clamp (by omega)]
    have := zk_s (f := mpl) (g := fun j => kp (56 * s + j)) (B := 0) (k := k)
    rw [Nat.zero_add] at this
    exact this
  · unfold fb_X9_again_74
    exact pe_if (Int32.le_refl _) rfl
  · intro k hk
    unfold fb_X9_again_105
    have ck : (nI k).toNatClampNeg = k := nI_clamp (by omega)
    have e : (2 * nI s) + nI k = nI (2 * s + k) := by rw [show (2 : Int32) = nI 2 from rfl, pk_mul, nI_add]
    have ce : ((2 * nI s) + nI k).toNatClampNeg = 2 * s + k := by rw [e]; exact nI_clamp (by omega)
    have s1 := zk_s (f := fi) (g := fun j => kf (2 * s + j)) (B := 0) (k := k)
    have s2 := zk_s (f := tm) (g := fun j => kt (2 * s + j)) (B := 0) (k := k)
    rw [Nat.zero_add] at s1 s2
    refine pe_ifn (nI_ge (b := 2) hk (by decide)) (pe_chkE e (by omega) (by decide) (pe_chk hk (by decide) (pe_nm (show upd _ (nI k).toNatClampNeg (kf ((2 * nI s) + nI k).toNatClampNeg) = _ by rw [ce, ck]; exact s1) (pe_chkE e (by omega) (by decide) (pe_chk hk (by decide) (pe_nm (show upd _ (nI k).toNatClampNeg (kt ((2 * nI s) + nI k).toNatClampNeg) = _ by rw [ce, ck]; exact s2) (pe_nm (nI_1 k) rfl)))))))
  · unfold fb_X9_again_105
    exact pe_if (Int32.le_refl _) rfl
  · show some (upd mm 0 (mm (1 + s)) 0, _) = _
    rw [pk_us]
/-- a paper lies elsewhere: what is said of it holds there -/
theorem zk_ok {mp mp' : Nat → Int32} {q q' : Nat} (h : ∀ c, c < 6 → mp' (q' + c) = mp (q + c)) (ok : zi_ok mp q) : zi_ok mp' q' ∧ (∀ c, c < 6 → zi_g mp' (q' + c) = zi_g mp (q + c)) ∧ ∀ i ev, zi_S mp' q' i ev = zi_S mp q i ev := by
  have g : ∀ c, c < 6 → zi_g mp' (q' + c) = zi_g mp (q + c) := fun c hc => by unfold zi_g; rw [h c hc]
  have g0 : zi_g mp' q' = zi_g mp q := g 0 (by decide)
  have m0 : mp' q' = mp q := h 0 (by decide)
  refine ⟨?_, g, fun i ev => ?_⟩
  · unfold zi_ok at *
    rw [g0, g 1 (by decide), g 2 (by decide), g 3 (by decide), g 4 (by decide), g 5 (by decide), m0, h 1 (by decide), h 2 (by decide), h 3 (by decide), h 4 (by decide), h 5 (by decide)]
    exact ok
  · unfold zi_S
    rw [g0, g 2 (by decide), g 3 (by decide), g 4 (by decide), g 5 (by decide)]
theorem zk_move {size : Int32} {ranks turns numbers ranks' turns' numbers' : Nat → Int32} {told ones told' ones' : Nat → Int64} {mp mm mp' mm' : Nat → Int32} {p q : Nat} (H : zi_paper size ranks told ones turns numbers mp mm p) (hr : ∀ j, j < 10 → ranks' j = ranks j ∧ told' j = told j ∧ ones' j = ones j ∧ numbers' j = numbers j ∧ (turns' j = turns j ∨ turns' j = vp_nar .boolean (turns j))) (hm : ∀ t, t < 60 → mp' (60 * q + t) = mp (60 * p + t)) (hmm : mm' q = mm p) : zi_paper size ranks' told' ones' turns' numbers' mp' mm' q := by
  obtain ⟨n, hn, rfl, hm0, hok, b, hb1, hb2, hb3, hrule⟩ := H
  have pos : ∀ r, r < n → ∀ c, c < 6 → mp' (60 * q + 6 * r + c) = mp (60 * p + 6 * r + c) := fun r hr0 c hc => by
    have := hm (6 * r + c) (by omega)
    rw [Nat.add_assoc, Nat.add_assoc]; exact this
  refine ⟨n, hn, rfl, by rw [hmm, hm0], fun r hrn => (zk_ok (pos r hrn) (hok r hrn)).1, b, fun j hj => ?_, hb2, fun i j hij hj => ?_, fun j hj => ?_⟩
  · rw [(hr j (by omega)).2.2.2.1]; exact hb1 j hj
  · have gi : zi_g mp' (60 * q + 6 * b i + 1) = zi_g mp (60 * p + 6 * b i + 1) := by unfold zi_g; rw [pos (b i) ((hb1 i (by omega)).2) 1 (by decide)]
    have gj : zi_g mp' (60 * q + 6 * b j + 1) = zi_g mp (60 * p + 6 * b j + 1) := by unfold zi_g; rw [pos (b j) ((hb1 j hj).2) 1 (by decide)]
    rw [gi, gj]
    exact hb3 i j hij hj
  · obtain ⟨ok, h1, h2, h3, h4⟩ := hrule j hj
    obtain ⟨ok', g, hS⟩ := zk_ok (pos (b j) (hb1 j hj).2) ok
    obtain ⟨a1, a2, a3, a4, a5⟩ := hr j (by omega)
    refine ⟨ok', ?_, ?_, fun i hi => ?_, fun i hi => ?_⟩
    · rw [a1, h1, g 1 (by decide)]
    · have g0 : zi_g mp' (60 * q + 6 * b j) = zi_g mp (60 * p + 6 * b j) := g 0 (by decide)
      rw [g0, ← h2]
      rcases a5 with e | e
      · exact e
      · rw [e, h2]
        by_cases c : zi_g mp (60 * p + 6 * b j) = 89
        · rw [if_pos c]; rfl
        · rw [if_neg c]; rfl
    · rw [a2, h3 i hi, hS]
    · rw [a3, h4 i hi, hS]
theorem zk_same {size : Int32} {ranks turns byRank : Nat → Int32} {told ones : Nat → Int64} {mp mm mp' mm' : Nat → Int32} {p : Nat} (H : zi_paper size ranks told ones turns byRank mp mm p) (hm : ∀ t, t < 60 → mp' (60 * p + t) = mp (60 * p + t)) (hmm : mm' p = mm p) : zi_paper size ranks told ones turns byRank mp' mm' p :=
  zk_move H (fun j _ => ⟨rfl, rfl, rfl, rfl, Or.inl rfl⟩) hm hmm
theorem zk_fill {size : Int32} {ranks turns byRank r0 t0 b0 : Nat → Int32} {told ones d0 o0 : Nat → Int64} {mp mm mp' mm' : Nat → Int32} {p q : Nat} (H : zi_paper size ranks told ones turns byRank mp mm p) (hm : ∀ t, t < 60 → mp' (60 * q + t) = mp (60 * p + t)) (hmm : mm' q = mm p) : zi_paper size (fun j => if j < 10 then ranks j else r0 j) (fun j => if j < 10 then told j else d0 j) (fun j => if j < 10 then ones j else o0 j) (fun j => if j < 10 then vp_nar .boolean (turns j) else t0 j) (fun j => if j < 10 then byRank j else b0 j) mp' mm' q :=
  zk_move H (fun j hj => ⟨if_pos hj, if_pos hj, if_pos hj, if_pos hj, Or.inr (if_pos hj)⟩) hm hmm
