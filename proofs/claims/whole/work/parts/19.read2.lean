/-! reading a paper: one night through the loop, then all nights -/
def zr_N (t1 h : Nat) (R : Option Nat) (za oa Z O F : Bool) : Prop := (h = 0 ∧ t1 = 10 ∧ za = false ∧ oa = false ∧ Z = false ∧ O = false ∧ F = false) ∨ (h ≠ 0 ∧ h < 4 ∧ R = some t1 ∧ Z = false ∧ O = false ∧ F = false ∧ za = h.testBit 0 ∧ oa = h.testBit 1) ∨ (h ≠ 0 ∧ h < 4 ∧ (∃ r, R = some r ∧ t1 < r) ∧ Z = decide (h = 1) ∧ O = decide (h = 2) ∧ F = decide (h = 3))
def zr_n1 (t1 q : Nat) (sr : Option Bool) : Nat := match sr with
  | none => t1
  | some _ => if t1 < q then t1 else q
def zr_n2 (t1 h q : Nat) (sr : Option Bool) : Nat := match sr with
  | none => h
  | some β => if t1 < q then h else (if q < t1 then 0 else h) ||| 2 ^ zc_b β
theorem zr_add {t1 h q : Nat} {za oa Z O F : Bool} (sr : Option Bool) (hq : q ≤ 9) (H : zr_N t1 h (some q) za oa Z O F) : zr_N (zr_n1 t1 q sr) (zr_n2 t1 h q sr) (some q) (za || (sr == some false)) (oa || (sr == some true)) Z O F := by
  rcases H with ⟨rfl, rfl, rfl, rfl, rfl, rfl, rfl⟩ | ⟨h1, h2, h3, rfl, rfl, rfl, rfl, rfl⟩ | ⟨h1, h2, ⟨r, h3, h4⟩, rfl, rfl, rfl⟩
  · cases sr with
    | none => exact Or.inl ⟨rfl, rfl, rfl, rfl, rfl, rfl, rfl⟩
    | some β =>
      refine Or.inr (Or.inl ?_)
      have e1 : zr_n1 10 q (some β) = q := if_neg (by omega)
      have e2 : zr_n2 10 0 q (some β) = 2 ^ zc_b β := by
        show (if 10 < q then 0 else (if q < 10 then 0 else 0) ||| 2 ^ zc_b β) = _
        rw [if_neg (by omega), if_pos (by omega), Nat.zero_or]
      rw [e1, e2]
      cases β <;> exact ⟨by decide, by decide, rfl, rfl, rfl, rfl, by decide, by decide⟩
  · obtain rfl : q = t1 := Option.some.inj h3
    cases sr with
    | none => exact Or.inr (Or.inl ⟨h1, h2, rfl, rfl, rfl, rfl, Bool.or_false _, Bool.or_false _⟩)
    | some β =>
      refine Or.inr (Or.inl ?_)
      have e1 : zr_n1 q q (some β) = q := if_neg (by omega)
      have e2 : zr_n2 q h q (some β) = h ||| 2 ^ zc_b β := by
        show (if q < q then h else (if q < q then 0 else h) ||| 2 ^ zc_b β) = _
        rw [if_neg (by omega), if_neg (by omega)]
      rw [e1, e2]
      have h123 : h = 1 ∨ h = 2 ∨ h = 3 := by omega
      rcases h123 with rfl | rfl | rfl <;> cases β <;> exact ⟨by decide, by decide, rfl, rfl, rfl, rfl, by decide, by decide⟩
  · obtain rfl : q = r := Option.some.inj h3
    refine Or.inr (Or.inr ?_)
    cases sr with
    | none => exact ⟨h1, h2, ⟨q, rfl, h4⟩, rfl, rfl, rfl⟩
    | some β =>
      have e1 : zr_n1 t1 q (some β) = t1 := if_pos h4
      have e2 : zr_n2 t1 h q (some β) = h := if_pos h4
      rw [e1, e2]
      exact ⟨h1, h2, ⟨q, rfl, h4⟩, rfl, rfl, rfl⟩
theorem zr_set {t1 h q : Nat} {R : Option Nat} {za oa Z O F : Bool} (hR : R = none ∨ ∃ r, R = some r ∧ r < q) (H : zr_N t1 h R za oa Z O F) : zr_N t1 h (some q) false false (Z || (za && !oa && !(Z || O || F))) (O || (oa && !za && !(Z || O || F))) (F || (za && oa && !(Z || O || F))) := by
  rcases H with ⟨rfl, rfl, rfl, rfl, rfl, rfl, rfl⟩ | ⟨h1, h2, h3, rfl, rfl, rfl, rfl, rfl⟩ | ⟨h1, h2, ⟨r, h3, h4⟩, rfl, rfl, rfl⟩
  · exact Or.inl ⟨rfl, rfl, rfl, rfl, rfl, rfl, rfl⟩
  · refine Or.inr (Or.inr ?_)
    have : t1 < q := by
      rcases hR with e | ⟨r, e, hr⟩
      · rw [e] at h3; cases h3
      · rw [e] at h3; obtain rfl := Option.some.inj h3; exact hr
    have h123 : h = 1 ∨ h = 2 ∨ h = 3 := by omega
    rcases h123 with rfl | rfl | rfl <;> exact ⟨by decide, by decide, ⟨q, rfl, this⟩, by decide, by decide, by decide⟩
  · refine Or.inr (Or.inr ?_)
    have : t1 < q := by
      rcases hR with e | ⟨r', e, hr⟩
      · rw [e] at h3; cases h3
      · rw [e] at h3; obtain rfl := Option.some.inj h3; omega
    have h123 : h = 1 ∨ h = 2 ∨ h = 3 := by omega
    rcases h123 with rfl | rfl | rfl <;> exact ⟨by decide, by decide, ⟨q, rfl, this⟩, by simp, by simp, by simp⟩
theorem zr_end {t1 h : Nat} {R : Option Nat} {za oa Z O F : Bool} (H : zr_N t1 h R za oa Z O F) : (Z || (za && !oa && !(Z || O || F))) = decide (h = 1) ∧ (O || (oa && !za && !(Z || O || F))) = decide (h = 2) ∧ (F || (za && oa && !(Z || O || F))) = decide (h = 3) := by
  rcases H with ⟨rfl, rfl, rfl, rfl, rfl, rfl, rfl⟩ | ⟨h1, h2, h3, rfl, rfl, rfl, rfl, rfl⟩ | ⟨h1, h2, ⟨r, h3, h4⟩, rfl, rfl, rfl⟩
  · exact ⟨rfl, rfl, rfl⟩
  · have h123 : h = 1 ∨ h = 2 ∨ h = 3 := by omega
    rcases h123 with rfl | rfl | rfl <;> exact ⟨by decide, by decide, by decide⟩
  · have h123 : h = 1 ∨ h = 2 ∨ h = 3 := by omega
    rcases h123 with rfl | rfl | rfl <;> exact ⟨by simp, by simp, by simp⟩
theorem zr_t1 (s : Nat → Option Bool) (rk : Nat → Nat) (k : Nat) : (zw_t s rk (k + 1)).1 = zr_n1 (zw_t s rk k).1 (rk k) (s k) ∧ (zw_t s rk (k + 1)).2.1 = zr_n2 (zw_t s rk k).1 (zw_t s rk k).2.1 (rk k) (s k) := by
  rw [zw_t]
  cases s k with
  | none => exact ⟨rfl, rfl⟩
  | some b =>
    dsimp only [zr_n1, zr_n2]
    by_cases c : (zw_t s rk k).1 < rk k
    · rw [if_pos c, if_pos c, if_pos c]; exact ⟨rfl, rfl⟩
    · rw [if_neg c, if_neg c, if_neg c]; exact ⟨rfl, rfl⟩
def zr_rho : Option Nat → Int32
  | none => -9
  | some r => nI r
/-- the nights that a paper gives to a house: 1 house 0, 2 house 1, 3 both, 0 none -/
def zw_h (mp mm : Nat → Int32) (p wo : Nat) (ev : Bool) (i : Nat) : Nat := (zw_t (zw_s mp p i wo ev) (zw_rk mp p) (zi_g mm p)).2.1
def zr_bits (Z O F : Int64) (h : Nat → Nat) : Prop := ∀ i, (i < 56 → zb_tb Z i = decide (h i = 1) ∧ zb_tb O i = decide (h i = 2) ∧ zb_tb F i = decide (h i = 3)) ∧ (56 ≤ i → zb_tb Z i = false ∧ zb_tb O i = false ∧ zb_tb F i = false)
def zr_I (s : Nat → Nat → Option Bool) (rk b : Nat → Nat) (n j : Nat) (st : Int64 × Int64 × Int32 × Int32 × Int64 × Int64 × Int64) : Prop := ∃ (za oa Z O F : Int64) (R : Option Nat), st = (za, oa, zr_rho R, nI j, Z, O, F) ∧ (R = none ∨ ∃ r, R = some r ∧ r ≤ 9 ∧ ∀ j', j ≤ j' → j' < n → r ≤ rk (b j')) ∧ ∀ i, i < 64 → (i < 56 → zr_N (zw_t (fun j => s i (b j)) (fun j => rk (b j)) j).1 (zw_t (fun j => s i (b j)) (fun j => rk (b j)) j).2.1 R (zb_tb za i) (zb_tb oa i) (zb_tb Z i) (zb_tb O i) (zb_tb F i)) ∧ (56 ≤ i → zb_tb za i = false ∧ zb_tb oa i = false ∧ zb_tb Z i = false ∧ zb_tb O i = false ∧ zb_tb F i = false)
theorem zr_opt (o : Option Bool) : (o.isSome && !(o == some true)) = (o == some false) := by
  cases o with
  | none => rfl
  | some b => cases b <;> rfl
theorem zr_read {size : Int32} {ranks turns numbers : Nat → Int32} {told ones : Nat → Int64} {mp mm : Nat → Int32} {p y wo : Nat} (hy : y ≤ 99) (hwo : wo < 1024) (H : zi_paper size ranks told ones turns numbers mp mm p) : ∃ Z O F, fn_X2_readTo size numbers ones ranks told turns (nI y) (nI wo) = some (Z, O, F) ∧ zr_bits Z O F (zw_h mp mm p wo (decide (y % 2 = 0))) := by
  obtain ⟨n, hn, rfl, hm, hok, b, hb1, hb2, hb3, hrule⟩ := H
  have hgm : zi_g mm p = n := zi_gn hm (by omega)
  have h9 : ∀ r, r < n → zw_rk mp p r ≤ 9 := fun r hr => (hok r hr).2.2.2.1
  let s : Nat → Nat → Option Bool := fun i => zw_s mp p i wo (decide (y % 2 = 0))
  have fin : ∃ r : Int64 × Int64 × Int64 × Int64 × Int64, zz_it (fun z => fb_X2_readTo_17 (nI y) (nI wo) (nI n) numbers ranks ones told turns z.1 z.2.1 z.2.2.1 z.2.2.2.1 z.2.2.2.2.1 z.2.2.2.2.2.1 z.2.2.2.2.2.2) zz_fuel (0, 0, (-9), 0, 0, 0, 0) = some r ∧ ∀ i, i < 64 → (i < 56 → ∃ t1 R, zr_N t1 (zw_t (fun j => s i (b j)) (fun j => zw_rk mp p (b j)) n).2.1 R (zb_tb r.1 i) (zb_tb r.2.1 i) (zb_tb r.2.2.1 i) (zb_tb r.2.2.2.1 i) (zb_tb r.2.2.2.2 i)) ∧ (56 ≤ i → zb_tb r.1 i = false ∧ zb_tb r.2.1 i = false ∧ zb_tb r.2.2.1 i = false ∧ zb_tb r.2.2.2.1 i = false ∧ zb_tb r.2.2.2.2 i = false) := by
    refine pe_itI (fun j st => zr_I s (zw_rk mp p) b n j st) n _ ⟨0, 0, 0, 0, 0, none, rfl, Or.inl rfl, fun i hi => ⟨fun _ => ?_, fun _ => ?_⟩⟩ ?_ ?_ (by omega)
    · simp only [zb_0]; exact Or.inl ⟨rfl, rfl, rfl, rfl, rfl, rfl, rfl⟩
    · exact ⟨zb_0 i, zb_0 i, zb_0 i, zb_0 i, zb_0 i⟩
    · intro j st hj ⟨za, oa, Z, O, F, R, e, hG, hN⟩
      subst e
      obtain ⟨eb, hbj⟩ := hb1 j hj
      have cj : (nI j).toNatClampNeg = j := nI_clamp (by omega)
      have j10 : ¬ (10 : Int32) ≤ nI j := nI_ge (b := 10) (by omega) (by decide)
      have enb : numbers (nI j).toNatClampNeg = nI (b j) := by rw [cj, eb]
      by_cases hw : wo.testBit (b j) = true
      · -- left out
        refine ⟨(za, oa, zr_rho R, nI (j + 1), Z, O, F), ?_, za, oa, Z, O, F, R, rfl, ?_, fun i hi => ⟨fun h => ?_, (hN i hi).2⟩⟩
        · show fb_X2_readTo_17 _ _ _ _ _ _ _ _ za oa (zr_rho R) (nI j) Z O F = _
          unfold fb_X2_readTo_17
          refine pe_ifn (nI_ge hj (by omega)) (pe_ifn j10 (pe_chk (by omega) (by decide) (pe_ifn ?_ (pe_nm (nI_1 j) rfl))))
          rw [enb, zi_wobit hwo (by omega), if_pos hw]; decide
        · rcases hG with h | ⟨r, h, h2, h3⟩
          · exact Or.inl h
          · exact Or.inr ⟨r, h, h2, fun j' a c => h3 j' (by omega) c⟩
        · have es : s i (b j) = none := by show zw_s mp p i wo _ (b j) = none; unfold zw_s; rw [if_pos hw]
          obtain ⟨t1, t2⟩ := zr_t1 (fun j => s i (b j)) (fun j => zw_rk mp p (b j)) j
          rw [t1, t2, es]
          exact (hN i hi).1 h
      · have hrl := hrule j hj
        obtain ⟨x, ex, hx⟩ := zr_ones (y := y) hrl (by omega) hy
        obtain ⟨ok, hrank, -, htold, -⟩ := hrl
        have hq9 := h9 (b j) hbj
        have es : ∀ i, s i (b j) = zi_S mp (60 * p + 6 * b j) i (decide (y % 2 = 0)) := by
          intro i; show zw_s mp p i wo _ (b j) = _; unfold zw_s; rw [if_neg hw]
        have addb : ∀ (A B : Int64) i, i < 64 → zb_tb (A ||| (told j &&& (x ^^^ (-1)))) i = (zb_tb A i || (decide (i < 56) && (zi_S mp (60 * p + 6 * b j) i (decide (y % 2 = 0)) == some false))) ∧ zb_tb (B ||| x) i = (zb_tb B i || (decide (i < 56) && (zi_S mp (60 * p + 6 * b j) i (decide (y % 2 = 0)) == some true))) := by
          intro A B i hi
          rw [zb_or, zb_or, zb_and, zb_not _ hi, hx i hi, htold i hi, ← zr_opt, ← zi_S_some mp _ i (decide (y % 2 = 0))]
          refine ⟨?_, rfl⟩
          cases decide (i < 56) <;> simp
        -- the state in which the rule is added
        obtain ⟨za1, oa1, Z1, O1, F1, e1, hN1⟩ : ∃ za1 oa1 Z1 O1 F1 : Int64, (if ranks (nI j).toNatClampNeg = zr_rho R then some (za, oa, zr_rho R, Z, O, F) else zz_b3 (fn_X4_settle Z O F za oa) (fun x111 x112 x113 => zz_chk (nI j) 10 (zz_nm (ranks (nI j).toNatClampNeg) (fun x116 => some (0, 0, x116, x111, x112, x113))))) = some (za1, oa1, nI (zw_rk mp p (b j)), Z1, O1, F1) ∧ ∀ i, i < 64 → (i < 56 → zr_N (zw_t (fun j => s i (b j)) (fun j => zw_rk mp p (b j)) j).1 (zw_t (fun j => s i (b j)) (fun j => zw_rk mp p (b j)) j).2.1 (some (zw_rk mp p (b j))) (zb_tb za1 i) (zb_tb oa1 i) (zb_tb Z1 i) (zb_tb O1 i) (zb_tb F1 i)) ∧ (56 ≤ i → zb_tb za1 i = false ∧ zb_tb oa1 i = false ∧ zb_tb Z1 i = false ∧ zb_tb O1 i = false ∧ zb_tb F1 i = false) := by
          have er : ranks (nI j).toNatClampNeg = nI (zw_rk mp p (b j)) := by rw [cj, hrank]; rfl
          by_cases hs : R = some (zw_rk mp p (b j))
          · subst hs
            exact ⟨za, oa, Z, O, F, pe_if er rfl, hN⟩
          · have hRq : R = none ∨ ∃ r, R = some r ∧ r < zw_rk mp p (b j) := by
              rcases hG with h | ⟨r, h, h2, h3⟩
              · exact Or.inl h
              · refine Or.inr ⟨r, h, ?_⟩
                have := h3 j (Nat.le_refl _) hj
                rcases Nat.lt_or_ge r (zw_rk mp p (b j)) with q | q
                · exact q
                · exact absurd (by rw [h, show r = zw_rk mp p (b j) by omega]) hs
            refine ⟨0, 0, _, _, _, pe_ifn (fun z => ?_) (pe_b3 (zr_settle Z O F za oa) (pe_chk (by omega) (by decide) (pe_nm er rfl))), fun i hi => ⟨fun h => ?_, fun h => ?_⟩⟩
            · rw [er] at z
              rcases hRq with q | ⟨r, q, q2⟩
              · rw [q] at z
                have : (nI (zw_rk mp p (b j))).toInt = (-9 : Int32).toInt := by rw [z]; rfl
                rw [nI_toInt (by omega)] at this
                have e9 : (-9 : Int32).toInt = -9 := by decide
                omega
              · rw [q] at z
                have := (nI_eq (by omega) (by omega)).mp z
                omega
            · have := zr_set hRq ((hN i hi).1 h)
              simp only [zb_or, zb_and, zb_not _ hi, zr_fb Z O F hi, zb_0, h, decide_true, Bool.true_and]
              exact this
            · obtain ⟨q1, q2, q3, q4, q5⟩ := (hN i hi).2 h
              have h56 : ¬ i < 56 := by omega
              simp [zb_or, zb_and, zb_0, q1, q2, q3, q4, q5]
        refine ⟨(za1 ||| (told j &&& (x ^^^ (-1))), oa1 ||| x, nI (zw_rk mp p (b j)), nI (j + 1), Z1, O1, F1), ?_, _, _, Z1, O1, F1, some (zw_rk mp p (b j)), rfl, Or.inr ⟨_, rfl, hq9, fun j' a c => ?_⟩, fun i hi => ⟨fun h => ?_, fun h => ?_⟩⟩
        · show fb_X2_readTo_17 _ _ _ _ _ _ _ _ za oa (zr_rho R) (nI j) Z O F = _
          unfold fb_X2_readTo_17
          refine pe_ifn (nI_ge hj (by omega)) (pe_ifn j10 (pe_chk (by omega) (by decide) (pe_if ?_ (pe_chk (by omega) (by decide) (pe_b6 e1 (pe_b2 ex (pe_nm rfl (pe_chk (by omega) (by decide) (pe_nm ?_ (pe_nm (nI_1 j) rfl))))))))))
          · rw [enb, zi_wobit hwo (by omega), if_neg hw]
          · rw [cj]
        · rcases Nat.lt_or_ge j j' with q | q
          · exact hb3 j j' q c
          · rw [show j' = j by omega]; exact Nat.le_refl _
        · obtain ⟨a1, a2⟩ := addb za1 oa1 i hi
          obtain ⟨t1, t2⟩ := zr_t1 (fun j => s i (b j)) (fun j => zw_rk mp p (b j)) j
          rw [a1, a2, t1, t2, es]
          have := zr_add (zi_S mp (60 * p + 6 * b j) i (decide (y % 2 = 0))) hq9 ((hN1 i hi).1 h)
          simp only [h, decide_true, Bool.true_and]
          exact this
        · obtain ⟨a1, a2⟩ := addb za1 oa1 i hi
          obtain ⟨q1, q2, q3, q4, q5⟩ := (hN1 i hi).2 h
          have h56 : ¬ i < 56 := by omega
          rw [a1, a2, q1, q2]
          simp [h56, q3, q4, q5]
    · intro st ⟨za, oa, Z, O, F, R, e, hG, hN⟩
      subst e
      refine ⟨(za, oa, Z, O, F), ?_, fun i hi => ⟨fun h => ⟨_, _, (hN i hi).1 h⟩, (hN i hi).2⟩⟩
      show fb_X2_readTo_17 _ _ _ _ _ _ _ _ za oa (zr_rho R) (nI n) Z O F = _
      unfold fb_X2_readTo_17
      exact pe_if (Int32.le_refl _) rfl
  obtain ⟨⟨za, oa, Z, O, F⟩, efin, hfin⟩ := fin
  refine ⟨_, _, _, pe_b3 (a1 := 0) (a2 := 0) (a3 := 0) rfl (pe_b5 efin (pe_b3 (zr_settle Z O F za oa) rfl)), fun i => ⟨fun h => ?_, fun h => ?_⟩⟩
  · have hi : i < 64 := by omega
    obtain ⟨t1, R, q⟩ := (hfin i hi).1 h
    have := zr_end q
    unfold zw_h
    rw [hgm, ← zw_perm h9 (fun j hj => (hb1 j hj).2) hb2]
    simp only [zb_or, zb_and, zb_not _ hi, zr_fb Z O F hi, h, decide_true, Bool.true_and]
    exact this
  · by_cases hi : i < 64
    · obtain ⟨q1, q2, q3, q4, q5⟩ := (hfin i hi).2 h
      simp only at q1 q2 q3 q4 q5
      simp [zb_or, zb_and, q1, q2, q3, q4, q5]
    · exact ⟨zb_big _ (by omega), zb_big _ (by omega), zb_big _ (by omega)⟩
