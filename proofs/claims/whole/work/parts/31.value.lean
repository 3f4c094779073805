/-! the best: the least cost of the nights that are left, and the first plan of it -/
abbrev zs_T : Type := (Nat → Bool → Bool) × (Nat → Nat → Nat) × Nat × Nat × Nat
def zs_ok (K : zs_T) (n : Nat) (h : Bool) : Bool := K.1 n h
def zs_pr (K : zs_T) (n h : Nat) : Nat := K.2.1 n h
def zs_m (K : zs_T) : Nat := K.2.2.1
def zs_a (K : zs_T) : Nat := K.2.2.2.1
def zs_j (K : zs_T) : Nat := K.2.2.2.2
def zs_G (K : zs_T) : Prop := 1 ≤ zs_m K ∧ zs_m K ≤ 14 ∧ zs_a K ≤ 9 ∧ zs_j K ≤ 9 ∧ (∀ n h, zs_pr K n h ≤ 108) ∧ ∀ n, n < 56 → zs_ok K n false = true ∨ zs_ok K n true = true
def zs_nw (K : zs_T) (b : Bool) (r : Nat) (h : Bool) : Nat := if r = 0 then 1 else if h = b then (if zs_m K < r then r else r + 1) else 1
def zs_hd (b : Bool) (r : Nat) (h : Bool) : Bool := decide (0 < r) && !decide (h = b)
def zs_F (K : zs_T) (v : Bool → Nat → Nat) (d : Nat) (h b : Bool) (r : Nat) : Nat :=
  if zs_ok K (55 - d) h = true then v h (zs_nw K b r h) + (if zs_hd b r h = true then zs_j K else 0) + (if zs_m K < zs_nw K b r h then zs_a K else 0) + zs_pr K (55 - d) (zc_b h) else 1000000
def zs_V (K : zs_T) : Nat → Bool → Nat → Nat
  | 0, _, _ => 0
  | d + 1, b, r => if zs_F K (zs_V K d) d true b r < zs_F K (zs_V K d) d false b r then zs_F K (zs_V K d) d true b r else zs_F K (zs_V K d) d false b r
def zs_c (K : zs_T) (d : Nat) (b : Bool) (r : Nat) : Bool := decide (zs_F K (zs_V K d) d true b r < zs_F K (zs_V K d) d false b r)
def zs_P (K : zs_T) : Nat → Bool → Nat → Nat → Bool
  | 0, _, _, _ => false
  | d + 1, b, r, i => if i = 55 - d then zs_c K d b r else zs_P K d (zs_c K d b r) (zs_nw K b r (zs_c K d b r)) i
theorem zs_nw_b {K : zs_T} {b : Bool} {r : Nat} {h : Bool} (hr : r ≤ zs_m K + 1) (hm : 1 ≤ zs_m K) : 1 ≤ zs_nw K b r h ∧ zs_nw K b r h ≤ zs_m K + 1 := by
  unfold zs_nw
  split
  · omega
  · split
    · split <;> omega
    · omega
theorem zs_Vb {K : zs_T} (g : zs_G K) : ∀ d, d ≤ 56 → ∀ b r, zs_V K d b r ≤ d * 126
  | 0, _, _, _ => Nat.le_refl _
  | d + 1, hd, b, r => by
    obtain ⟨g1, g2, g3, g4, g5, g6⟩ := g
    have ih := zs_Vb ⟨g1, g2, g3, g4, g5, g6⟩ d (by omega)
    have key : ∀ h, zs_ok K (55 - d) h = true → zs_F K (zs_V K d) d h b r ≤ (d + 1) * 126 := by
      intro h e
      unfold zs_F
      rw [if_pos e]
      have a1 := ih h (zs_nw K b r h)
      have a2 := g5 (55 - d) (zc_b h)
      split <;> split <;> omega
    rw [zs_V]
    rcases g6 (55 - d) (by omega) with e | e
    · have := key _ e
      split <;> omega
    · have := key _ e
      split <;> omega
theorem zs_Fm {K : zs_T} {v : Bool → Nat → Nat} {d : Nat} {h b : Bool} (hm : 1 ≤ zs_m K) : zs_F K v d h b (zs_m K) = zs_F K v d h b (zs_m K + 1) := by
  have e1 : zs_nw K b (zs_m K) h = zs_nw K b (zs_m K + 1) h := by
    unfold zs_nw
    rw [if_neg (show ¬ zs_m K = 0 by omega), if_neg (show ¬ zs_m K + 1 = 0 by omega), if_neg (show ¬ zs_m K < zs_m K by omega), if_pos (show zs_m K < zs_m K + 1 by omega)]
  have e2 : zs_hd b (zs_m K) h = zs_hd b (zs_m K + 1) h := by
    unfold zs_hd
    rw [show decide (0 < zs_m K) = true by simp; omega, show decide (0 < zs_m K + 1) = true by simp]
  unfold zs_F
  rw [e1, e2]
theorem zs_Vm {K : zs_T} {d : Nat} {b : Bool} (hm : 1 ≤ zs_m K) : zs_V K d b (zs_m K) = zs_V K d b (zs_m K + 1) := by
  cases d with
  | zero => rfl
  | succ d => rw [zs_V, zs_V, zs_Fm hm, zs_Fm hm]
theorem zs_Pm {K : zs_T} {d : Nat} {b : Bool} {i : Nat} (hm : 1 ≤ zs_m K) : zs_P K d b (zs_m K) i = zs_P K d b (zs_m K + 1) i := by
  cases d with
  | zero => rfl
  | succ d =>
    have e : zs_c K d b (zs_m K) = zs_c K d b (zs_m K + 1) := by unfold zs_c; rw [zs_Fm hm, zs_Fm hm]
    have e1 : zs_nw K b (zs_m K) (zs_c K d b (zs_m K + 1)) = zs_nw K b (zs_m K + 1) (zs_c K d b (zs_m K + 1)) := by
      unfold zs_nw
      rw [if_neg (show ¬ zs_m K = 0 by omega), if_neg (show ¬ zs_m K + 1 = 0 by omega), if_neg (show ¬ zs_m K < zs_m K by omega), if_pos (show zs_m K < zs_m K + 1 by omega)]
    rw [zs_P, zs_P, e, e1]
theorem zs_P0 {K : zs_T} : ∀ d, d ≤ 56 → ∀ b r i, (i < 56 - d ∨ 56 ≤ i) → zs_P K d b r i = false
  | 0, _, _, _, _, _ => rfl
  | d + 1, hd, b, r, i, hi => by rw [zs_P, if_neg (by omega)]; exact zs_P0 d (by omega) _ _ _ (by omega)
/-- the price at a house, as the class has it -/
def zs_pc (K : zs_T) (n : Nat) (h : Bool) : Nat := if zs_ok K n h = true then zs_pr K n (zc_b h) else 1000000
def zs_nx (K : zs_T) (r : Nat) : Nat := if r = zs_m K then r else r + 1
def zs_mo (K : zs_T) (r : Nat) : Nat := if r = zs_m K then zs_a K else 0
def zs_st (K : zs_T) (d : Nat) (b : Bool) (r : Nat) : Nat := zs_pc K (55 - d) b + zs_mo K r + zs_V K d b (zs_nx K r)
def zs_tu (K : zs_T) (d : Nat) (b : Bool) : Nat := zs_pc K (55 - d) b + zs_V K d b 1 + zs_j K
theorem zs_Vnx {K : zs_T} {d : Nat} {b : Bool} {r : Nat} (h1 : 1 ≤ r) (hr : r ≤ zs_m K) : zs_V K d b (zs_nw K b r b) = zs_V K d b (zs_nx K r) ∧ (∀ i, zs_P K d b (zs_nw K b r b) i = zs_P K d b (zs_nx K r) i) ∧ (if zs_m K < zs_nw K b r b then zs_a K else 0) = zs_mo K r := by
  have e : zs_nw K b r b = r + 1 := by
    unfold zs_nw
    rw [if_neg (by omega), if_pos rfl, if_neg (by omega)]
  rw [e]
  unfold zs_nx zs_mo
  by_cases q : r = zs_m K
  · rw [if_pos q, if_pos q, if_pos (by omega), q]
    exact ⟨(zs_Vm (by omega)).symm, fun i => (zs_Pm (by omega)).symm, rfl⟩
  · rw [if_neg q, if_neg q, if_neg (by omega)]
    exact ⟨rfl, fun _ => rfl, rfl⟩
theorem zs_Fst {K : zs_T} {d : Nat} {b : Bool} {r : Nat} (h1 : 1 ≤ r) (hr : r ≤ zs_m K) : zs_F K (zs_V K d) d b b r = if zs_ok K (55 - d) b = true then zs_st K d b r else 1000000 := by
  obtain ⟨e1, -, e3⟩ := zs_Vnx (K := K) (d := d) (b := b) h1 hr
  unfold zs_F
  split
  · next h =>
    unfold zs_st zs_pc
    rw [e1, e3, if_pos h, show zs_hd b r b = false by unfold zs_hd; simp, if_neg (by decide)]
    omega
  · rfl
theorem zs_Ftu {K : zs_T} {d : Nat} {b : Bool} {r : Nat} (h1 : 1 ≤ r) (hr : r ≤ zs_m K) : zs_F K (zs_V K d) d (!b) b r = if zs_ok K (55 - d) (!b) = true then zs_tu K d (!b) else 1000000 := by
  have e : zs_nw K b r (!b) = 1 := by
    unfold zs_nw
    rw [if_neg (by omega), if_neg (by cases b <;> decide)]
  have e2 : zs_hd b r (!b) = true := by
    unfold zs_hd
    cases b <;> simp <;> omega
  unfold zs_F
  rw [e, e2]
  by_cases h : zs_ok K (55 - d) (!b) = true
  · unfold zs_tu zs_pc
    rw [if_pos h, if_pos h, if_pos h, if_pos rfl, if_neg (show ¬ zs_m K < 1 by omega)]
    omega
  · rw [if_neg h, if_neg h]
theorem zs_stb {K : zs_T} (g : zs_G K) {d : Nat} {b : Bool} {r : Nat} (hd : d < 56) : (zs_ok K (55 - d) b = true → zs_st K d b r < 1000000) ∧ (¬ zs_ok K (55 - d) b = true → 1000000 ≤ zs_st K d b r) ∧ zs_st K d b r < 2 ^ 30 ∧ (zs_ok K (55 - d) b = true → zs_tu K d b < 1000000) ∧ (¬ zs_ok K (55 - d) b = true → 1000000 ≤ zs_tu K d b) ∧ zs_tu K d b < 2 ^ 30 := by
  have v1 := zs_Vb g d (by omega) b (zs_nx K r)
  have v2 := zs_Vb g d (by omega) b 1
  obtain ⟨g1, g2, g3, g4, g5, g6⟩ := g
  have p := g5 (55 - d) (zc_b b)
  have hmo : zs_mo K r ≤ 9 := by unfold zs_mo; split <;> omega
  unfold zs_st zs_tu zs_pc
  by_cases q : zs_ok K (55 - d) b = true
  · rw [if_pos q]
    exact ⟨fun _ => by omega, fun h => absurd q h, by omega, fun _ => by omega, fun h => absurd q h, by omega⟩
  · rw [if_neg q]
    exact ⟨fun h => absurd h q, fun _ => by omega, by omega, fun h => absurd h q, fun _ => by omega, by omega⟩
/-- a step of the class -/
theorem zs_step0 {K : zs_T} (g : zs_G K) {d : Nat} {r : Nat} (hd : d < 56) (h1 : 1 ≤ r) (hr : r ≤ zs_m K) : zs_c K d false r = decide (zs_tu K d true < zs_st K d false r) ∧ zs_V K (d + 1) false r = if zs_tu K d true < zs_st K d false r then zs_tu K d true else zs_st K d false r := by
  obtain ⟨a1, a2, a3, a4, a5, a6⟩ := zs_stb g (d := d) (b := false) (r := r) hd
  obtain ⟨b1, b2, b3, b4, b5, b6⟩ := zs_stb g (d := d) (b := true) (r := r) hd
  have f0 := zs_Fst (K := K) (d := d) (b := false) h1 hr
  have f1 := zs_Ftu (K := K) (d := d) (b := false) h1 hr
  rw [show (!false) = true from rfl] at f1
  have so := g.2.2.2.2.2 (55 - d) (by omega)
  unfold zs_c
  rw [zs_V, f0, f1]
  by_cases q0 : zs_ok K (55 - d) false = true
  · by_cases q1 : zs_ok K (55 - d) true = true
    · rw [if_pos q0, if_pos q1]
      exact ⟨rfl, rfl⟩
    · rw [if_pos q0, if_neg q1]
      have c0 := a1 q0
      have c1 := b5 q1
      rw [if_neg (by omega), if_neg (by omega)]
      refine ⟨?_, rfl⟩
      rw [decide_eq_false (by omega), decide_eq_false (by omega)]
  · have q1 : zs_ok K (55 - d) true = true := by rcases so with e | e; exact absurd e q0; exact e
    rw [if_neg q0, if_pos q1]
    have c0 := a2 q0
    have c1 := b4 q1
    rw [if_pos (by omega), if_pos (by omega)]
    refine ⟨?_, rfl⟩
    rw [decide_eq_true (by omega), decide_eq_true (by omega)]
theorem zs_step1 {K : zs_T} (g : zs_G K) {d : Nat} {r : Nat} (hd : d < 56) (h1 : 1 ≤ r) (hr : r ≤ zs_m K) : zs_c K d true r = decide (zs_st K d true r < zs_tu K d false) ∧ zs_V K (d + 1) true r = if zs_st K d true r < zs_tu K d false then zs_st K d true r else zs_tu K d false := by
  obtain ⟨a1, a2, a3, a4, a5, a6⟩ := zs_stb g (d := d) (b := false) (r := r) hd
  obtain ⟨b1, b2, b3, b4, b5, b6⟩ := zs_stb g (d := d) (b := true) (r := r) hd
  have f0 := zs_Fst (K := K) (d := d) (b := true) h1 hr
  have f1 := zs_Ftu (K := K) (d := d) (b := true) h1 hr
  rw [show (!true) = false from rfl] at f1
  have so := g.2.2.2.2.2 (55 - d) (by omega)
  unfold zs_c
  rw [zs_V, f0, f1]
  by_cases q0 : zs_ok K (55 - d) false = true
  · by_cases q1 : zs_ok K (55 - d) true = true
    · rw [if_pos q0, if_pos q1]
      exact ⟨rfl, rfl⟩
    · rw [if_pos q0, if_neg q1]
      have c0 := a4 q0
      have c1 := b2 q1
      rw [if_neg (by omega), if_neg (by omega)]
      refine ⟨?_, rfl⟩
      rw [decide_eq_false (by omega), decide_eq_false (by omega)]
  · have q1 : zs_ok K (55 - d) true = true := by rcases so with e | e; exact absurd e q0; exact e
    rw [if_neg q0, if_pos q1]
    have c0 := a5 q0
    have c1 := b1 q1
    rw [if_pos (by omega), if_pos (by omega)]
    refine ⟨?_, rfl⟩
    rw [decide_eq_true (by omega), decide_eq_true (by omega)]
/-- the first night -/
def zs_fi (K : zs_T) (b : Bool) : Nat := zs_pc K 0 b + zs_V K 55 b 1
theorem zs_last {K : zs_T} (g : zs_G K) : zs_c K 55 false 0 = decide (zs_fi K true < zs_fi K false) ∧ zs_V K 56 false 0 = (if zs_fi K true < zs_fi K false then zs_fi K true else zs_fi K false) ∧ zs_fi K true < 2 ^ 30 ∧ zs_fi K false < 2 ^ 30 := by
  have vb := fun b => zs_Vb g 55 (by omega) b 1
  have v0 := vb false
  have v1 := vb true
  obtain ⟨g1, g2, g3, g4, g5, g6⟩ := g
  have so := g6 0 (by omega)
  have f : ∀ b, zs_F K (zs_V K 55) 55 b false 0 = if zs_ok K 0 b = true then zs_fi K b else 1000000 := by
    intro b
    unfold zs_F zs_fi zs_pc
    rw [show 55 - 55 = 0 from rfl, show zs_nw K false 0 b = 1 from rfl, show zs_hd false 0 b = false from rfl, if_neg (c := false = true) (by decide), if_neg (c := zs_m K < 1) (by omega)]
    split
    · omega
    · rfl
  have p0 := g5 0 (zc_b false)
  have p1 := g5 0 (zc_b true)
  have l0 : (zs_ok K 0 false = true → zs_fi K false < 1000000) ∧ (¬ zs_ok K 0 false = true → 1000000 ≤ zs_fi K false) ∧ zs_fi K false < 2 ^ 30 := by
    unfold zs_fi zs_pc
    by_cases q : zs_ok K 0 false = true
    · rw [if_pos q]; exact ⟨fun _ => by omega, fun h => absurd q h, by omega⟩
    · rw [if_neg q]; exact ⟨fun h => absurd h q, fun _ => by omega, by omega⟩
  have l1 : (zs_ok K 0 true = true → zs_fi K true < 1000000) ∧ (¬ zs_ok K 0 true = true → 1000000 ≤ zs_fi K true) ∧ zs_fi K true < 2 ^ 30 := by
    unfold zs_fi zs_pc
    by_cases q : zs_ok K 0 true = true
    · rw [if_pos q]; exact ⟨fun _ => by omega, fun h => absurd q h, by omega⟩
    · rw [if_neg q]; exact ⟨fun h => absurd h q, fun _ => by omega, by omega⟩
  unfold zs_c
  rw [show zs_V K 56 false 0 = zs_V K (55 + 1) false 0 from rfl, zs_V, f, f]
  by_cases q0 : zs_ok K 0 false = true
  · by_cases q1 : zs_ok K 0 true = true
    · rw [if_pos q0, if_pos q1]
      exact ⟨rfl, rfl, l1.2.2, l0.2.2⟩
    · rw [if_pos q0, if_neg q1]
      have c0 := l0.1 q0
      have c1 := l1.2.1 q1
      rw [if_neg (by omega), if_neg (by omega)]
      refine ⟨?_, rfl, l1.2.2, l0.2.2⟩
      rw [decide_eq_false (by omega), decide_eq_false (by omega)]
  · have q1 : zs_ok K 0 true = true := by rcases so with e | e; exact absurd e q0; exact e
    rw [if_neg q0, if_pos q1]
    have c0 := l0.2.1 q0
    have c1 := l1.1 q1
    rw [if_pos (by omega), if_pos (by omega)]
    refine ⟨?_, rfl, l1.2.2, l0.2.2⟩
    rw [decide_eq_true (by omega), decide_eq_true (by omega)]
