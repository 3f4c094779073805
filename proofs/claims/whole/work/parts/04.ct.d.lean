theorem hd_X6_tellTo : yX6_tellTo.cls ≠ "java/lang/invoke/MethodHandle" ∧ yX6_tellTo.cls ≠ "java/lang/invoke/VarHandle" ∧ (parseMethodDescriptor yX6_tellTo.desc).map (fun d => d.parameters.length) = some 1 := by decide +kernel
set_option maxRecDepth 20000 in
theorem in_X6_tellTo_X2 : ∀ w ∈ u_ws RX2 TX2 6, w ∈ wsX6_tellTo := by decide +kernel
set_option maxRecDepth 20000 in
theorem in_X6_tellTo_X6 : ∀ w ∈ u_ws RX6 TX6 2, w ∈ wsX6_tellTo := by decide +kernel
set_option maxRecDepth 20000 in
theorem lk_X6_tellTo_0 : Cond.fieldLink RX6 43 "TwoHousesOneChild$Paper" "size" "I" ∈ wsX6_tellTo := by decide +kernel
set_option maxRecDepth 20000 in
theorem lk_X6_tellTo_1 : Cond.fieldLink RX6 15 "TwoHousesOneChild$Text" "length" "I" ∈ wsX6_tellTo := by decide +kernel
set_option maxHeartbeats 4000000 in
set_option maxRecDepth 100000 in
theorem ct_X6_tellTo (l : Launch) (dC : Nat → ClassId) (dI : Nat → Nat → Nat) (cI cJ cB cZ : ClassId) (a_r1 a_r1_numbers a_r1_ones a_r1_ranks a_r1_told a_r1_turnsByYear a_t a_t_signs : Nat) (r1_size : Int32) (r1_numbers : (Nat → Int32)) (r1_ones : (Nat → Int64)) (r1_ranks : (Nat → Int32)) (r1_told : (Nat → Int64)) (r1_turnsByYear : (Nat → Int32)) (t_length : Int32) (t_signs : (Nat → Int32)) (o1 : Int32) (o2 : (Nat → Int32)) (o3 : (Nat → Int64)) (o4 : (Nat → Int32)) (o5 : (Nat → Int64)) (o6 : (Nat → Int32)) (h : fn_X6_tellTo r1_numbers r1_ones r1_ranks r1_told r1_turnsByYear t_length t_signs = some (o1, o2, o3, o4, o5, o6)) : zz_M l yX6_tellTo wsX6_tellTo ({ frames := 4, cells := 0, slots := 0, locals := 93 }) (dC, dI) (zz_T cI cJ cB cZ) [.ref a_t, .ref a_r1] [(a_r1, .inr (1, [.int r1_size, .ref a_r1_numbers, .ref a_r1_ranks, .ref a_r1_told, .ref a_r1_ones, .ref a_r1_turnsByYear])), (a_r1_numbers, .inl (cI, 10, .inl r1_numbers)), (a_r1_ones, .inl (cJ, 10, .inr (.inl r1_ones))), (a_r1_ranks, .inl (cI, 10, .inl r1_ranks)), (a_r1_told, .inl (cJ, 10, .inr (.inl r1_told))), (a_r1_turnsByYear, .inl (cZ, 10, .inl r1_turnsByYear)), (a_t, .inr (5, [.ref a_t_signs, .int t_length])), (a_t_signs, .inl (cB, 64, .inl t_signs))] (zz_QV (dC, dI) (zz_T cI cJ cB cZ) (o1, o2, o3, o4, o5, o6) (fun (u : Int32 × (Nat → Int32) × (Nat → Int64) × (Nat → Int32) × (Nat → Int64) × (Nat → Int32)) => [(a_r1, .inr (1, [.int u.1, .ref a_r1_numbers, .ref a_r1_ranks, .ref a_r1_told, .ref a_r1_ones, .ref a_r1_turnsByYear])), (a_r1_numbers, .inl (cI, 10, .inl u.2.1)), (a_r1_ones, .inl (cJ, 10, .inr (.inl u.2.2.1))), (a_r1_ranks, .inl (cI, 10, .inl u.2.2.2.1)), (a_r1_told, .inl (cJ, 10, .inr (.inl u.2.2.2.2.1))), (a_r1_turnsByYear, .inl (cZ, 10, .inl u.2.2.2.2.2)), (a_t, .inr (5, [.ref a_t_signs, .int t_length])), (a_t_signs, .inl (cB, 64, .inl t_signs))])) := by
  unfold fn_X6_tellTo at h
  refine zz_of (by decide) rfl (Nat.le_of_ble_eq_true rfl) ?_
  intro p e s m below meth c A ls hx hb hr hml hts hown hlocks hA hS hP hK hD hl
  have hown : s.vm.findClass RX6 = some m.cls := hown
  have hl : lv_has ls 4 [(0, .ref a_t), (1, .ref a_r1)] := hl
  refine lv_aload_n hx hb dX6_tellTo_0 rfl (lv_at hl 1 rfl) ?_
  refine lv_iconst (v := 0) hx hb dX6_tellTo_1 (by decide) ?_
  refine va_put (ci := 1) (v := .int 0) (ty := .int) (C := RX2) (T := TX2) (N := 6) hx hb hts in_X6_tellTo_X2 tyX2 tyX2_ok nmX2 hown hK hP hD hS 0 rfl rfl 0 (by decide) (hts _ lk_X6_tellTo_0) (fun _ h9 => h9) rfl (by decide +kernel) rfl rfl (Nat.le_of_ble_eq_true rfl) dX6_tellTo_2 (fun H locs hP hD hS => ?_)
  have hP : va_P (dC, dI) vwCl [(a_r1, .inr (1, [.int 0, .ref a_r1_numbers, .ref a_r1_ranks, .ref a_r1_told, .ref a_r1_ones, .ref a_r1_turnsByYear])), (a_r1_numbers, .inl (cI, 10, .inl r1_numbers)), (a_r1_ones, .inl (cJ, 10, .inr (.inl r1_ones))), (a_r1_ranks, .inl (cI, 10, .inl r1_ranks)), (a_r1_told, .inl (cJ, 10, .inr (.inl r1_told))), (a_r1_turnsByYear, .inl (cZ, 10, .inl r1_turnsByYear)), (a_t, .inr (5, [.ref a_t_signs, .int t_length])), (a_t_signs, .inl (cB, 64, .inl t_signs))] H := hP
  have hD : va_D A [(a_r1, .inr (1, [.int 0, .ref a_r1_numbers, .ref a_r1_ranks, .ref a_r1_told, .ref a_r1_ones, .ref a_r1_turnsByYear])), (a_r1_numbers, .inl (cI, 10, .inl r1_numbers)), (a_r1_ones, .inl (cJ, 10, .inr (.inl r1_ones))), (a_r1_ranks, .inl (cI, 10, .inl r1_ranks)), (a_r1_told, .inl (cJ, 10, .inr (.inl r1_told))), (a_r1_turnsByYear, .inl (cZ, 10, .inl r1_turnsByYear)), (a_t, .inr (5, [.ref a_t_signs, .int t_length])), (a_t_signs, .inl (cB, 64, .inl t_signs))] := hD
  refine lv_iconst (v := 0) hx hb dX6_tellTo_5 (by decide) ?_
  refine lv_istore_n (lv' := [(2, .int 0), (0, .ref a_t), (1, .ref a_r1)]) hx hb dX6_tellTo_6 rfl hl (by decide) rfl (fun ls hl => ?_)
  refine lv_iconst (v := 0) hx hb dX6_tellTo_7 (by decide) ?_
  refine lv_istore_n (lv' := [(3, .int 0), (2, .int 0), (0, .ref a_t), (1, .ref a_r1)]) hx hb dX6_tellTo_8 rfl hl (by decide) rfl (fun ls hl => ?_)
  obtain ⟨x37, g38, g39, g40, g41, g42, hit36, h⟩ := zz_b6E h
  refine zz_cut (fun V => ∀ (H : Heap) (locs : List Loc) (ls : Array Slot), va_P (dC, dI) vwCl [(a_r1, .inr (1, [.int x37, .ref a_r1_numbers, .ref a_r1_ranks, .ref a_r1_told, .ref a_r1_ones, .ref a_r1_turnsByYear])), (a_r1_numbers, .inl (cI, 10, .inl g38)), (a_r1_ones, .inl (cJ, 10, .inr (.inl g39))), (a_r1_ranks, .inl (cI, 10, .inl g40)), (a_r1_told, .inl (cJ, 10, .inr (.inl g41))), (a_r1_turnsByYear, .inl (cZ, 10, .inl g42)), (a_t, .inr (5, [.ref a_t_signs, .int t_length])), (a_t_signs, .inl (cB, 64, .inl t_signs))] H → va_D A [(a_r1, .inr (1, [.int x37, .ref a_r1_numbers, .ref a_r1_ranks, .ref a_r1_told, .ref a_r1_ones, .ref a_r1_turnsByYear])), (a_r1_numbers, .inl (cI, 10, .inl g38)), (a_r1_ones, .inl (cJ, 10, .inr (.inl g39))), (a_r1_ranks, .inl (cI, 10, .inl g40)), (a_r1_told, .inl (cJ, 10, .inr (.inl g41))), (a_r1_turnsByYear, .inl (cZ, 10, .inl g42)), (a_t, .inr (5, [.ref a_t_signs, .int t_length])), (a_t_signs, .inl (cB, 64, .inl t_signs))] → va_S A s.heap H locs → lv_has ls 4 [] → V H locs (F0 m 43 ls [])) ?_ (fun hE36 => ?_)
  · intro H locs ls hP hD hS hl
    exact zz_vret (x37, g38, g39, g40, g41, g42) hx hb hr hlocks dX6_tellTo_43 (Option.some.inj h) hP hK hD hS
  refine zz_cut (fun V => ∀ (n : Nat) (x29 : Int32) (x30 : Int32) (x31 : Int32) (g32 : (Nat → Int32)) (g33 : (Nat → Int64)) (g34 : (Nat → Int32)) (g35 : (Nat → Int64)) (g36 : (Nat → Int32)) (H : Heap) (locs : List Loc) (ls : Array Slot), zz_it (fun z => fb_X6_tellTo_9 t_length t_signs z.1 z.2.1 z.2.2.1 z.2.2.2.1 z.2.2.2.2.1 z.2.2.2.2.2.1 z.2.2.2.2.2.2.1 z.2.2.2.2.2.2.2) n (x29, x30, x31, g32, g33, g34, g35, g36) = some (x37, g38, g39, g40, g41, g42) → va_P (dC, dI) vwCl [(a_r1, .inr (1, [.int x31, .ref a_r1_numbers, .ref a_r1_ranks, .ref a_r1_told, .ref a_r1_ones, .ref a_r1_turnsByYear])), (a_r1_numbers, .inl (cI, 10, .inl g32)), (a_r1_ones, .inl (cJ, 10, .inr (.inl g33))), (a_r1_ranks, .inl (cI, 10, .inl g34)), (a_r1_told, .inl (cJ, 10, .inr (.inl g35))), (a_r1_turnsByYear, .inl (cZ, 10, .inl g36)), (a_t, .inr (5, [.ref a_t_signs, .int t_length])), (a_t_signs, .inl (cB, 64, .inl t_signs))] H → va_D A [(a_r1, .inr (1, [.int x31, .ref a_r1_numbers, .ref a_r1_ranks, .ref a_r1_told, .ref a_r1_ones, .ref a_r1_turnsByYear])), (a_r1_numbers, .inl (cI, 10, .inl g32)), (a_r1_ones, .inl (cJ, 10, .inr (.inl g33))), (a_r1_ranks, .inl (cI, 10, .inl g34)), (a_r1_told, .inl (cJ, 10, .inr (.inl g35))), (a_r1_turnsByYear, .inl (cZ, 10, .inl g36)), (a_t, .inr (5, [.ref a_t_signs, .int t_length])), (a_t_signs, .inl (cB, 64, .inl t_signs))] → va_S A s.heap H locs → lv_has ls 4 [(0, .ref a_t), (1, .ref a_r1), (2, .int x29), (3, .int x30)] → V H locs (F0 m 9 ls [])) ?_ (fun hL36 => ?_)
  · intro n
    induction n with
    | zero => intro x29 x30 x31 g32 g33 g34 g35 g36 H locs ls hit36; exact (zz_it0 hit36).elim
    | succ n ih36 =>
      intro x29 x30 x31 g32 g33 g34 g35 g36 H locs ls hit36 hP hD hS hl
      obtain ⟨y36, hb36, hy36⟩ := zz_itE hit36
      have hb36 : fb_X6_tellTo_9 t_length t_signs x29 x30 x31 g32 g33 g34 g35 g36 = some y36 := hb36
      unfold fb_X6_tellTo_9 at hb36
      refine lv_iload_n hx hb dX6_tellTo_9 rfl (lv_at hl 3 rfl) ?_
      refine lv_bipush (v := 10) hx hb dX6_tellTo_10 (by decide) ?_
      refine lv_icmp_ge (tgt := 43) hx hb dX6_tellTo_12 (by decide) (fun c43 => ?_) (fun c43 => ?_)
      · have hb36 := zz_if c43 hb36
        obtain rfl := Option.some.inj hb36
        have hy36 := Option.some.inj hy36
        cases hy36
        exact hE36 _ _ ls hP hD hS (lv_sub hl [] rfl)
      · have hb36 := zz_ifn c43 hb36
        refine lv_iload_n hx hb dX6_tellTo_15 rfl (lv_at hl 2 rfl) ?_
        refine lv_aload_n hx hb dX6_tellTo_16 rfl (lv_at hl 0 rfl) ?_
        refine va_get (ci := 5) (v := .int t_length) (C := RX6) (T := TX6) (N := 2) hx hb hts in_X6_tellTo_X6 hown hK hP 6 rfl rfl 1 (by decide) (hts _ lk_X6_tellTo_1) (fun _ h9 => h9) rfl dX6_tellTo_17 ?_
        refine lv_icmp_ge (tgt := 43) hx hb dX6_tellTo_20 (by decide) (fun c44 => ?_) (fun c44 => ?_)
        · have hb36 := zz_if c44 hb36
          obtain rfl := Option.some.inj hb36
          have hy36 := Option.some.inj hy36
          cases hy36
          exact hE36 _ _ ls hP hD hS (lv_sub hl [] rfl)
        · have hb36 := zz_ifn c44 hb36
          refine lv_aload_n hx hb dX6_tellTo_23 rfl (lv_at hl 0 rfl) ?_
          refine lv_aload_n hx hb dX6_tellTo_24 rfl (lv_at hl 1 rfl) ?_
          refine lv_iload_n hx hb dX6_tellTo_25 rfl (lv_at hl 2 rfl) ?_
          obtain ⟨x45, g46, g47, g48, g49, g50, he51, hb36⟩ := zz_b6E hb36
          refine zz_VV (q := (RX6, TX6, 2)) (As := [.ref a_r1, .int x29]) (rest := []) (wr := []) (wm := [(a_r1, .inr (1, [.int x45, .ref a_r1_numbers, .ref a_r1_ranks, .ref a_r1_told, .ref a_r1_ones, .ref a_r1_turnsByYear])), (a_r1_numbers, .inl (cI, 10, .inl g46)), (a_r1_ones, .inl (cJ, 10, .inr (.inl g47))), (a_r1_ranks, .inl (cI, 10, .inl g48)), (a_r1_told, .inl (cJ, 10, .inr (.inl g49))), (a_r1_turnsByYear, .inl (cZ, 10, .inl g50)), (a_t, .inr (5, [.ref a_t_signs, .int t_length])), (a_t_signs, .inl (cB, 64, .inl t_signs))]) ⟨hx, hb, hml, hown, hts⟩ (ct_X6_tellRule l dC dI cI cJ cB cZ a_r1 a_r1_numbers a_r1_ones a_r1_ranks a_r1_told a_r1_turnsByYear a_t a_t_signs x31 g32 g33 g34 g35 g36 t_length t_signs x29 x45 g46 g47 g48 g49 g50 he51) gX6_tellTo_X6_tellRule hd_X6_tellRule rfl rfl rfl ⟨Nat.le_of_ble_eq_true rfl, Nat.le_of_ble_eq_true rfl⟩ ⟨Nat.le_of_ble_eq_true rfl, Nat.le_of_ble_eq_true rfl⟩ rfl rfl (Nat.le_of_ble_eq_true rfl) dX6_tellTo_26 hl.1 rfl (ci := 5) rfl (q0 := 6) rfl hP hK hD hS hA [0, 1, 2, 3, 4, 5, 6, 7] [] [0, 1, 2, 3, 4, 5, 6, 7] rfl rfl (by decide) (by decide) (by decide) (by decide) rfl (fun H locs hP hD hS => ?_)
          refine lv_iload_n hx hb dX6_tellTo_29 rfl (lv_at hl 2 rfl) ?_
          refine lv_aload_n hx hb dX6_tellTo_30 rfl (lv_at hl 0 rfl) ?_
          refine lv_iload_n hx hb dX6_tellTo_31 rfl (lv_at hl 2 rfl) ?_
          obtain ⟨x52, u53, he54, hb36⟩ := zz_b2E hb36
          refine zz_VI (q := (RX6, TX6, 2)) (As := [.int x29]) (rest := [.int x29]) (wr := [(a_r1, .inr (1, [.int x45, .ref a_r1_numbers, .ref a_r1_ranks, .ref a_r1_told, .ref a_r1_ones, .ref a_r1_turnsByYear])), (a_r1_numbers, .inl (cI, 10, .inl g46)), (a_r1_ones, .inl (cJ, 10, .inr (.inl g47))), (a_r1_ranks, .inl (cI, 10, .inl g48)), (a_r1_told, .inl (cJ, 10, .inr (.inl g49))), (a_r1_turnsByYear, .inl (cZ, 10, .inl g50))]) (wm := [(a_r1, .inr (1, [.int x45, .ref a_r1_numbers, .ref a_r1_ranks, .ref a_r1_told, .ref a_r1_ones, .ref a_r1_turnsByYear])), (a_r1_numbers, .inl (cI, 10, .inl g46)), (a_r1_ones, .inl (cJ, 10, .inr (.inl g47))), (a_r1_ranks, .inl (cI, 10, .inl g48)), (a_r1_told, .inl (cJ, 10, .inr (.inl g49))), (a_r1_turnsByYear, .inl (cZ, 10, .inl g50)), (a_t, .inr (5, [.ref a_t_signs, .int t_length])), (a_t_signs, .inl (cB, 64, .inl t_signs))]) ⟨hx, hb, hml, hown, hts⟩ (ct_X6_sizeOfRule l dC dI cI cJ cB cZ a_t a_t_signs t_length t_signs x29 x52 u53 he54) gX6_tellTo_X6_sizeOfRule hd_X6_sizeOfRule rfl rfl rfl ⟨Nat.le_of_ble_eq_true rfl, Nat.le_of_ble_eq_true rfl⟩ ⟨Nat.le_of_ble_eq_true rfl, Nat.le_of_ble_eq_true rfl⟩ rfl rfl (Nat.le_of_ble_eq_true rfl) dX6_tellTo_32 hl.1 rfl (ci := 5) rfl (q0 := 6) rfl hP hK hD hS hA [6, 7] [0, 1, 2, 3, 4, 5] [0, 1, 2, 3, 4, 5, 6, 7] rfl rfl (by decide) (by decide) (by decide) (by decide) rfl (fun H locs hP hD hS => ?_)
          refine lv_iadd hx hb dX6_tellTo_35 ?_
          refine lv_topi (fun x55 ex55 => ?_)
          have hb36 := zz_nmE ex55 hb36
          refine lv_istore_n (lv' := [(2, .int x55), (0, .ref a_t), (1, .ref a_r1), (3, .int x30)]) hx hb dX6_tellTo_36 rfl hl (by decide) rfl (fun ls hl => ?_)
          obtain ⟨x56, ex56⟩ : ∃ z : Int32, z = x30 + 1 := ⟨_, rfl⟩
          have hb36 := zz_nmE ex56 hb36
          refine lv_iinc (v := x56) (lv' := [(3, .int x56), (2, .int x55), (0, .ref a_t), (1, .ref a_r1)]) hx hb dX6_tellTo_37 hl (k := 3) rfl (by rw [ex56]; rfl) (by decide) rfl (fun ls hl => ?_)
          refine lv_goto (tgt := 9) hx hb dX6_tellTo_40 (by decide) ?_
          obtain rfl := Option.some.inj hb36
          exact ih36 x55 x56 x45 g46 g47 g48 g49 g50 _ _ ls hy36 hP hD hS (lv_sub hl [2, 3, 1, 0] rfl)
  exact hL36 zz_fuel 0 0 0 r1_numbers r1_ones r1_ranks r1_told r1_turnsByYear _ _ ls hit36 hP hD hS (lv_sub hl [2, 3, 1, 0] rfl)
theorem hd_X7_addWant : yX7_addWant.cls ≠ "java/lang/invoke/MethodHandle" ∧ yX7_addWant.cls ≠ "java/lang/invoke/VarHandle" ∧ (parseMethodDescriptor yX7_addWant.desc).map (fun d => d.parameters.length) = some 3 := by decide +kernel
set_option maxRecDepth 20000 in
theorem in_X7_addWant_X7 : ∀ w ∈ u_ws RX7 TX7 5, w ∈ wsX7_addWant := by decide +kernel
set_option maxRecDepth 20000 in
theorem lk_X7_addWant_0 : Cond.fieldLink RX7 21 "TwoHousesOneChild$Wishes" "against" "[I" ∈ wsX7_addWant := by decide +kernel
set_option maxRecDepth 20000 in
theorem lk_X7_addWant_1 : Cond.fieldLink RX7 25 "TwoHousesOneChild$Wishes" "wants" "I" ∈ wsX7_addWant := by decide +kernel
set_option maxHeartbeats 4000000 in
set_option maxRecDepth 100000 in
theorem ct_X7_addWant (l : Launch) (dC : Nat → ClassId) (dI : Nat → Nat → Nat) (cI cJ cB cZ : ClassId) (a_t a_t_against : Nat) (t_longest : Int32) (t_perLong : Int32) (t_perHanding : Int32) (t_wants : Int32) (t_against : (Nat → Int32)) (p1 : Int32) (p2 : Int32) (p3 : Int32) (rr : Int32) (o1 : Int32) (o2 : (Nat → Int32)) (h : fn_X7_addWant t_wants t_against p1 p2 p3 = some (rr, o1, o2)) : zz_M l yX7_addWant wsX7_addWant ({ frames := 0, cells := 0, slots := 0, locals := 0 }) (dC, dI) (zz_T cI cJ cB cZ) [.ref a_t, .int p1, .int p2, .int p3] [(a_t, .inr (6, [.int t_longest, .int t_perLong, .int t_perHanding, .int t_wants, .ref a_t_against])), (a_t_against, .inl (cI, 112, .inl t_against))] (zz_QI (dC, dI) (zz_T cI cJ cB cZ) (rr, o1, o2) (fun (u : Int32 × (Nat → Int32)) => [(a_t, .inr (6, [.int t_longest, .int t_perLong, .int t_perHanding, .int u.1, .ref a_t_against])), (a_t_against, .inl (cI, 112, .inl u.2))])) := by
  unfold fn_X7_addWant at h
  refine zz_of (by decide) rfl (Nat.le_of_ble_eq_true rfl) ?_
  intro p e s m below meth c A ls hx hb hr hml hts hown hlocks hA hS hP hK hD hl
  have hown : s.vm.findClass RX7 = some m.cls := hown
  have hl : lv_has ls 6 [(0, .ref a_t), (1, .int p1), (2, .int p2), (3, .int p3)] := hl
  refine lv_iconst (v := 1) hx hb dX7_addWant_0 (by decide) ?_
  refine lv_iload_n hx hb dX7_addWant_1 rfl (lv_at hl 2 rfl) ?_
  refine lv_isub hx hb dX7_addWant_2 ?_
  refine lv_bipush (v := 56) hx hb dX7_addWant_3 (by decide) ?_
  refine lv_imul hx hb dX7_addWant_5 ?_
  refine lv_iload_n hx hb dX7_addWant_6 rfl (lv_at hl 1 rfl) ?_
  refine lv_iadd hx hb dX7_addWant_7 ?_
  refine lv_topi (fun x1 ex1 => ?_)
  have h := zz_nmE ex1 h
  refine lv_istore (lv' := [(4, .int x1), (0, .ref a_t), (1, .int p1), (2, .int p2), (3, .int p3)]) hx hb dX7_addWant_8 hl (by decide) rfl (fun ls hl => ?_)
  refine lv_iload hx hb dX7_addWant_10 (lv_at hl 0 rfl) ?_
  obtain ⟨g7, hj8, h⟩ := zz_b1E h
  refine zz_cut (fun V => ∀ (H : Heap) (locs : List Loc) (ls : Array Slot), va_P (dC, dI) vwCl [(a_t, .inr (6, [.int t_longest, .int t_perLong, .int t_perHanding, .int t_wants, .ref a_t_against])), (a_t_against, .inl (cI, 112, .inl g7))] H → va_D A [(a_t, .inr (6, [.int t_longest, .int t_perLong, .int t_perHanding, .int t_wants, .ref a_t_against])), (a_t_against, .inl (cI, 112, .inl g7))] → va_S A s.heap H locs → lv_has ls 6 [(0, .ref a_t)] → V H locs (F0 m 36 ls [])) ?_ (fun hJ8 => ?_)
  · intro H locs ls hP hD hS hl
    refine lv_aload_n hx hb dX7_addWant_36 rfl (lv_at hl 0 rfl) ?_
    refine va_get (ci := 6) (v := .int t_wants) (C := RX7) (T := TX7) (N := 5) hx hb hts in_X7_addWant_X7 hown hK hP 0 rfl rfl 3 (by decide) (hts _ lk_X7_addWant_1) (fun _ h9 => h9) rfl dX7_addWant_37 ?_
    refine lv_istore (lv' := [(5, .int t_wants), (0, .ref a_t)]) hx hb dX7_addWant_40 hl (by decide) rfl (fun ls hl => ?_)
    refine lv_aload_n hx hb dX7_addWant_42 rfl (lv_at hl 1 rfl) ?_
    refine lv_dup hx hb dX7_addWant_43 rfl ?_
    refine va_get (ci := 6) (v := .int t_wants) (C := RX7) (T := TX7) (N := 5) hx hb hts in_X7_addWant_X7 hown hK hP 0 rfl rfl 3 (by decide) (hts _ lk_X7_addWant_1) (fun _ h9 => h9) rfl dX7_addWant_44 ?_
    refine lv_iconst (v := 1) hx hb dX7_addWant_47 (by decide) ?_
    refine lv_iadd hx hb dX7_addWant_48 ?_
    refine lv_topi (fun x9 ex9 => ?_)
    have h := zz_nmE ex9 h
    refine va_put (ci := 6) (v := .int x9) (ty := .int) (C := RX7) (T := TX7) (N := 5) hx hb hts in_X7_addWant_X7 tyX7 tyX7_ok nmX7 hown hK hP hD hS 0 rfl rfl 3 (by decide) (hts _ lk_X7_addWant_1) (fun _ h9 => h9) rfl (by decide +kernel) rfl rfl (Nat.le_of_ble_eq_true rfl) dX7_addWant_49 (fun H locs hP hD hS => ?_)
    have hP : va_P (dC, dI) vwCl [(a_t, .inr (6, [.int t_longest, .int t_perLong, .int t_perHanding, .int x9, .ref a_t_against])), (a_t_against, .inl (cI, 112, .inl g7))] H := hP
    have hD : va_D A [(a_t, .inr (6, [.int t_longest, .int t_perLong, .int t_perHanding, .int x9, .ref a_t_against])), (a_t_against, .inl (cI, 112, .inl g7))] := hD
    refine lv_iload hx hb dX7_addWant_52 (lv_at hl 0 rfl) ?_
    exact zz_iret (x9, g7) hx hb hr hlocks dX7_addWant_54 (Option.some.inj h) hP hK hD hS
  refine lv_if_lt (tgt := 36) hx hb dX7_addWant_12 (by decide) (fun c2 => ?_) (fun c2 => ?_)
  · have hj8 := zz_if c2 hj8
    cases hj8
    exact hJ8 _ _ ls hP hD hS (lv_sub hl [1] rfl)
  · have hj8 := zz_ifn c2 hj8
    refine lv_iload hx hb dX7_addWant_15 (lv_at hl 0 rfl) ?_
    refine lv_aload_n hx hb dX7_addWant_17 rfl (lv_at hl 1 rfl) ?_
    refine va_get (ci := 6) (v := .ref a_t_against) (C := RX7) (T := TX7) (N := 5) hx hb hts in_X7_addWant_X7 hown hK hP 0 rfl rfl 4 (by decide) (hts _ lk_X7_addWant_0) (fun _ h9 => h9) rfl dX7_addWant_18 ?_
    refine va_alen (v := 112) hx hb hK hP 1 0 rfl rfl rfl dX7_addWant_21 ?_
    refine lv_icmp_ge (tgt := 36) hx hb dX7_addWant_22 (by decide) (fun c10 => ?_) (fun c10 => ?_)
    · have hj8 := zz_if c10 hj8
      cases hj8
      exact hJ8 _ _ ls hP hD hS (lv_sub hl [1] rfl)
    · have hj8 := zz_ifn c10 hj8
      refine lv_aload_n hx hb dX7_addWant_25 rfl (lv_at hl 1 rfl) ?_
      refine va_get (ci := 6) (v := .ref a_t_against) (C := RX7) (T := TX7) (N := 5) hx hb hts in_X7_addWant_X7 hown hK hP 0 rfl rfl 4 (by decide) (hts _ lk_X7_addWant_0) (fun _ h9 => h9) rfl dX7_addWant_26 ?_
      refine lv_iload hx hb dX7_addWant_29 (lv_at hl 0 rfl) ?_
      refine lv_dup2_11 hx hb dX7_addWant_31 rfl rfl ?_
      obtain ⟨hi11, hj8⟩ := zz_chkE hj8
      refine va_iald hx hb hK hP 1 0 rfl rfl hi11 dX7_addWant_32 ?_
      refine lv_iload_n hx hb dX7_addWant_33 rfl (lv_at hl 4 rfl) ?_
      refine lv_iadd hx hb dX7_addWant_34 ?_
      obtain ⟨hi12, hj8⟩ := zz_chkE hj8
      refine zz_iast hx hb hK hP hD hS 1 0 rfl rfl hi12 dX7_addWant_35 (fun g13 => [(a_t, .inr (6, [.int t_longest, .int t_perLong, .int t_perHanding, .int t_wants, .ref a_t_against])), (a_t_against, .inl (cI, 112, .inl g13))]) (fun _ => rfl) (fun g13 H locs eg13 hP hD hS => ?_)
      have hj8 := zz_nmE eg13 hj8
      cases hj8
      exact hJ8 _ _ ls hP hD hS (lv_sub hl [1] rfl)
theorem hd_X7_dropWants : yX7_dropWants.cls ≠ "java/lang/invoke/MethodHandle" ∧ yX7_dropWants.cls ≠ "java/lang/invoke/VarHandle" ∧ (parseMethodDescriptor yX7_dropWants.desc).map (fun d => d.parameters.length) = some 0 := by decide +kernel
set_option maxRecDepth 20000 in
theorem in_X7_dropWants_X7 : ∀ w ∈ u_ws RX7 TX7 5, w ∈ wsX7_dropWants := by decide +kernel
set_option maxRecDepth 20000 in
theorem lk_X7_dropWants_0 : Cond.fieldLink RX7 25 "TwoHousesOneChild$Wishes" "wants" "I" ∈ wsX7_dropWants := by decide +kernel
set_option maxRecDepth 20000 in
theorem lk_X7_dropWants_1 : Cond.fieldLink RX7 21 "TwoHousesOneChild$Wishes" "against" "[I" ∈ wsX7_dropWants := by decide +kernel
set_option maxHeartbeats 4000000 in
set_option maxRecDepth 100000 in
theorem ct_X7_dropWants (l : Launch) (dC : Nat → ClassId) (dI : Nat → Nat → Nat) (cI cJ cB cZ : ClassId) (a_t a_t_against : Nat) (t_longest : Int32) (t_perLong : Int32) (t_perHanding : Int32) (t_wants : Int32) (t_against : (Nat → Int32)) (o1 : Int32) (o2 : (Nat → Int32)) (h : fn_X7_dropWants t_against = some (o1, o2)) : zz_M l yX7_dropWants wsX7_dropWants ({ frames := 0, cells := 0, slots := 0, locals := 0 }) (dC, dI) (zz_T cI cJ cB cZ) [.ref a_t] [(a_t, .inr (6, [.int t_longest, .int t_perLong, .int t_perHanding, .int t_wants, .ref a_t_against])), (a_t_against, .inl (cI, 112, .inl t_against))] (zz_QV (dC, dI) (zz_T cI cJ cB cZ) (o1, o2) (fun (u : Int32 × (Nat → Int32)) => [(a_t, .inr (6, [.int t_longest, .int t_perLong, .int t_perHanding, .int u.1, .ref a_t_against])), (a_t_against, .inl (cI, 112, .inl u.2))])) := by
  unfold fn_X7_dropWants at h
  refine zz_of (by decide) rfl (Nat.le_of_ble_eq_true rfl) ?_
  intro p e s m below meth c A ls hx hb hr hml hts hown hlocks hA hS hP hK hD hl
  have hown : s.vm.findClass RX7 = some m.cls := hown
  have hl : lv_has ls 2 [(0, .ref a_t)] := hl
  refine lv_aload_n hx hb dX7_dropWants_0 rfl (lv_at hl 0 rfl) ?_
  refine lv_iconst (v := 0) hx hb dX7_dropWants_1 (by decide) ?_
  refine va_put (ci := 6) (v := .int 0) (ty := .int) (C := RX7) (T := TX7) (N := 5) hx hb hts in_X7_dropWants_X7 tyX7 tyX7_ok nmX7 hown hK hP hD hS 0 rfl rfl 3 (by decide) (hts _ lk_X7_dropWants_0) (fun _ h9 => h9) rfl (by decide +kernel) rfl rfl (Nat.le_of_ble_eq_true rfl) dX7_dropWants_2 (fun H locs hP hD hS => ?_)
  have hP : va_P (dC, dI) vwCl [(a_t, .inr (6, [.int t_longest, .int t_perLong, .int t_perHanding, .int 0, .ref a_t_against])), (a_t_against, .inl (cI, 112, .inl t_against))] H := hP
  have hD : va_D A [(a_t, .inr (6, [.int t_longest, .int t_perLong, .int t_perHanding, .int 0, .ref a_t_against])), (a_t_against, .inl (cI, 112, .inl t_against))] := hD
  refine lv_iconst (v := 0) hx hb dX7_dropWants_5 (by decide) ?_
  refine lv_istore_n (lv' := [(1, .int 0), (0, .ref a_t)]) hx hb dX7_dropWants_6 rfl hl (by decide) rfl (fun ls hl => ?_)
  obtain ⟨g11, hit10, h⟩ := zz_b1E h
  refine zz_cut (fun V => ∀ (H : Heap) (locs : List Loc) (ls : Array Slot), va_P (dC, dI) vwCl [(a_t, .inr (6, [.int t_longest, .int t_perLong, .int t_perHanding, .int 0, .ref a_t_against])), (a_t_against, .inl (cI, 112, .inl g11))] H → va_D A [(a_t, .inr (6, [.int t_longest, .int t_perLong, .int t_perHanding, .int 0, .ref a_t_against])), (a_t_against, .inl (cI, 112, .inl g11))] → va_S A s.heap H locs → lv_has ls 2 [] → V H locs (F0 m 29 ls [])) ?_ (fun hE10 => ?_)
  · intro H locs ls hP hD hS hl
    exact zz_vret (0, g11) hx hb hr hlocks dX7_dropWants_29 (Option.some.inj h) hP hK hD hS
  refine zz_cut (fun V => ∀ (n : Nat) (x9 : Int32) (g10 : (Nat → Int32)) (H : Heap) (locs : List Loc) (ls : Array Slot), zz_it (fun z => fb_X7_dropWants_7 z.1 z.2) n (x9, g10) = some g11 → va_P (dC, dI) vwCl [(a_t, .inr (6, [.int t_longest, .int t_perLong, .int t_perHanding, .int 0, .ref a_t_against])), (a_t_against, .inl (cI, 112, .inl g10))] H → va_D A [(a_t, .inr (6, [.int t_longest, .int t_perLong, .int t_perHanding, .int 0, .ref a_t_against])), (a_t_against, .inl (cI, 112, .inl g10))] → va_S A s.heap H locs → lv_has ls 2 [(0, .ref a_t), (1, .int x9)] → V H locs (F0 m 7 ls [])) ?_ (fun hL10 => ?_)
  · intro n
    induction n with
    | zero => intro x9 g10 H locs ls hit10; exact (zz_it0 hit10).elim
    | succ n ih10 =>
      intro x9 g10 H locs ls hit10 hP hD hS hl
      obtain ⟨y10, hb10, hy10⟩ := zz_itE hit10
      have hb10 : fb_X7_dropWants_7 x9 g10 = some y10 := hb10
      unfold fb_X7_dropWants_7 at hb10
      refine lv_iload_n hx hb dX7_dropWants_7 rfl (lv_at hl 1 rfl) ?_
      refine lv_aload_n hx hb dX7_dropWants_8 rfl (lv_at hl 0 rfl) ?_
      refine va_get (ci := 6) (v := .ref a_t_against) (C := RX7) (T := TX7) (N := 5) hx hb hts in_X7_dropWants_X7 hown hK hP 0 rfl rfl 4 (by decide) (hts _ lk_X7_dropWants_1) (fun _ h9 => h9) rfl dX7_dropWants_9 ?_
      refine va_alen (v := 112) hx hb hK hP 1 0 rfl rfl rfl dX7_dropWants_12 ?_
      refine lv_icmp_ge (tgt := 29) hx hb dX7_dropWants_13 (by decide) (fun c12 => ?_) (fun c12 => ?_)
      · have hb10 := zz_if c12 hb10
        obtain rfl := Option.some.inj hb10
        have hy10 := Option.some.inj hy10
        cases hy10
        exact hE10 _ _ ls hP hD hS (lv_sub hl [] rfl)
      · have hb10 := zz_ifn c12 hb10
        refine lv_aload_n hx hb dX7_dropWants_16 rfl (lv_at hl 0 rfl) ?_
        refine va_get (ci := 6) (v := .ref a_t_against) (C := RX7) (T := TX7) (N := 5) hx hb hts in_X7_dropWants_X7 hown hK hP 0 rfl rfl 4 (by decide) (hts _ lk_X7_dropWants_1) (fun _ h9 => h9) rfl dX7_dropWants_17 ?_
        refine lv_iload_n hx hb dX7_dropWants_20 rfl (lv_at hl 1 rfl) ?_
        refine lv_iconst (v := 0) hx hb dX7_dropWants_21 (by decide) ?_
        obtain ⟨hi13, hb10⟩ := zz_chkE hb10
        refine zz_iast hx hb hK hP hD hS 1 0 rfl rfl hi13 dX7_dropWants_22 (fun g14 => [(a_t, .inr (6, [.int t_longest, .int t_perLong, .int t_perHanding, .int 0, .ref a_t_against])), (a_t_against, .inl (cI, 112, .inl g14))]) (fun _ => rfl) (fun g14 H locs eg14 hP hD hS => ?_)
        have hb10 := zz_nmE eg14 hb10
        obtain ⟨x15, ex15⟩ : ∃ z : Int32, z = x9 + 1 := ⟨_, rfl⟩
        have hb10 := zz_nmE ex15 hb10
        refine lv_iinc (v := x15) (lv' := [(1, .int x15), (0, .ref a_t)]) hx hb dX7_dropWants_23 hl (k := 1) rfl (by rw [ex15]; rfl) (by decide) rfl (fun ls hl => ?_)
        refine lv_goto (tgt := 7) hx hb dX7_dropWants_26 (by decide) ?_
        obtain rfl := Option.some.inj hb10
        exact ih10 x15 g14 _ _ ls hy10 hP hD hS (lv_sub hl [1, 0] rfl)
  exact hL10 zz_fuel 0 t_against _ _ ls hit10 hP hD hS (lv_sub hl [1, 0] rfl)
theorem hd_X7_costOf : yX7_costOf.cls ≠ "java/lang/invoke/MethodHandle" ∧ yX7_costOf.cls ≠ "java/lang/invoke/VarHandle" ∧ (parseMethodDescriptor yX7_costOf.desc).map (fun d => d.parameters.length) = some 1 := by decide +kernel
set_option maxRecDepth 20000 in
theorem in_X7_costOf_X7 : ∀ w ∈ u_ws RX7 TX7 5, w ∈ wsX7_costOf := by decide +kernel
set_option maxRecDepth 20000 in
theorem lk_X7_costOf_0 : Cond.fieldLink RX7 18 "TwoHousesOneChild$Wishes" "perHanding" "I" ∈ wsX7_costOf := by decide +kernel
set_option maxRecDepth 20000 in
theorem lk_X7_costOf_1 : Cond.fieldLink RX7 15 "TwoHousesOneChild$Wishes" "perLong" "I" ∈ wsX7_costOf := by decide +kernel
set_option maxRecDepth 20000 in
theorem lk_X7_costOf_2 : Cond.fieldLink RX7 9 "TwoHousesOneChild$Wishes" "longest" "I" ∈ wsX7_costOf := by decide +kernel
set_option maxRecDepth 20000 in
theorem lk_X7_costOf_3 : Cond.fieldLink RX7 25 "TwoHousesOneChild$Wishes" "wants" "I" ∈ wsX7_costOf := by decide +kernel
set_option maxHeartbeats 4000000 in
set_option maxRecDepth 100000 in
theorem ct_X7_costOf (l : Launch) (dC : Nat → ClassId) (dI : Nat → Nat → Nat) (cI cJ cB cZ : ClassId) (a_t a_t_against : Nat) (t_longest : Int32) (t_perLong : Int32) (t_perHanding : Int32) (t_wants : Int32) (t_against : (Nat → Int32)) (p1 : Int64) (rr : Int32) (u0 : Unit) (h : fn_X7_costOf t_longest t_perLong t_perHanding t_wants t_against p1 = some (rr, u0)) : zz_M l yX7_costOf wsX7_costOf ({ frames := 2, cells := 0, slots := 0, locals := 48 }) (dC, dI) (zz_T cI cJ cB cZ) [.ref a_t, .long p1] [(a_t, .inr (6, [.int t_longest, .int t_perLong, .int t_perHanding, .int t_wants, .ref a_t_against])), (a_t_against, .inl (cI, 112, .inl t_against))] (zz_QI (dC, dI) (zz_T cI cJ cB cZ) (rr, u0) (fun (u : Unit) => [(a_t, .inr (6, [.int t_longest, .int t_perLong, .int t_perHanding, .int t_wants, .ref a_t_against])), (a_t_against, .inl (cI, 112, .inl t_against))])) := by
  unfold fn_X7_costOf at h
  refine zz_of (by decide) rfl (Nat.le_of_ble_eq_true rfl) ?_
  intro p e s m below meth c A ls hx hb hr hml hts hown hlocks hA hS hP hK hD hl
  have hown : s.vm.findClass RX7 = some m.cls := hown
  have hl : lv_has ls 5 [(0, .ref a_t), (1, .long p1)] := hl
  refine lv_aload_n hx hb dX7_costOf_0 rfl (lv_at hl 0 rfl) ?_
  refine va_get (ci := 6) (v := .int t_perHanding) (C := RX7) (T := TX7) (N := 5) hx hb hts in_X7_costOf_X7 hown hK hP 0 rfl rfl 2 (by decide) (hts _ lk_X7_costOf_0) (fun _ h9 => h9) rfl dX7_costOf_1 ?_
  refine lv_lload_n hx hb dX7_costOf_4 rfl (lv_at hl 1 rfl) ?_
  obtain ⟨x1, u2, he3, h⟩ := zz_b2E h
  refine zz_PL (As := [.long p1]) (rest := [.int t_perHanding]) ⟨hx, hb, hml, hown, hts⟩ (ct_X1_handings l dC dI cI cJ cB cZ p1 x1 u2 he3) gX7_costOf_X1_handings hd_X1_handings rfl rfl rfl ⟨Nat.le_of_ble_eq_true rfl, Nat.le_of_ble_eq_true rfl⟩ ⟨Nat.le_of_ble_eq_true rfl, Nat.le_of_ble_eq_true rfl⟩ rfl rfl (Nat.le_of_ble_eq_true rfl) dX7_costOf_5 hl.1 hP hK hS hA (fun H locs hP hS => ?_)
  obtain ⟨x4, u5, he6, h⟩ := zz_b2E h
  refine zz_PI (As := [.long x1]) (rest := [.int t_perHanding]) ⟨hx, hb, hml, hown, hts⟩ (ct_J13_bitCount_95d88 l dC dI cI cJ cB cZ x1 x4 u5 he6) gX7_costOf_J13_bitCount_95d88 hd_J13_bitCount_95d88 rfl rfl rfl ⟨Nat.le_of_ble_eq_true rfl, Nat.le_of_ble_eq_true rfl⟩ ⟨Nat.le_of_ble_eq_true rfl, Nat.le_of_ble_eq_true rfl⟩ rfl rfl (Nat.le_of_ble_eq_true rfl) dX7_costOf_8 hl.1 hP hK hS hA (fun H locs hP hS => ?_)
  refine lv_imul hx hb dX7_costOf_11 ?_
  refine lv_aload_n hx hb dX7_costOf_12 rfl (lv_at hl 0 rfl) ?_
  refine va_get (ci := 6) (v := .int t_perLong) (C := RX7) (T := TX7) (N := 5) hx hb hts in_X7_costOf_X7 hown hK hP 0 rfl rfl 1 (by decide) (hts _ lk_X7_costOf_1) (fun _ h9 => h9) rfl dX7_costOf_13 ?_
  refine lv_lload_n hx hb dX7_costOf_16 rfl (lv_at hl 1 rfl) ?_
  refine lv_aload_n hx hb dX7_costOf_17 rfl (lv_at hl 0 rfl) ?_
  refine va_get (ci := 6) (v := .int t_longest) (C := RX7) (T := TX7) (N := 5) hx hb hts in_X7_costOf_X7 hown hK hP 0 rfl rfl 0 (by decide) (hts _ lk_X7_costOf_2) (fun _ h9 => h9) rfl dX7_costOf_18 ?_
  obtain ⟨x7, u8, he9, h⟩ := zz_b2E h
  refine zz_PL (As := [.long p1, .int t_longest]) (rest := [.int t_perLong, .int (t_perHanding * x4)]) ⟨hx, hb, hml, hown, hts⟩ (ct_X1_behindLongRuns l dC dI cI cJ cB cZ p1 t_longest x7 u8 he9) gX7_costOf_X1_behindLongRuns hd_X1_behindLongRuns rfl rfl rfl ⟨Nat.le_of_ble_eq_true rfl, Nat.le_of_ble_eq_true rfl⟩ ⟨Nat.le_of_ble_eq_true rfl, Nat.le_of_ble_eq_true rfl⟩ rfl rfl (Nat.le_of_ble_eq_true rfl) dX7_costOf_21 hl.1 hP hK hS hA (fun H locs hP hS => ?_)
  obtain ⟨x10, u11, he12, h⟩ := zz_b2E h
  refine zz_PI (As := [.long x7]) (rest := [.int t_perLong, .int (t_perHanding * x4)]) ⟨hx, hb, hml, hown, hts⟩ (ct_J13_bitCount_95d88 l dC dI cI cJ cB cZ x7 x10 u11 he12) gX7_costOf_J13_bitCount_95d88 hd_J13_bitCount_95d88 rfl rfl rfl ⟨Nat.le_of_ble_eq_true rfl, Nat.le_of_ble_eq_true rfl⟩ ⟨Nat.le_of_ble_eq_true rfl, Nat.le_of_ble_eq_true rfl⟩ rfl rfl (Nat.le_of_ble_eq_true rfl) dX7_costOf_24 hl.1 hP hK hS hA (fun H locs hP hS => ?_)
  refine lv_imul hx hb dX7_costOf_27 ?_
  refine lv_iadd hx hb dX7_costOf_28 ?_
  refine lv_topi (fun x13 ex13 => ?_)
  have h := zz_nmE ex13 h
  refine lv_istore_n (lv' := [(3, .int x13), (0, .ref a_t), (1, .long p1)]) hx hb dX7_costOf_29 rfl hl (by decide) rfl (fun ls hl => ?_)
  refine lv_aload_n hx hb dX7_costOf_30 rfl (lv_at hl 1 rfl) ?_
  refine va_get (ci := 6) (v := .int t_wants) (C := RX7) (T := TX7) (N := 5) hx hb hts in_X7_costOf_X7 hown hK hP 0 rfl rfl 3 (by decide) (hts _ lk_X7_costOf_3) (fun _ h9 => h9) rfl dX7_costOf_31 ?_
  refine lv_if_ne (tgt := 39) hx hb dX7_costOf_34 (by decide) (fun c14 => ?_) (fun c14 => ?_)
  · have h := zz_ifn c14 h
    refine lv_iconst (v := 0) hx hb dX7_costOf_39 (by decide) ?_
    refine lv_istore (lv' := [(4, .int 0), (3, .int x13), (0, .ref a_t), (1, .long p1)]) hx hb dX7_costOf_40 hl (by decide) rfl (fun ls hl => ?_)
    obtain ⟨x35, hit34, h⟩ := zz_b1E h
    refine zz_cut (fun V => ∀ (H : Heap) (locs : List Loc) (ls : Array Slot), va_P (dC, dI) vwCl [(a_t, .inr (6, [.int t_longest, .int t_perLong, .int t_perHanding, .int t_wants, .ref a_t_against])), (a_t_against, .inl (cI, 112, .inl t_against))] H → va_D A [(a_t, .inr (6, [.int t_longest, .int t_perLong, .int t_perHanding, .int t_wants, .ref a_t_against])), (a_t_against, .inl (cI, 112, .inl t_against))] → va_S A s.heap H locs → lv_has ls 5 [(3, .int x35)] → V H locs (F0 m 70 ls [])) ?_ (fun hE34 => ?_)
    · intro H locs ls hP hD hS hl
      refine lv_iload_n hx hb dX7_costOf_70 rfl (lv_at hl 0 rfl) ?_
      exact zz_iret () hx hb hr hlocks dX7_costOf_71 (Option.some.inj h) hP hK hD hS
    refine zz_cut (fun V => ∀ (n : Nat) (x33 : Int32) (x34 : Int32) (H : Heap) (locs : List Loc) (ls : Array Slot), zz_it (fun z => fb_X7_costOf_42 p1 t_against z.1 z.2) n (x33, x34) = some x35 → va_P (dC, dI) vwCl [(a_t, .inr (6, [.int t_longest, .int t_perLong, .int t_perHanding, .int t_wants, .ref a_t_against])), (a_t_against, .inl (cI, 112, .inl t_against))] H → va_D A [(a_t, .inr (6, [.int t_longest, .int t_perLong, .int t_perHanding, .int t_wants, .ref a_t_against])), (a_t_against, .inl (cI, 112, .inl t_against))] → va_S A s.heap H locs → lv_has ls 5 [(0, .ref a_t), (1, .long p1), (3, .int x33), (4, .int x34)] → V H locs (F0 m 42 ls [])) ?_ (fun hL34 => ?_)
    · intro n
      induction n with
      | zero => intro x33 x34 H locs ls hit34; exact (zz_it0 hit34).elim
      | succ n ih34 =>
        intro x33 x34 H locs ls hit34 hP hD hS hl
        obtain ⟨y34, hb34, hy34⟩ := zz_itE hit34
        have hb34 : fb_X7_costOf_42 p1 t_against x33 x34 = some y34 := hb34
        unfold fb_X7_costOf_42 at hb34
        refine lv_iload hx hb dX7_costOf_42 (lv_at hl 3 rfl) ?_
        refine lv_bipush (v := 56) hx hb dX7_costOf_44 (by decide) ?_
        refine lv_icmp_ge (tgt := 70) hx hb dX7_costOf_46 (by decide) (fun c36 => ?_) (fun c36 => ?_)
        · have hb34 := zz_if c36 hb34
          obtain rfl := Option.some.inj hb34
          have hy34 := Option.some.inj hy34
          cases hy34
          exact hE34 _ _ ls hP hD hS (lv_sub hl [2] rfl)
        · have hb34 := zz_ifn c36 hb34
          refine lv_iload_n hx hb dX7_costOf_49 rfl (lv_at hl 2 rfl) ?_
          refine lv_aload_n hx hb dX7_costOf_50 rfl (lv_at hl 0 rfl) ?_
          refine lv_iload hx hb dX7_costOf_51 (lv_at hl 3 rfl) ?_
          refine lv_lload_n hx hb dX7_costOf_53 rfl (lv_at hl 1 rfl) ?_
          refine lv_iload hx hb dX7_costOf_54 (lv_at hl 3 rfl) ?_
          obtain ⟨x37, u38, he39, hb34⟩ := zz_b2E hb34
          refine zz_PI (As := [.long p1, .int x34]) (rest := [.int x34, .ref a_t, .int x33]) ⟨hx, hb, hml, hown, hts⟩ (ct_X1_houseAt l dC dI cI cJ cB cZ p1 x34 x37 u38 he39) gX7_costOf_X1_houseAt hd_X1_houseAt rfl rfl rfl ⟨Nat.le_of_ble_eq_true rfl, Nat.le_of_ble_eq_true rfl⟩ ⟨Nat.le_of_ble_eq_true rfl, Nat.le_of_ble_eq_true rfl⟩ rfl rfl (Nat.le_of_ble_eq_true rfl) dX7_costOf_56 hl.1 hP hK hS hA (fun H locs hP hS => ?_)
          obtain ⟨x40, u41, he42, hb34⟩ := zz_b2E hb34
          refine zz_VI (q := (RX7, TX7, 5)) (As := [.int x34, .int x37]) (rest := [.int x33]) (wr := []) (wm := [(a_t, .inr (6, [.int t_longest, .int t_perLong, .int t_perHanding, .int t_wants, .ref a_t_against])), (a_t_against, .inl (cI, 112, .inl t_against))]) ⟨hx, hb, hml, hown, hts⟩ (ct_X7_priceOf l dC dI cI cJ cB cZ a_t a_t_against t_longest t_perLong t_perHanding t_wants t_against x34 x37 x40 u41 he42) gX7_costOf_X7_priceOf hd_X7_priceOf rfl rfl rfl ⟨Nat.le_of_ble_eq_true rfl, Nat.le_of_ble_eq_true rfl⟩ ⟨Nat.le_of_ble_eq_true rfl, Nat.le_of_ble_eq_true rfl⟩ rfl rfl (Nat.le_of_ble_eq_true rfl) dX7_costOf_59 hl.1 rfl (ci := 6) rfl (q0 := 0) rfl hP hK hD hS hA [0, 1] [] [0, 1] rfl rfl (by decide) (by decide) (by decide) (by decide) rfl (fun H locs hP hD hS => ?_)
          refine lv_iadd hx hb dX7_costOf_62 ?_
          refine lv_topi (fun x43 ex43 => ?_)
          have hb34 := zz_nmE ex43 hb34
          refine lv_istore_n (lv' := [(3, .int x43), (0, .ref a_t), (1, .long p1), (4, .int x34)]) hx hb dX7_costOf_63 rfl hl (by decide) rfl (fun ls hl => ?_)
          obtain ⟨x44, ex44⟩ : ∃ z : Int32, z = x34 + 1 := ⟨_, rfl⟩
          have hb34 := zz_nmE ex44 hb34
          refine lv_iinc (v := x44) (lv' := [(4, .int x44), (3, .int x43), (0, .ref a_t), (1, .long p1)]) hx hb dX7_costOf_64 hl (k := 3) rfl (by rw [ex44]; rfl) (by decide) rfl (fun ls hl => ?_)
          refine lv_goto (tgt := 42) hx hb dX7_costOf_67 (by decide) ?_
          obtain rfl := Option.some.inj hb34
          exact ih34 x43 x44 _ _ ls hy34 hP hD hS (lv_sub hl [2, 3, 1, 0] rfl)
    exact hL34 zz_fuel x13 0 _ _ ls hit34 hP hD hS (lv_sub hl [2, 3, 1, 0] rfl)
  · have h := zz_if c14 h
    refine lv_iload_n hx hb dX7_costOf_37 rfl (lv_at hl 0 rfl) ?_
    exact zz_iret () hx hb hr hlocks dX7_costOf_38 (Option.some.inj h) hP hK hD hS
theorem hd_X8_write : yX8_write.cls ≠ "java/lang/invoke/MethodHandle" ∧ yX8_write.cls ≠ "java/lang/invoke/VarHandle" ∧ (parseMethodDescriptor yX8_write.desc).map (fun d => d.parameters.length) = some 2 := by decide +kernel
set_option maxRecDepth 20000 in
theorem in_X8_write_X8 : ∀ w ∈ u_ws RX8 TX8 10, w ∈ wsX8_write := by decide +kernel
set_option maxRecDepth 20000 in
theorem in_X8_write_X6 : ∀ w ∈ u_ws RX6 TX6 2, w ∈ wsX8_write := by decide +kernel
set_option maxRecDepth 20000 in
theorem lk_X8_write_0 : Cond.fieldLink RX8 12 "TwoHousesOneChild" "text" "LTwoHousesOneChild$Text;" ∈ wsX8_write := by decide +kernel
set_option maxRecDepth 20000 in
theorem lk_X8_write_1 : Cond.fieldLink RX8 68 "TwoHousesOneChild$Text" "length" "I" ∈ wsX8_write := by decide +kernel
set_option maxHeartbeats 4000000 in
set_option maxRecDepth 100000 in
theorem ct_X8_write (l : Launch) (dC : Nat → ClassId) (dI : Nat → Nat → Nat) (cI cJ cB cZ : ClassId) (a_t a_t_text a_t_text_signs a_t_now a_t_slotZero a_t_slotOne a_t_wishes a_t_planner a_t_mending a_t_reading a_t_otherReading : Nat) (t_theYear : Int32) (t_text_length : Int32) (t_text_signs : (Nat → Int32)) (p1 : Int32) (p2 : Int64) (rr : Int32) (o1 : Int32) (o2 : (Nat → Int32)) (h : fn_X8_write t_text_length t_text_signs p1 p2 = some (rr, o1, o2)) : zz_M l yX8_write wsX8_write ({ frames := 1, cells := 0, slots := 0, locals := 24 }) (dC, dI) (zz_T cI cJ cB cZ) [.ref a_t, .int p1, .long p2] [(a_t, .inr (7, [.ref a_t_text, .ref a_t_now, .ref a_t_slotZero, .ref a_t_slotOne, .ref a_t_wishes, .ref a_t_planner, .ref a_t_mending, .ref a_t_reading, .ref a_t_otherReading, .int t_theYear])), (a_t_text, .inr (5, [.ref a_t_text_signs, .int t_text_length])), (a_t_text_signs, .inl (cB, 64, .inl t_text_signs))] (zz_QI (dC, dI) (zz_T cI cJ cB cZ) (rr, o1, o2) (fun (u : Int32 × (Nat → Int32)) => [(a_t, .inr (7, [.ref a_t_text, .ref a_t_now, .ref a_t_slotZero, .ref a_t_slotOne, .ref a_t_wishes, .ref a_t_planner, .ref a_t_mending, .ref a_t_reading, .ref a_t_otherReading, .int t_theYear])), (a_t_text, .inr (5, [.ref a_t_text_signs, .int u.1])), (a_t_text_signs, .inl (cB, 64, .inl u.2))])) := by
  unfold fn_X8_write at h
  refine zz_of (by decide) rfl (Nat.le_of_ble_eq_true rfl) ?_
  intro p e s m below meth c A ls hx hb hr hml hts hown hlocks hA hS hP hK hD hl
  have hown : s.vm.findClass RX8 = some m.cls := hown
  have hl : lv_has ls 4 [(0, .ref a_t), (1, .int p1), (2, .long p2)] := hl
  refine lv_iload_n hx hb dX8_write_0 rfl (lv_at hl 1 rfl) ?_
  refine lv_iconst (v := 1) hx hb dX8_write_1 (by decide) ?_
  refine lv_icmp_lt (tgt := 11) hx hb dX8_write_2 (by decide) (fun c1 => ?_) (fun c1 => ?_)
  · have h := zz_if c1 h
    refine lv_bipush (v := (-2)) hx hb dX8_write_11 (by decide) ?_
    exact zz_iret (t_text_length, t_text_signs) hx hb hr hlocks dX8_write_13 (Option.some.inj h) hP hK hD hS
  · have h := zz_ifn c1 h
    refine lv_iload_n hx hb dX8_write_5 rfl (lv_at hl 1 rfl) ?_
    refine lv_bipush (v := 8) hx hb dX8_write_6 (by decide) ?_
    refine lv_icmp_le (tgt := 14) hx hb dX8_write_8 (by decide) (fun c2 => ?_) (fun c2 => ?_)
    · have h := zz_if c2 h
      refine lv_aload_n hx hb dX8_write_14 rfl (lv_at hl 0 rfl) ?_
      refine va_get (ci := 7) (v := .ref a_t_text) (C := RX8) (T := TX8) (N := 10) hx hb hts in_X8_write_X8 hown hK hP 0 rfl rfl 0 (by decide) (hts _ lk_X8_write_0) (fun _ h9 => h9) rfl dX8_write_15 ?_
      refine lv_iload_n hx hb dX8_write_18 rfl (lv_at hl 1 rfl) ?_
      refine lv_lload_n hx hb dX8_write_19 rfl (lv_at hl 2 rfl) ?_
      obtain ⟨x3, x4, g5, he6, h⟩ := zz_b3E h
      refine zz_VI (q := (RX6, TX6, 2)) (As := [.int p1, .long p2]) (rest := []) (wr := [(a_t, .inr (7, [.ref a_t_text, .ref a_t_now, .ref a_t_slotZero, .ref a_t_slotOne, .ref a_t_wishes, .ref a_t_planner, .ref a_t_mending, .ref a_t_reading, .ref a_t_otherReading, .int t_theYear]))]) (wm := [(a_t, .inr (7, [.ref a_t_text, .ref a_t_now, .ref a_t_slotZero, .ref a_t_slotOne, .ref a_t_wishes, .ref a_t_planner, .ref a_t_mending, .ref a_t_reading, .ref a_t_otherReading, .int t_theYear])), (a_t_text, .inr (5, [.ref a_t_text_signs, .int x4])), (a_t_text_signs, .inl (cB, 64, .inl g5))]) ⟨hx, hb, hml, hown, hts⟩ (ct_X6_append l dC dI cI cJ cB cZ a_t_text a_t_text_signs t_text_length t_text_signs p1 p2 x3 x4 g5 he6) gX8_write_X6_append hd_X6_append rfl rfl rfl ⟨Nat.le_of_ble_eq_true rfl, Nat.le_of_ble_eq_true rfl⟩ ⟨Nat.le_of_ble_eq_true rfl, Nat.le_of_ble_eq_true rfl⟩ rfl rfl (Nat.le_of_ble_eq_true rfl) dX8_write_20 hl.1 rfl (ci := 5) rfl (q0 := 1) rfl hP hK hD hS hA [1, 2] [0] [0, 1, 2] rfl rfl (by decide) (by decide) (by decide) (by decide) rfl (fun H locs hP hD hS => ?_)
      refine lv_if_eq (tgt := 36) hx hb dX8_write_23 (by decide) (fun c7 => ?_) (fun c7 => ?_)
      · have h := zz_if c7 h
        refine lv_bipush (v := (-4)) hx hb dX8_write_36 (by decide) ?_
        exact zz_iret (x4, g5) hx hb hr hlocks dX8_write_38 (Option.some.inj h) hP hK hD hS
      · have h := zz_ifn c7 h
        refine lv_aload_n hx hb dX8_write_26 rfl (lv_at hl 0 rfl) ?_
        refine va_get (ci := 7) (v := .ref a_t_text) (C := RX8) (T := TX8) (N := 10) hx hb hts in_X8_write_X8 hown hK hP 0 rfl rfl 0 (by decide) (hts _ lk_X8_write_0) (fun _ h9 => h9) rfl dX8_write_27 ?_
        refine va_get (ci := 5) (v := .int x4) (C := RX6) (T := TX6) (N := 2) hx hb hts in_X8_write_X6 hown hK hP 1 rfl rfl 1 (by decide) (hts _ lk_X8_write_1) (fun _ h9 => h9) rfl dX8_write_30 ?_
        refine lv_goto (tgt := 38) hx hb dX8_write_33 (by decide) ?_
        exact zz_iret (x4, g5) hx hb hr hlocks dX8_write_38 (Option.some.inj h) hP hK hD hS
    · have h := zz_ifn c2 h
      refine lv_bipush (v := (-2)) hx hb dX8_write_11 (by decide) ?_
      exact zz_iret (t_text_length, t_text_signs) hx hb hr hlocks dX8_write_13 (Option.some.inj h) hP hK hD hS
theorem hd_X8_wipe : yX8_wipe.cls ≠ "java/lang/invoke/MethodHandle" ∧ yX8_wipe.cls ≠ "java/lang/invoke/VarHandle" ∧ (parseMethodDescriptor yX8_wipe.desc).map (fun d => d.parameters.length) = some 0 := by decide +kernel
set_option maxRecDepth 20000 in
theorem in_X8_wipe_X8 : ∀ w ∈ u_ws RX8 TX8 10, w ∈ wsX8_wipe := by decide +kernel
set_option maxRecDepth 20000 in
theorem in_X8_wipe_X6 : ∀ w ∈ u_ws RX6 TX6 2, w ∈ wsX8_wipe := by decide +kernel
set_option maxRecDepth 20000 in
theorem lk_X8_wipe_0 : Cond.fieldLink RX8 12 "TwoHousesOneChild" "text" "LTwoHousesOneChild$Text;" ∈ wsX8_wipe := by decide +kernel
set_option maxRecDepth 20000 in
theorem lk_X8_wipe_1 : Cond.fieldLink RX8 68 "TwoHousesOneChild$Text" "length" "I" ∈ wsX8_wipe := by decide +kernel
set_option maxHeartbeats 4000000 in
set_option maxRecDepth 100000 in
theorem ct_X8_wipe (l : Launch) (dC : Nat → ClassId) (dI : Nat → Nat → Nat) (cI cJ cB cZ : ClassId) (a_t a_t_text a_t_now a_t_slotZero a_t_slotOne a_t_wishes a_t_planner a_t_mending a_t_reading a_t_otherReading a_t_text_signs : Nat) (t_theYear : Int32) (t_text_length : Int32) (rr : Int32) (o1 : Int32) (h : fn_X8_wipe t_text_length = some (rr, o1)) : zz_M l yX8_wipe wsX8_wipe ({ frames := 0, cells := 0, slots := 0, locals := 0 }) (dC, dI) (zz_T cI cJ cB cZ) [.ref a_t] [(a_t, .inr (7, [.ref a_t_text, .ref a_t_now, .ref a_t_slotZero, .ref a_t_slotOne, .ref a_t_wishes, .ref a_t_planner, .ref a_t_mending, .ref a_t_reading, .ref a_t_otherReading, .int t_theYear])), (a_t_text, .inr (5, [.ref a_t_text_signs, .int t_text_length]))] (zz_QI (dC, dI) (zz_T cI cJ cB cZ) (rr, o1) (fun (u : Int32) => [(a_t, .inr (7, [.ref a_t_text, .ref a_t_now, .ref a_t_slotZero, .ref a_t_slotOne, .ref a_t_wishes, .ref a_t_planner, .ref a_t_mending, .ref a_t_reading, .ref a_t_otherReading, .int t_theYear])), (a_t_text, .inr (5, [.ref a_t_text_signs, .int u]))])) := by
  unfold fn_X8_wipe at h
  refine zz_of (by decide) rfl (Nat.le_of_ble_eq_true rfl) ?_
  intro p e s m below meth c A ls hx hb hr hml hts hown hlocks hA hS hP hK hD hl
  have hown : s.vm.findClass RX8 = some m.cls := hown
  have hl : lv_has ls 2 [(0, .ref a_t)] := hl
  refine lv_aload_n hx hb dX8_wipe_0 rfl (lv_at hl 0 rfl) ?_
  refine va_get (ci := 7) (v := .ref a_t_text) (C := RX8) (T := TX8) (N := 10) hx hb hts in_X8_wipe_X8 hown hK hP 0 rfl rfl 0 (by decide) (hts _ lk_X8_wipe_0) (fun _ h9 => h9) rfl dX8_wipe_1 ?_
  refine va_get (ci := 5) (v := .int t_text_length) (C := RX6) (T := TX6) (N := 2) hx hb hts in_X8_wipe_X6 hown hK hP 1 rfl rfl 1 (by decide) (hts _ lk_X8_wipe_1) (fun _ h9 => h9) rfl dX8_wipe_4 ?_
  refine lv_istore_n (lv' := [(1, .int t_text_length), (0, .ref a_t)]) hx hb dX8_wipe_7 rfl hl (by decide) rfl (fun ls hl => ?_)
  refine lv_aload_n hx hb dX8_wipe_8 rfl (lv_at hl 1 rfl) ?_
  refine va_get (ci := 7) (v := .ref a_t_text) (C := RX8) (T := TX8) (N := 10) hx hb hts in_X8_wipe_X8 hown hK hP 0 rfl rfl 0 (by decide) (hts _ lk_X8_wipe_0) (fun _ h9 => h9) rfl dX8_wipe_9 ?_
  refine lv_iconst (v := 0) hx hb dX8_wipe_12 (by decide) ?_
  refine va_put (ci := 5) (v := .int 0) (ty := .int) (C := RX6) (T := TX6) (N := 2) hx hb hts in_X8_wipe_X6 tyX6 tyX6_ok nmX6 hown hK hP hD hS 1 rfl rfl 1 (by decide) (hts _ lk_X8_wipe_1) (fun _ h9 => h9) rfl (by decide +kernel) rfl rfl (Nat.le_of_ble_eq_true rfl) dX8_wipe_13 (fun H locs hP hD hS => ?_)
  have hP : va_P (dC, dI) vwCl [(a_t, .inr (7, [.ref a_t_text, .ref a_t_now, .ref a_t_slotZero, .ref a_t_slotOne, .ref a_t_wishes, .ref a_t_planner, .ref a_t_mending, .ref a_t_reading, .ref a_t_otherReading, .int t_theYear])), (a_t_text, .inr (5, [.ref a_t_text_signs, .int 0]))] H := hP
  have hD : va_D A [(a_t, .inr (7, [.ref a_t_text, .ref a_t_now, .ref a_t_slotZero, .ref a_t_slotOne, .ref a_t_wishes, .ref a_t_planner, .ref a_t_mending, .ref a_t_reading, .ref a_t_otherReading, .int t_theYear])), (a_t_text, .inr (5, [.ref a_t_text_signs, .int 0]))] := hD
  refine lv_iload_n hx hb dX8_wipe_16 rfl (lv_at hl 0 rfl) ?_
  exact zz_iret 0 hx hb hr hlocks dX8_wipe_17 (Option.some.inj h) hP hK hD hS
theorem hd_X8_fault : yX8_fault.cls ≠ "java/lang/invoke/MethodHandle" ∧ yX8_fault.cls ≠ "java/lang/invoke/VarHandle" ∧ (parseMethodDescriptor yX8_fault.desc).map (fun d => d.parameters.length) = some 0 := by decide +kernel
set_option maxRecDepth 20000 in
theorem in_X8_fault_X8 : ∀ w ∈ u_ws RX8 TX8 10, w ∈ wsX8_fault := by decide +kernel
set_option maxRecDepth 20000 in
theorem lk_X8_fault_0 : Cond.fieldLink RX8 12 "TwoHousesOneChild" "text" "LTwoHousesOneChild$Text;" ∈ wsX8_fault := by decide +kernel
set_option maxHeartbeats 4000000 in
set_option maxRecDepth 100000 in
theorem ct_X8_fault (l : Launch) (dC : Nat → ClassId) (dI : Nat → Nat → Nat) (cI cJ cB cZ : ClassId) (a_t a_t_text a_t_text_signs a_t_now a_t_slotZero a_t_slotOne a_t_wishes a_t_planner a_t_mending a_t_reading a_t_otherReading : Nat) (t_theYear : Int32) (t_text_length : Int32) (t_text_signs : (Nat → Int32)) (rr : Int32) (u0 : Unit) (h : fn_X8_fault t_text_length t_text_signs = some (rr, u0)) : zz_M l yX8_fault wsX8_fault ({ frames := 6, cells := 0, slots := 0, locals := 137 }) (dC, dI) (zz_T cI cJ cB cZ) [.ref a_t] [(a_t, .inr (7, [.ref a_t_text, .ref a_t_now, .ref a_t_slotZero, .ref a_t_slotOne, .ref a_t_wishes, .ref a_t_planner, .ref a_t_mending, .ref a_t_reading, .ref a_t_otherReading, .int t_theYear])), (a_t_text, .inr (5, [.ref a_t_text_signs, .int t_text_length])), (a_t_text_signs, .inl (cB, 64, .inl t_text_signs))] (zz_QI (dC, dI) (zz_T cI cJ cB cZ) (rr, u0) (fun (u : Unit) => [(a_t, .inr (7, [.ref a_t_text, .ref a_t_now, .ref a_t_slotZero, .ref a_t_slotOne, .ref a_t_wishes, .ref a_t_planner, .ref a_t_mending, .ref a_t_reading, .ref a_t_otherReading, .int t_theYear])), (a_t_text, .inr (5, [.ref a_t_text_signs, .int t_text_length])), (a_t_text_signs, .inl (cB, 64, .inl t_text_signs))])) := by
  unfold fn_X8_fault at h
  refine zz_of (by decide) rfl (Nat.le_of_ble_eq_true rfl) ?_
  intro p e s m below meth c A ls hx hb hr hml hts hown hlocks hA hS hP hK hD hl
  have hown : s.vm.findClass RX8 = some m.cls := hown
  have hl : lv_has ls 1 [(0, .ref a_t)] := hl
  refine lv_aload_n hx hb dX8_fault_0 rfl (lv_at hl 0 rfl) ?_
  refine va_get (ci := 7) (v := .ref a_t_text) (C := RX8) (T := TX8) (N := 10) hx hb hts in_X8_fault_X8 hown hK hP 0 rfl rfl 0 (by decide) (hts _ lk_X8_fault_0) (fun _ h9 => h9) rfl dX8_fault_1 ?_
  obtain ⟨x1, u2, he3, h⟩ := zz_b2E h
  refine zz_VI (q := (RX6, TX6, 2)) (As := []) (rest := []) (wr := [(a_t, .inr (7, [.ref a_t_text, .ref a_t_now, .ref a_t_slotZero, .ref a_t_slotOne, .ref a_t_wishes, .ref a_t_planner, .ref a_t_mending, .ref a_t_reading, .ref a_t_otherReading, .int t_theYear]))]) (wm := [(a_t, .inr (7, [.ref a_t_text, .ref a_t_now, .ref a_t_slotZero, .ref a_t_slotOne, .ref a_t_wishes, .ref a_t_planner, .ref a_t_mending, .ref a_t_reading, .ref a_t_otherReading, .int t_theYear])), (a_t_text, .inr (5, [.ref a_t_text_signs, .int t_text_length])), (a_t_text_signs, .inl (cB, 64, .inl t_text_signs))]) ⟨hx, hb, hml, hown, hts⟩ (ct_X6_firstFault l dC dI cI cJ cB cZ a_t_text a_t_text_signs t_text_length t_text_signs x1 u2 he3) gX8_fault_X6_firstFault hd_X6_firstFault rfl rfl rfl ⟨Nat.le_of_ble_eq_true rfl, Nat.le_of_ble_eq_true rfl⟩ ⟨Nat.le_of_ble_eq_true rfl, Nat.le_of_ble_eq_true rfl⟩ rfl rfl (Nat.le_of_ble_eq_true rfl) dX8_fault_4 hl.1 rfl (ci := 5) rfl (q0 := 1) rfl hP hK hD hS hA [1, 2] [0] [0, 1, 2] rfl rfl (by decide) (by decide) (by decide) (by decide) rfl (fun H locs hP hD hS => ?_)
  exact zz_iret () hx hb hr hlocks dX8_fault_7 (Option.some.inj h) hP hK hD hS
theorem hd_X8_paper : yX8_paper.cls ≠ "java/lang/invoke/MethodHandle" ∧ yX8_paper.cls ≠ "java/lang/invoke/VarHandle" ∧ (parseMethodDescriptor yX8_paper.desc).map (fun d => d.parameters.length) = some 0 := by decide +kernel
set_option maxRecDepth 20000 in
theorem in_X8_paper_X8 : ∀ w ∈ u_ws RX8 TX8 10, w ∈ wsX8_paper := by decide +kernel
set_option maxRecDepth 20000 in
theorem in_X8_paper_X5 : ∀ w ∈ u_ws RX5 TX5 5, w ∈ wsX8_paper := by decide +kernel
set_option maxRecDepth 20000 in
theorem in_X8_paper_X2 : ∀ w ∈ u_ws RX2 TX2 6, w ∈ wsX8_paper := by decide +kernel
set_option maxRecDepth 20000 in
theorem lk_X8_paper_0 : Cond.fieldLink RX8 12 "TwoHousesOneChild" "text" "LTwoHousesOneChild$Text;" ∈ wsX8_paper := by decide +kernel
set_option maxRecDepth 20000 in
theorem lk_X8_paper_1 : Cond.fieldLink RX8 19 "TwoHousesOneChild" "now" "LTwoHousesOneChild$Standing;" ∈ wsX8_paper := by decide +kernel
set_option maxRecDepth 20000 in
theorem lk_X8_paper_2 : Cond.fieldLink RX8 75 "TwoHousesOneChild$Standing" "paper" "LTwoHousesOneChild$Paper;" ∈ wsX8_paper := by decide +kernel
set_option maxRecDepth 20000 in
theorem lk_X8_paper_3 : Cond.fieldLink RX8 83 "TwoHousesOneChild$Paper" "size" "I" ∈ wsX8_paper := by decide +kernel
set_option maxHeartbeats 4000000 in
set_option maxRecDepth 100000 in
theorem ct_X8_paper (l : Launch) (dC : Nat → ClassId) (dI : Nat → Nat → Nat) (cI cJ cB cZ : ClassId) (a_t a_t_now a_t_now_paper a_t_now_paper_numbers a_t_now_paper_ones a_t_now_paper_ranks a_t_now_paper_told a_t_now_paper_turnsByYear a_t_text a_t_text_signs a_t_slotZero a_t_slotOne a_t_wishes a_t_planner a_t_mending a_t_reading a_t_otherReading a_t_now_timesLate a_t_now_paid : Nat) (t_theYear : Int32) (t_now_plan : Int64) (t_now_isKept : Int32) (t_now_paper_size : Int32) (t_now_paper_numbers : (Nat → Int32)) (t_now_paper_ones : (Nat → Int64)) (t_now_paper_ranks : (Nat → Int32)) (t_now_paper_told : (Nat → Int64)) (t_now_paper_turnsByYear : (Nat → Int32)) (t_text_length : Int32) (t_text_signs : (Nat → Int32)) (rr : Int32) (o1 : Int32) (o2 : (Nat → Int32)) (o3 : (Nat → Int64)) (o4 : (Nat → Int32)) (o5 : (Nat → Int64)) (o6 : (Nat → Int32)) (h : fn_X8_paper t_now_paper_size t_now_paper_numbers t_now_paper_ones t_now_paper_ranks t_now_paper_told t_now_paper_turnsByYear t_text_length t_text_signs = some (rr, o1, o2, o3, o4, o5, o6)) : zz_M l yX8_paper wsX8_paper ({ frames := 6, cells := 0, slots := 0, locals := 137 }) (dC, dI) (zz_T cI cJ cB cZ) [.ref a_t] [(a_t, .inr (7, [.ref a_t_text, .ref a_t_now, .ref a_t_slotZero, .ref a_t_slotOne, .ref a_t_wishes, .ref a_t_planner, .ref a_t_mending, .ref a_t_reading, .ref a_t_otherReading, .int t_theYear])), (a_t_now, .inr (4, [.ref a_t_now_paper, .long t_now_plan, .ref a_t_now_timesLate, .ref a_t_now_paid, .int t_now_isKept])), (a_t_now_paper, .inr (1, [.int t_now_paper_size, .ref a_t_now_paper_numbers, .ref a_t_now_paper_ranks, .ref a_t_now_paper_told, .ref a_t_now_paper_ones, .ref a_t_now_paper_turnsByYear])), (a_t_now_paper_numbers, .inl (cI, 10, .inl t_now_paper_numbers)), (a_t_now_paper_ones, .inl (cJ, 10, .inr (.inl t_now_paper_ones))), (a_t_now_paper_ranks, .inl (cI, 10, .inl t_now_paper_ranks)), (a_t_now_paper_told, .inl (cJ, 10, .inr (.inl t_now_paper_told))), (a_t_now_paper_turnsByYear, .inl (cZ, 10, .inl t_now_paper_turnsByYear)), (a_t_text, .inr (5, [.ref a_t_text_signs, .int t_text_length])), (a_t_text_signs, .inl (cB, 64, .inl t_text_signs))] (zz_QI (dC, dI) (zz_T cI cJ cB cZ) (rr, o1, o2, o3, o4, o5, o6) (fun (u : Int32 × (Nat → Int32) × (Nat → Int64) × (Nat → Int32) × (Nat → Int64) × (Nat → Int32)) => [(a_t, .inr (7, [.ref a_t_text, .ref a_t_now, .ref a_t_slotZero, .ref a_t_slotOne, .ref a_t_wishes, .ref a_t_planner, .ref a_t_mending, .ref a_t_reading, .ref a_t_otherReading, .int t_theYear])), (a_t_now, .inr (4, [.ref a_t_now_paper, .long t_now_plan, .ref a_t_now_timesLate, .ref a_t_now_paid, .int t_now_isKept])), (a_t_now_paper, .inr (1, [.int u.1, .ref a_t_now_paper_numbers, .ref a_t_now_paper_ranks, .ref a_t_now_paper_told, .ref a_t_now_paper_ones, .ref a_t_now_paper_turnsByYear])), (a_t_now_paper_numbers, .inl (cI, 10, .inl u.2.1)), (a_t_now_paper_ones, .inl (cJ, 10, .inr (.inl u.2.2.1))), (a_t_now_paper_ranks, .inl (cI, 10, .inl u.2.2.2.1)), (a_t_now_paper_told, .inl (cJ, 10, .inr (.inl u.2.2.2.2.1))), (a_t_now_paper_turnsByYear, .inl (cZ, 10, .inl u.2.2.2.2.2)), (a_t_text, .inr (5, [.ref a_t_text_signs, .int t_text_length])), (a_t_text_signs, .inl (cB, 64, .inl t_text_signs))])) := by
  unfold fn_X8_paper at h
  refine zz_of (by decide) rfl (Nat.le_of_ble_eq_true rfl) ?_
  intro p e s m below meth c A ls hx hb hr hml hts hown hlocks hA hS hP hK hD hl
  have hown : s.vm.findClass RX8 = some m.cls := hown
  have hl : lv_has ls 1 [(0, .ref a_t)] := hl
  refine lv_aload_n hx hb dX8_paper_0 rfl (lv_at hl 0 rfl) ?_
  refine va_get (ci := 7) (v := .ref a_t_text) (C := RX8) (T := TX8) (N := 10) hx hb hts in_X8_paper_X8 hown hK hP 0 rfl rfl 0 (by decide) (hts _ lk_X8_paper_0) (fun _ h9 => h9) rfl dX8_paper_1 ?_
  obtain ⟨x1, u2, he3, h⟩ := zz_b2E h
  refine zz_VI (q := (RX6, TX6, 2)) (As := []) (rest := []) (wr := [(a_t, .inr (7, [.ref a_t_text, .ref a_t_now, .ref a_t_slotZero, .ref a_t_slotOne, .ref a_t_wishes, .ref a_t_planner, .ref a_t_mending, .ref a_t_reading, .ref a_t_otherReading, .int t_theYear])), (a_t_now, .inr (4, [.ref a_t_now_paper, .long t_now_plan, .ref a_t_now_timesLate, .ref a_t_now_paid, .int t_now_isKept])), (a_t_now_paper, .inr (1, [.int t_now_paper_size, .ref a_t_now_paper_numbers, .ref a_t_now_paper_ranks, .ref a_t_now_paper_told, .ref a_t_now_paper_ones, .ref a_t_now_paper_turnsByYear])), (a_t_now_paper_numbers, .inl (cI, 10, .inl t_now_paper_numbers)), (a_t_now_paper_ones, .inl (cJ, 10, .inr (.inl t_now_paper_ones))), (a_t_now_paper_ranks, .inl (cI, 10, .inl t_now_paper_ranks)), (a_t_now_paper_told, .inl (cJ, 10, .inr (.inl t_now_paper_told))), (a_t_now_paper_turnsByYear, .inl (cZ, 10, .inl t_now_paper_turnsByYear))]) (wm := [(a_t, .inr (7, [.ref a_t_text, .ref a_t_now, .ref a_t_slotZero, .ref a_t_slotOne, .ref a_t_wishes, .ref a_t_planner, .ref a_t_mending, .ref a_t_reading, .ref a_t_otherReading, .int t_theYear])), (a_t_now, .inr (4, [.ref a_t_now_paper, .long t_now_plan, .ref a_t_now_timesLate, .ref a_t_now_paid, .int t_now_isKept])), (a_t_now_paper, .inr (1, [.int t_now_paper_size, .ref a_t_now_paper_numbers, .ref a_t_now_paper_ranks, .ref a_t_now_paper_told, .ref a_t_now_paper_ones, .ref a_t_now_paper_turnsByYear])), (a_t_now_paper_numbers, .inl (cI, 10, .inl t_now_paper_numbers)), (a_t_now_paper_ones, .inl (cJ, 10, .inr (.inl t_now_paper_ones))), (a_t_now_paper_ranks, .inl (cI, 10, .inl t_now_paper_ranks)), (a_t_now_paper_told, .inl (cJ, 10, .inr (.inl t_now_paper_told))), (a_t_now_paper_turnsByYear, .inl (cZ, 10, .inl t_now_paper_turnsByYear)), (a_t_text, .inr (5, [.ref a_t_text_signs, .int t_text_length])), (a_t_text_signs, .inl (cB, 64, .inl t_text_signs))]) ⟨hx, hb, hml, hown, hts⟩ (ct_X6_firstFault l dC dI cI cJ cB cZ a_t_text a_t_text_signs t_text_length t_text_signs x1 u2 he3) gX8_paper_X6_firstFault hd_X6_firstFault rfl rfl rfl ⟨Nat.le_of_ble_eq_true rfl, Nat.le_of_ble_eq_true rfl⟩ ⟨Nat.le_of_ble_eq_true rfl, Nat.le_of_ble_eq_true rfl⟩ rfl rfl (Nat.le_of_ble_eq_true rfl) dX8_paper_4 hl.1 rfl (ci := 5) rfl (q0 := 8) rfl hP hK hD hS hA [8, 9] [0, 1, 2, 3, 4, 5, 6, 7] [0, 1, 2, 3, 4, 5, 6, 7, 8, 9] rfl rfl (by decide) (by decide) (by decide) (by decide) rfl (fun H locs hP hD hS => ?_)
  refine lv_bipush (v := (-9)) hx hb dX8_paper_7 (by decide) ?_
  refine lv_icmp_eq (tgt := 15) hx hb dX8_paper_9 (by decide) (fun c4 => ?_) (fun c4 => ?_)
  · have h := zz_if c4 h
    refine lv_aload_n hx hb dX8_paper_15 rfl (lv_at hl 0 rfl) ?_
    refine va_get (ci := 7) (v := .ref a_t_text) (C := RX8) (T := TX8) (N := 10) hx hb hts in_X8_paper_X8 hown hK hP 0 rfl rfl 0 (by decide) (hts _ lk_X8_paper_0) (fun _ h9 => h9) rfl dX8_paper_16 ?_
    refine lv_aload_n hx hb dX8_paper_19 rfl (lv_at hl 0 rfl) ?_
    refine va_get (ci := 7) (v := .ref a_t_now) (C := RX8) (T := TX8) (N := 10) hx hb hts in_X8_paper_X8 hown hK hP 0 rfl rfl 1 (by decide) (hts _ lk_X8_paper_1) (fun _ h9 => h9) rfl dX8_paper_20 ?_
    refine va_get (ci := 4) (v := .ref a_t_now_paper) (C := RX5) (T := TX5) (N := 5) hx hb hts in_X8_paper_X5 hown hK hP 1 rfl rfl 0 (by decide) (hts _ lk_X8_paper_2) (fun _ h9 => h9) rfl dX8_paper_23 ?_
    obtain ⟨x5, g6, g7, g8, g9, g10, he11, h⟩ := zz_b6E h
    refine zz_VV (q := (RX6, TX6, 2)) (As := [.ref a_t_now_paper]) (rest := []) (wr := [(a_t, .inr (7, [.ref a_t_text, .ref a_t_now, .ref a_t_slotZero, .ref a_t_slotOne, .ref a_t_wishes, .ref a_t_planner, .ref a_t_mending, .ref a_t_reading, .ref a_t_otherReading, .int t_theYear])), (a_t_now, .inr (4, [.ref a_t_now_paper, .long t_now_plan, .ref a_t_now_timesLate, .ref a_t_now_paid, .int t_now_isKept]))]) (wm := [(a_t, .inr (7, [.ref a_t_text, .ref a_t_now, .ref a_t_slotZero, .ref a_t_slotOne, .ref a_t_wishes, .ref a_t_planner, .ref a_t_mending, .ref a_t_reading, .ref a_t_otherReading, .int t_theYear])), (a_t_now, .inr (4, [.ref a_t_now_paper, .long t_now_plan, .ref a_t_now_timesLate, .ref a_t_now_paid, .int t_now_isKept])), (a_t_now_paper, .inr (1, [.int x5, .ref a_t_now_paper_numbers, .ref a_t_now_paper_ranks, .ref a_t_now_paper_told, .ref a_t_now_paper_ones, .ref a_t_now_paper_turnsByYear])), (a_t_now_paper_numbers, .inl (cI, 10, .inl g6)), (a_t_now_paper_ones, .inl (cJ, 10, .inr (.inl g7))), (a_t_now_paper_ranks, .inl (cI, 10, .inl g8)), (a_t_now_paper_told, .inl (cJ, 10, .inr (.inl g9))), (a_t_now_paper_turnsByYear, .inl (cZ, 10, .inl g10)), (a_t_text, .inr (5, [.ref a_t_text_signs, .int t_text_length])), (a_t_text_signs, .inl (cB, 64, .inl t_text_signs))]) ⟨hx, hb, hml, hown, hts⟩ (ct_X6_tellTo l dC dI cI cJ cB cZ a_t_now_paper a_t_now_paper_numbers a_t_now_paper_ones a_t_now_paper_ranks a_t_now_paper_told a_t_now_paper_turnsByYear a_t_text a_t_text_signs t_now_paper_size t_now_paper_numbers t_now_paper_ones t_now_paper_ranks t_now_paper_told t_now_paper_turnsByYear t_text_length t_text_signs x5 g6 g7 g8 g9 g10 he11) gX8_paper_X6_tellTo hd_X6_tellTo rfl rfl rfl ⟨Nat.le_of_ble_eq_true rfl, Nat.le_of_ble_eq_true rfl⟩ ⟨Nat.le_of_ble_eq_true rfl, Nat.le_of_ble_eq_true rfl⟩ rfl rfl (Nat.le_of_ble_eq_true rfl) dX8_paper_26 hl.1 rfl (ci := 5) rfl (q0 := 8) rfl hP hK hD hS hA [2, 3, 4, 5, 6, 7, 8, 9] [0, 1] [0, 1, 2, 3, 4, 5, 6, 7, 8, 9] rfl rfl (by decide) (by decide) (by decide) (by decide) rfl (fun H locs hP hD hS => ?_)
    refine lv_aload_n hx hb dX8_paper_29 rfl (lv_at hl 0 rfl) ?_
    refine va_get (ci := 7) (v := .ref a_t_now) (C := RX8) (T := TX8) (N := 10) hx hb hts in_X8_paper_X8 hown hK hP 0 rfl rfl 1 (by decide) (hts _ lk_X8_paper_1) (fun _ h9 => h9) rfl dX8_paper_30 ?_
    refine va_get (ci := 4) (v := .ref a_t_now_paper) (C := RX5) (T := TX5) (N := 5) hx hb hts in_X8_paper_X5 hown hK hP 1 rfl rfl 0 (by decide) (hts _ lk_X8_paper_2) (fun _ h9 => h9) rfl dX8_paper_33 ?_
    refine va_get (ci := 1) (v := .int x5) (C := RX2) (T := TX2) (N := 6) hx hb hts in_X8_paper_X2 hown hK hP 2 rfl rfl 0 (by decide) (hts _ lk_X8_paper_3) (fun _ h9 => h9) rfl dX8_paper_36 ?_
    exact zz_iret (x5, g6, g7, g8, g9, g10) hx hb hr hlocks dX8_paper_39 (Option.some.inj h) hP hK hD hS
  · have h := zz_ifn c4 h
    refine lv_bipush (v := (-3)) hx hb dX8_paper_12 (by decide) ?_
    exact zz_iret (t_now_paper_size, t_now_paper_numbers, t_now_paper_ones, t_now_paper_ranks, t_now_paper_told, t_now_paper_turnsByYear) hx hb hr hlocks dX8_paper_14 (Option.some.inj h) hP hK hD hS
theorem hd_X8_year : yX8_year.cls ≠ "java/lang/invoke/MethodHandle" ∧ yX8_year.cls ≠ "java/lang/invoke/VarHandle" ∧ (parseMethodDescriptor yX8_year.desc).map (fun d => d.parameters.length) = some 1 := by decide +kernel
set_option maxRecDepth 20000 in
theorem in_X8_year_X8 : ∀ w ∈ u_ws RX8 TX8 10, w ∈ wsX8_year := by decide +kernel
set_option maxRecDepth 20000 in
theorem lk_X8_year_0 : Cond.fieldLink RX8 60 "TwoHousesOneChild" "theYear" "I" ∈ wsX8_year := by decide +kernel
set_option maxHeartbeats 4000000 in
set_option maxRecDepth 100000 in
theorem ct_X8_year (l : Launch) (dC : Nat → ClassId) (dI : Nat → Nat → Nat) (cI cJ cB cZ : ClassId) (a_t a_t_text a_t_now a_t_slotZero a_t_slotOne a_t_wishes a_t_planner a_t_mending a_t_reading a_t_otherReading : Nat) (t_theYear : Int32) (p1 : Int32) (rr : Int32) (o1 : Int32) (h : fn_X8_year t_theYear p1 = some (rr, o1)) : zz_M l yX8_year wsX8_year ({ frames := 0, cells := 0, slots := 0, locals := 0 }) (dC, dI) (zz_T cI cJ cB cZ) [.ref a_t, .int p1] [(a_t, .inr (7, [.ref a_t_text, .ref a_t_now, .ref a_t_slotZero, .ref a_t_slotOne, .ref a_t_wishes, .ref a_t_planner, .ref a_t_mending, .ref a_t_reading, .ref a_t_otherReading, .int t_theYear]))] (zz_QI (dC, dI) (zz_T cI cJ cB cZ) (rr, o1) (fun (u : Int32) => [(a_t, .inr (7, [.ref a_t_text, .ref a_t_now, .ref a_t_slotZero, .ref a_t_slotOne, .ref a_t_wishes, .ref a_t_planner, .ref a_t_mending, .ref a_t_reading, .ref a_t_otherReading, .int u]))])) := by
  unfold fn_X8_year at h
  refine zz_of (by decide) rfl (Nat.le_of_ble_eq_true rfl) ?_
  intro p e s m below meth c A ls hx hb hr hml hts hown hlocks hA hS hP hK hD hl
  have hown : s.vm.findClass RX8 = some m.cls := hown
  have hl : lv_has ls 3 [(0, .ref a_t), (1, .int p1)] := hl
  refine lv_iload_n hx hb dX8_year_0 rfl (lv_at hl 1 rfl) ?_
  refine lv_if_lt (tgt := 10) hx hb dX8_year_1 (by decide) (fun c1 => ?_) (fun c1 => ?_)
  · have h := zz_if c1 h
    refine lv_bipush (v := (-2)) hx hb dX8_year_10 (by decide) ?_
    exact zz_iret t_theYear hx hb hr hlocks dX8_year_12 (Option.some.inj h) hP hK hD hS
  · have h := zz_ifn c1 h
    refine lv_iload_n hx hb dX8_year_4 rfl (lv_at hl 1 rfl) ?_
    refine lv_bipush (v := 99) hx hb dX8_year_5 (by decide) ?_
    refine lv_icmp_le (tgt := 13) hx hb dX8_year_7 (by decide) (fun c2 => ?_) (fun c2 => ?_)
    · have h := zz_if c2 h
      refine lv_aload_n hx hb dX8_year_13 rfl (lv_at hl 0 rfl) ?_
      refine va_get (ci := 7) (v := .int t_theYear) (C := RX8) (T := TX8) (N := 10) hx hb hts in_X8_year_X8 hown hK hP 0 rfl rfl 9 (by decide) (hts _ lk_X8_year_0) (fun _ h9 => h9) rfl dX8_year_14 ?_
      refine lv_istore_n (lv' := [(2, .int t_theYear), (0, .ref a_t), (1, .int p1)]) hx hb dX8_year_17 rfl hl (by decide) rfl (fun ls hl => ?_)
      refine lv_aload_n hx hb dX8_year_18 rfl (lv_at hl 1 rfl) ?_
      refine lv_iload_n hx hb dX8_year_19 rfl (lv_at hl 2 rfl) ?_
      refine va_put (ci := 7) (v := .int p1) (ty := .int) (C := RX8) (T := TX8) (N := 10) hx hb hts in_X8_year_X8 tyX8 tyX8_ok nmX8 hown hK hP hD hS 0 rfl rfl 9 (by decide) (hts _ lk_X8_year_0) (fun _ h9 => h9) rfl (by decide +kernel) rfl rfl (Nat.le_of_ble_eq_true rfl) dX8_year_20 (fun H locs hP hD hS => ?_)
      have hP : va_P (dC, dI) vwCl [(a_t, .inr (7, [.ref a_t_text, .ref a_t_now, .ref a_t_slotZero, .ref a_t_slotOne, .ref a_t_wishes, .ref a_t_planner, .ref a_t_mending, .ref a_t_reading, .ref a_t_otherReading, .int p1]))] H := hP
      have hD : va_D A [(a_t, .inr (7, [.ref a_t_text, .ref a_t_now, .ref a_t_slotZero, .ref a_t_slotOne, .ref a_t_wishes, .ref a_t_planner, .ref a_t_mending, .ref a_t_reading, .ref a_t_otherReading, .int p1]))] := hD
      refine lv_iload_n hx hb dX8_year_23 rfl (lv_at hl 0 rfl) ?_
      exact zz_iret p1 hx hb hr hlocks dX8_year_24 (Option.some.inj h) hP hK hD hS
    · have h := zz_ifn c2 h
      refine lv_bipush (v := (-2)) hx hb dX8_year_10 (by decide) ?_
      exact zz_iret t_theYear hx hb hr hlocks dX8_year_12 (Option.some.inj h) hP hK hD hS
theorem hd_X8_isNight : yX8_isNight.cls ≠ "java/lang/invoke/MethodHandle" ∧ yX8_isNight.cls ≠ "java/lang/invoke/VarHandle" ∧ (parseMethodDescriptor yX8_isNight.desc).map (fun d => d.parameters.length) = some 1 := by decide +kernel
set_option maxHeartbeats 4000000 in
set_option maxRecDepth 100000 in
theorem ct_X8_isNight (l : Launch) (dC : Nat → ClassId) (dI : Nat → Nat → Nat) (cI cJ cB cZ : ClassId) (p0 : Int32) (rr : Int32) (u0 : Unit) (h : fn_X8_isNight p0 = some (rr, u0)) : zz_M l yX8_isNight wsX8_isNight ({ frames := 0, cells := 0, slots := 0, locals := 0 }) (dC, dI) (zz_T cI cJ cB cZ) [.int p0] [] (zz_QI (dC, dI) (zz_T cI cJ cB cZ) (rr, u0) (fun (u : Unit) => [])) := by
  unfold fn_X8_isNight at h
  refine zz_of (by decide) rfl (Nat.le_of_ble_eq_true rfl) ?_
  intro p e s m below meth c A ls hx hb hr hml hts hown hlocks hA hS hP hK hD hl
  have hown : s.vm.findClass RX8 = some m.cls := hown
  have hl : lv_has ls 1 [(0, .int p0)] := hl
  refine lv_iload_n hx hb dX8_isNight_0 rfl (lv_at hl 0 rfl) ?_
  refine lv_if_lt (tgt := 14) hx hb dX8_isNight_1 (by decide) (fun c1 => ?_) (fun c1 => ?_)
  · have h := zz_if c1 h
    refine lv_iconst (v := 0) hx hb dX8_isNight_14 (by decide) ?_
    exact zz_zret () hx hb hr hlocks dX8_isNight_15 (by decide) (Option.some.inj h) hP hK hD hS
  · have h := zz_ifn c1 h
    refine lv_iload_n hx hb dX8_isNight_4 rfl (lv_at hl 0 rfl) ?_
    refine lv_bipush (v := 56) hx hb dX8_isNight_5 (by decide) ?_
    refine lv_icmp_ge (tgt := 14) hx hb dX8_isNight_7 (by decide) (fun c2 => ?_) (fun c2 => ?_)
    · have h := zz_if c2 h
      refine lv_iconst (v := 0) hx hb dX8_isNight_14 (by decide) ?_
      exact zz_zret () hx hb hr hlocks dX8_isNight_15 (by decide) (Option.some.inj h) hP hK hD hS
    · have h := zz_ifn c2 h
      refine lv_iconst (v := 1) hx hb dX8_isNight_10 (by decide) ?_
      refine lv_goto (tgt := 15) hx hb dX8_isNight_11 (by decide) ?_
      exact zz_zret () hx hb hr hlocks dX8_isNight_15 (by decide) (Option.some.inj h) hP hK hD hS
theorem hd_X8_readPaper : yX8_readPaper.cls ≠ "java/lang/invoke/MethodHandle" ∧ yX8_readPaper.cls ≠ "java/lang/invoke/VarHandle" ∧ (parseMethodDescriptor yX8_readPaper.desc).map (fun d => d.parameters.length) = some 0 := by decide +kernel
set_option maxRecDepth 20000 in
theorem in_X8_readPaper_X8 : ∀ w ∈ u_ws RX8 TX8 10, w ∈ wsX8_readPaper := by decide +kernel
set_option maxRecDepth 20000 in
theorem in_X8_readPaper_X5 : ∀ w ∈ u_ws RX5 TX5 5, w ∈ wsX8_readPaper := by decide +kernel
set_option maxRecDepth 20000 in
theorem lk_X8_readPaper_0 : Cond.fieldLink RX8 19 "TwoHousesOneChild" "now" "LTwoHousesOneChild$Standing;" ∈ wsX8_readPaper := by decide +kernel
set_option maxRecDepth 20000 in
theorem lk_X8_readPaper_1 : Cond.fieldLink RX8 75 "TwoHousesOneChild$Standing" "paper" "LTwoHousesOneChild$Paper;" ∈ wsX8_readPaper := by decide +kernel
set_option maxRecDepth 20000 in
theorem lk_X8_readPaper_2 : Cond.fieldLink RX8 53 "TwoHousesOneChild" "reading" "LTwoHousesOneChild$Reading;" ∈ wsX8_readPaper := by decide +kernel
set_option maxRecDepth 20000 in
theorem lk_X8_readPaper_3 : Cond.fieldLink RX8 60 "TwoHousesOneChild" "theYear" "I" ∈ wsX8_readPaper := by decide +kernel
set_option maxHeartbeats 4000000 in
set_option maxRecDepth 100000 in
theorem ct_X8_readPaper (l : Launch) (dC : Nat → ClassId) (dI : Nat → Nat → Nat) (cI cJ cB cZ : ClassId) (a_t a_t_now a_t_now_paper a_t_now_paper_numbers a_t_now_paper_ones a_t_now_paper_ranks a_t_now_paper_told a_t_now_paper_turnsByYear a_t_reading a_t_text a_t_slotZero a_t_slotOne a_t_wishes a_t_planner a_t_mending a_t_otherReading a_t_now_timesLate a_t_now_paid : Nat) (t_theYear : Int32) (t_now_plan : Int64) (t_now_isKept : Int32) (t_now_paper_size : Int32) (t_now_paper_numbers : (Nat → Int32)) (t_now_paper_ones : (Nat → Int64)) (t_now_paper_ranks : (Nat → Int32)) (t_now_paper_told : (Nat → Int64)) (t_now_paper_turnsByYear : (Nat → Int32)) (t_reading_zero : Int64) (t_reading_one : Int64) (t_reading_fights : Int64) (o1 : Int64) (o2 : Int64) (o3 : Int64) (h : fn_X8_readPaper t_theYear t_now_paper_size t_now_paper_numbers t_now_paper_ones t_now_paper_ranks t_now_paper_told t_now_paper_turnsByYear = some (o1, o2, o3)) : zz_M l yX8_readPaper wsX8_readPaper ({ frames := 3, cells := 0, slots := 0, locals := 78 }) (dC, dI) (zz_T cI cJ cB cZ) [.ref a_t] [(a_t, .inr (7, [.ref a_t_text, .ref a_t_now, .ref a_t_slotZero, .ref a_t_slotOne, .ref a_t_wishes, .ref a_t_planner, .ref a_t_mending, .ref a_t_reading, .ref a_t_otherReading, .int t_theYear])), (a_t_now, .inr (4, [.ref a_t_now_paper, .long t_now_plan, .ref a_t_now_timesLate, .ref a_t_now_paid, .int t_now_isKept])), (a_t_now_paper, .inr (1, [.int t_now_paper_size, .ref a_t_now_paper_numbers, .ref a_t_now_paper_ranks, .ref a_t_now_paper_told, .ref a_t_now_paper_ones, .ref a_t_now_paper_turnsByYear])), (a_t_now_paper_numbers, .inl (cI, 10, .inl t_now_paper_numbers)), (a_t_now_paper_ones, .inl (cJ, 10, .inr (.inl t_now_paper_ones))), (a_t_now_paper_ranks, .inl (cI, 10, .inl t_now_paper_ranks)), (a_t_now_paper_told, .inl (cJ, 10, .inr (.inl t_now_paper_told))), (a_t_now_paper_turnsByYear, .inl (cZ, 10, .inl t_now_paper_turnsByYear)), (a_t_reading, .inr (3, [.long t_reading_zero, .long t_reading_one, .long t_reading_fights]))] (zz_QR (dC, dI) (zz_T cI cJ cB cZ) a_t_reading (o1, o2, o3) (fun (u : Int64 × Int64 × Int64) => [(a_t, .inr (7, [.ref a_t_text, .ref a_t_now, .ref a_t_slotZero, .ref a_t_slotOne, .ref a_t_wishes, .ref a_t_planner, .ref a_t_mending, .ref a_t_reading, .ref a_t_otherReading, .int t_theYear])), (a_t_now, .inr (4, [.ref a_t_now_paper, .long t_now_plan, .ref a_t_now_timesLate, .ref a_t_now_paid, .int t_now_isKept])), (a_t_now_paper, .inr (1, [.int t_now_paper_size, .ref a_t_now_paper_numbers, .ref a_t_now_paper_ranks, .ref a_t_now_paper_told, .ref a_t_now_paper_ones, .ref a_t_now_paper_turnsByYear])), (a_t_now_paper_numbers, .inl (cI, 10, .inl t_now_paper_numbers)), (a_t_now_paper_ones, .inl (cJ, 10, .inr (.inl t_now_paper_ones))), (a_t_now_paper_ranks, .inl (cI, 10, .inl t_now_paper_ranks)), (a_t_now_paper_told, .inl (cJ, 10, .inr (.inl t_now_paper_told))), (a_t_now_paper_turnsByYear, .inl (cZ, 10, .inl t_now_paper_turnsByYear)), (a_t_reading, .inr (3, [.long u.1, .long u.2.1, .long u.2.2]))])) := by
  unfold fn_X8_readPaper at h
  refine zz_of (by decide) rfl (Nat.le_of_ble_eq_true rfl) ?_
  intro p e s m below meth c A ls hx hb hr hml hts hown hlocks hA hS hP hK hD hl
  have hown : s.vm.findClass RX8 = some m.cls := hown
  have hl : lv_has ls 1 [(0, .ref a_t)] := hl
  refine lv_aload_n hx hb dX8_readPaper_0 rfl (lv_at hl 0 rfl) ?_
  refine va_get (ci := 7) (v := .ref a_t_now) (C := RX8) (T := TX8) (N := 10) hx hb hts in_X8_readPaper_X8 hown hK hP 0 rfl rfl 1 (by decide) (hts _ lk_X8_readPaper_0) (fun _ h9 => h9) rfl dX8_readPaper_1 ?_
  refine va_get (ci := 4) (v := .ref a_t_now_paper) (C := RX5) (T := TX5) (N := 5) hx hb hts in_X8_readPaper_X5 hown hK hP 1 rfl rfl 0 (by decide) (hts _ lk_X8_readPaper_1) (fun _ h9 => h9) rfl dX8_readPaper_4 ?_
  refine lv_aload_n hx hb dX8_readPaper_7 rfl (lv_at hl 0 rfl) ?_
  refine va_get (ci := 7) (v := .ref a_t_reading) (C := RX8) (T := TX8) (N := 10) hx hb hts in_X8_readPaper_X8 hown hK hP 0 rfl rfl 7 (by decide) (hts _ lk_X8_readPaper_2) (fun _ h9 => h9) rfl dX8_readPaper_8 ?_
  refine lv_aload_n hx hb dX8_readPaper_11 rfl (lv_at hl 0 rfl) ?_
  refine va_get (ci := 7) (v := .int t_theYear) (C := RX8) (T := TX8) (N := 10) hx hb hts in_X8_readPaper_X8 hown hK hP 0 rfl rfl 9 (by decide) (hts _ lk_X8_readPaper_3) (fun _ h9 => h9) rfl dX8_readPaper_12 ?_
  refine lv_iconst (v := 0) hx hb dX8_readPaper_15 (by decide) ?_
  obtain ⟨x1, x2, x3, he4, h⟩ := zz_b3E h
  refine zz_VV (q := (RX2, TX2, 6)) (As := [.ref a_t_reading, .int t_theYear, .int 0]) (rest := []) (wr := [(a_t, .inr (7, [.ref a_t_text, .ref a_t_now, .ref a_t_slotZero, .ref a_t_slotOne, .ref a_t_wishes, .ref a_t_planner, .ref a_t_mending, .ref a_t_reading, .ref a_t_otherReading, .int t_theYear])), (a_t_now, .inr (4, [.ref a_t_now_paper, .long t_now_plan, .ref a_t_now_timesLate, .ref a_t_now_paid, .int t_now_isKept]))]) (wm := [(a_t, .inr (7, [.ref a_t_text, .ref a_t_now, .ref a_t_slotZero, .ref a_t_slotOne, .ref a_t_wishes, .ref a_t_planner, .ref a_t_mending, .ref a_t_reading, .ref a_t_otherReading, .int t_theYear])), (a_t_now, .inr (4, [.ref a_t_now_paper, .long t_now_plan, .ref a_t_now_timesLate, .ref a_t_now_paid, .int t_now_isKept])), (a_t_now_paper, .inr (1, [.int t_now_paper_size, .ref a_t_now_paper_numbers, .ref a_t_now_paper_ranks, .ref a_t_now_paper_told, .ref a_t_now_paper_ones, .ref a_t_now_paper_turnsByYear])), (a_t_now_paper_numbers, .inl (cI, 10, .inl t_now_paper_numbers)), (a_t_now_paper_ones, .inl (cJ, 10, .inr (.inl t_now_paper_ones))), (a_t_now_paper_ranks, .inl (cI, 10, .inl t_now_paper_ranks)), (a_t_now_paper_told, .inl (cJ, 10, .inr (.inl t_now_paper_told))), (a_t_now_paper_turnsByYear, .inl (cZ, 10, .inl t_now_paper_turnsByYear)), (a_t_reading, .inr (3, [.long x1, .long x2, .long x3]))]) ⟨hx, hb, hml, hown, hts⟩ (ct_X2_readTo l dC dI cI cJ cB cZ a_t_reading a_t_now_paper a_t_now_paper_numbers a_t_now_paper_ones a_t_now_paper_ranks a_t_now_paper_told a_t_now_paper_turnsByYear t_reading_zero t_reading_one t_reading_fights t_now_paper_size t_now_paper_numbers t_now_paper_ones t_now_paper_ranks t_now_paper_told t_now_paper_turnsByYear t_theYear (0 : Int32) x1 x2 x3 he4) gX8_readPaper_X2_readTo hd_X2_readTo rfl rfl rfl ⟨Nat.le_of_ble_eq_true rfl, Nat.le_of_ble_eq_true rfl⟩ ⟨Nat.le_of_ble_eq_true rfl, Nat.le_of_ble_eq_true rfl⟩ rfl rfl (Nat.le_of_ble_eq_true rfl) dX8_readPaper_16 hl.1 rfl (ci := 1) rfl (q0 := 2) rfl hP hK hD hS hA [8, 2, 3, 4, 5, 6, 7] [0, 1] [0, 1, 3, 4, 5, 6, 7, 8, 2] rfl rfl (by decide) (by decide) (by decide) (by decide) rfl (fun H locs hP hD hS => ?_)
  refine lv_aload_n hx hb dX8_readPaper_19 rfl (lv_at hl 0 rfl) ?_
  refine va_get (ci := 7) (v := .ref a_t_reading) (C := RX8) (T := TX8) (N := 10) hx hb hts in_X8_readPaper_X8 hown hK hP 0 rfl rfl 7 (by decide) (hts _ lk_X8_readPaper_2) (fun _ h9 => h9) rfl dX8_readPaper_20 ?_
  exact zz_aret (x1, x2, x3) hx hb hr hlocks dX8_readPaper_23 (Option.some.inj h) hP hK hD hS
theorem hd_X8_whose : yX8_whose.cls ≠ "java/lang/invoke/MethodHandle" ∧ yX8_whose.cls ≠ "java/lang/invoke/VarHandle" ∧ (parseMethodDescriptor yX8_whose.desc).map (fun d => d.parameters.length) = some 1 := by decide +kernel
set_option maxHeartbeats 4000000 in
set_option maxRecDepth 100000 in
theorem ct_X8_whose (l : Launch) (dC : Nat → ClassId) (dI : Nat → Nat → Nat) (cI cJ cB cZ : ClassId) (a_t a_t_now a_t_now_paper a_t_now_paper_numbers a_t_now_paper_ones a_t_now_paper_ranks a_t_now_paper_told a_t_now_paper_turnsByYear a_t_reading a_t_text a_t_slotZero a_t_slotOne a_t_wishes a_t_planner a_t_mending a_t_otherReading a_t_now_timesLate a_t_now_paid : Nat) (t_theYear : Int32) (t_now_plan : Int64) (t_now_isKept : Int32) (t_now_paper_size : Int32) (t_now_paper_numbers : (Nat → Int32)) (t_now_paper_ones : (Nat → Int64)) (t_now_paper_ranks : (Nat → Int32)) (t_now_paper_told : (Nat → Int64)) (t_now_paper_turnsByYear : (Nat → Int32)) (t_reading_zero : Int64) (t_reading_one : Int64) (t_reading_fights : Int64) (p1 : Int32) (rr : Int32) (o1 : Int64) (o2 : Int64) (o3 : Int64) (h : fn_X8_whose t_theYear t_now_paper_size t_now_paper_numbers t_now_paper_ones t_now_paper_ranks t_now_paper_told t_now_paper_turnsByYear t_reading_zero t_reading_one t_reading_fights p1 = some (rr, o1, o2, o3)) : zz_M l yX8_whose wsX8_whose ({ frames := 4, cells := 0, slots := 0, locals := 98 }) (dC, dI) (zz_T cI cJ cB cZ) [.ref a_t, .int p1] [(a_t, .inr (7, [.ref a_t_text, .ref a_t_now, .ref a_t_slotZero, .ref a_t_slotOne, .ref a_t_wishes, .ref a_t_planner, .ref a_t_mending, .ref a_t_reading, .ref a_t_otherReading, .int t_theYear])), (a_t_now, .inr (4, [.ref a_t_now_paper, .long t_now_plan, .ref a_t_now_timesLate, .ref a_t_now_paid, .int t_now_isKept])), (a_t_now_paper, .inr (1, [.int t_now_paper_size, .ref a_t_now_paper_numbers, .ref a_t_now_paper_ranks, .ref a_t_now_paper_told, .ref a_t_now_paper_ones, .ref a_t_now_paper_turnsByYear])), (a_t_now_paper_numbers, .inl (cI, 10, .inl t_now_paper_numbers)), (a_t_now_paper_ones, .inl (cJ, 10, .inr (.inl t_now_paper_ones))), (a_t_now_paper_ranks, .inl (cI, 10, .inl t_now_paper_ranks)), (a_t_now_paper_told, .inl (cJ, 10, .inr (.inl t_now_paper_told))), (a_t_now_paper_turnsByYear, .inl (cZ, 10, .inl t_now_paper_turnsByYear)), (a_t_reading, .inr (3, [.long t_reading_zero, .long t_reading_one, .long t_reading_fights]))] (zz_QI (dC, dI) (zz_T cI cJ cB cZ) (rr, o1, o2, o3) (fun (u : Int64 × Int64 × Int64) => [(a_t, .inr (7, [.ref a_t_text, .ref a_t_now, .ref a_t_slotZero, .ref a_t_slotOne, .ref a_t_wishes, .ref a_t_planner, .ref a_t_mending, .ref a_t_reading, .ref a_t_otherReading, .int t_theYear])), (a_t_now, .inr (4, [.ref a_t_now_paper, .long t_now_plan, .ref a_t_now_timesLate, .ref a_t_now_paid, .int t_now_isKept])), (a_t_now_paper, .inr (1, [.int t_now_paper_size, .ref a_t_now_paper_numbers, .ref a_t_now_paper_ranks, .ref a_t_now_paper_told, .ref a_t_now_paper_ones, .ref a_t_now_paper_turnsByYear])), (a_t_now_paper_numbers, .inl (cI, 10, .inl t_now_paper_numbers)), (a_t_now_paper_ones, .inl (cJ, 10, .inr (.inl t_now_paper_ones))), (a_t_now_paper_ranks, .inl (cI, 10, .inl t_now_paper_ranks)), (a_t_now_paper_told, .inl (cJ, 10, .inr (.inl t_now_paper_told))), (a_t_now_paper_turnsByYear, .inl (cZ, 10, .inl t_now_paper_turnsByYear)), (a_t_reading, .inr (3, [.long u.1, .long u.2.1, .long u.2.2]))])) := by
  unfold fn_X8_whose at h
  refine zz_of (by decide) rfl (Nat.le_of_ble_eq_true rfl) ?_
  intro p e s m below meth c A ls hx hb hr hml hts hown hlocks hA hS hP hK hD hl
  have hown : s.vm.findClass RX8 = some m.cls := hown
  have hl : lv_has ls 2 [(0, .ref a_t), (1, .int p1)] := hl
  refine lv_iload_n hx hb dX8_whose_0 rfl (lv_at hl 1 rfl) ?_
  obtain ⟨x1, u2, he3, h⟩ := zz_b2E h
  refine zz_PI (As := [.int p1]) (rest := []) ⟨hx, hb, hml, hown, hts⟩ (ct_X8_isNight l dC dI cI cJ cB cZ p1 x1 u2 he3) gX8_whose_X8_isNight hd_X8_isNight rfl rfl rfl ⟨Nat.le_of_ble_eq_true rfl, Nat.le_of_ble_eq_true rfl⟩ ⟨Nat.le_of_ble_eq_true rfl, Nat.le_of_ble_eq_true rfl⟩ rfl rfl (Nat.le_of_ble_eq_true rfl) dX8_whose_1 hl.1 hP hK hS hA (fun H locs hP hS => ?_)
  refine lv_if_eq (tgt := 18) hx hb dX8_whose_4 (by decide) (fun c4 => ?_) (fun c4 => ?_)
  · have h := zz_if c4 h
    refine lv_iconst (v := (-1)) hx hb dX8_whose_18 (by decide) ?_
    exact zz_iret (t_reading_zero, t_reading_one, t_reading_fights) hx hb hr hlocks dX8_whose_19 (Option.some.inj h) hP hK hD hS
  · have h := zz_ifn c4 h
    refine lv_aload_n hx hb dX8_whose_7 rfl (lv_at hl 0 rfl) ?_
    obtain ⟨x5, x6, x7, he8, h⟩ := zz_b3E h
    refine zz_VR (q := (RX8, TX8, 10)) (As := []) (rest := []) (wr := []) (wm := [(a_t, .inr (7, [.ref a_t_text, .ref a_t_now, .ref a_t_slotZero, .ref a_t_slotOne, .ref a_t_wishes, .ref a_t_planner, .ref a_t_mending, .ref a_t_reading, .ref a_t_otherReading, .int t_theYear])), (a_t_now, .inr (4, [.ref a_t_now_paper, .long t_now_plan, .ref a_t_now_timesLate, .ref a_t_now_paid, .int t_now_isKept])), (a_t_now_paper, .inr (1, [.int t_now_paper_size, .ref a_t_now_paper_numbers, .ref a_t_now_paper_ranks, .ref a_t_now_paper_told, .ref a_t_now_paper_ones, .ref a_t_now_paper_turnsByYear])), (a_t_now_paper_numbers, .inl (cI, 10, .inl t_now_paper_numbers)), (a_t_now_paper_ones, .inl (cJ, 10, .inr (.inl t_now_paper_ones))), (a_t_now_paper_ranks, .inl (cI, 10, .inl t_now_paper_ranks)), (a_t_now_paper_told, .inl (cJ, 10, .inr (.inl t_now_paper_told))), (a_t_now_paper_turnsByYear, .inl (cZ, 10, .inl t_now_paper_turnsByYear)), (a_t_reading, .inr (3, [.long x5, .long x6, .long x7]))]) ⟨hx, hb, hml, hown, hts⟩ (ct_X8_readPaper l dC dI cI cJ cB cZ a_t a_t_now a_t_now_paper a_t_now_paper_numbers a_t_now_paper_ones a_t_now_paper_ranks a_t_now_paper_told a_t_now_paper_turnsByYear a_t_reading a_t_text a_t_slotZero a_t_slotOne a_t_wishes a_t_planner a_t_mending a_t_otherReading a_t_now_timesLate a_t_now_paid t_theYear t_now_plan t_now_isKept t_now_paper_size t_now_paper_numbers t_now_paper_ones t_now_paper_ranks t_now_paper_told t_now_paper_turnsByYear t_reading_zero t_reading_one t_reading_fights x5 x6 x7 he8) gX8_whose_X8_readPaper hd_X8_readPaper rfl rfl rfl ⟨Nat.le_of_ble_eq_true rfl, Nat.le_of_ble_eq_true rfl⟩ ⟨Nat.le_of_ble_eq_true rfl, Nat.le_of_ble_eq_true rfl⟩ rfl rfl (Nat.le_of_ble_eq_true rfl) dX8_whose_8 hl.1 rfl (ci := 7) rfl (q0 := 0) rfl hP hK hD hS hA [0, 1, 2, 3, 4, 5, 6, 7, 8] [] [0, 1, 2, 3, 4, 5, 6, 7, 8] rfl rfl (by decide) (by decide) (by decide) (by decide) rfl (fun H locs hP hD hS => ?_)
    refine lv_iload_n hx hb dX8_whose_11 rfl (lv_at hl 1 rfl) ?_
    obtain ⟨x9, u10, he11, h⟩ := zz_b2E h
    refine zz_VI (q := (RX4, TX4, 3)) (As := [.int p1]) (rest := []) (wr := [(a_t, .inr (7, [.ref a_t_text, .ref a_t_now, .ref a_t_slotZero, .ref a_t_slotOne, .ref a_t_wishes, .ref a_t_planner, .ref a_t_mending, .ref a_t_reading, .ref a_t_otherReading, .int t_theYear])), (a_t_now, .inr (4, [.ref a_t_now_paper, .long t_now_plan, .ref a_t_now_timesLate, .ref a_t_now_paid, .int t_now_isKept])), (a_t_now_paper, .inr (1, [.int t_now_paper_size, .ref a_t_now_paper_numbers, .ref a_t_now_paper_ranks, .ref a_t_now_paper_told, .ref a_t_now_paper_ones, .ref a_t_now_paper_turnsByYear])), (a_t_now_paper_numbers, .inl (cI, 10, .inl t_now_paper_numbers)), (a_t_now_paper_ones, .inl (cJ, 10, .inr (.inl t_now_paper_ones))), (a_t_now_paper_ranks, .inl (cI, 10, .inl t_now_paper_ranks)), (a_t_now_paper_told, .inl (cJ, 10, .inr (.inl t_now_paper_told))), (a_t_now_paper_turnsByYear, .inl (cZ, 10, .inl t_now_paper_turnsByYear))]) (wm := [(a_t, .inr (7, [.ref a_t_text, .ref a_t_now, .ref a_t_slotZero, .ref a_t_slotOne, .ref a_t_wishes, .ref a_t_planner, .ref a_t_mending, .ref a_t_reading, .ref a_t_otherReading, .int t_theYear])), (a_t_now, .inr (4, [.ref a_t_now_paper, .long t_now_plan, .ref a_t_now_timesLate, .ref a_t_now_paid, .int t_now_isKept])), (a_t_now_paper, .inr (1, [.int t_now_paper_size, .ref a_t_now_paper_numbers, .ref a_t_now_paper_ranks, .ref a_t_now_paper_told, .ref a_t_now_paper_ones, .ref a_t_now_paper_turnsByYear])), (a_t_now_paper_numbers, .inl (cI, 10, .inl t_now_paper_numbers)), (a_t_now_paper_ones, .inl (cJ, 10, .inr (.inl t_now_paper_ones))), (a_t_now_paper_ranks, .inl (cI, 10, .inl t_now_paper_ranks)), (a_t_now_paper_told, .inl (cJ, 10, .inr (.inl t_now_paper_told))), (a_t_now_paper_turnsByYear, .inl (cZ, 10, .inl t_now_paper_turnsByYear)), (a_t_reading, .inr (3, [.long x5, .long x6, .long x7]))]) ⟨hx, hb, hml, hown, hts⟩ (ct_X4_whoseIs l dC dI cI cJ cB cZ a_t_reading x5 x6 x7 p1 x9 u10 he11) gX8_whose_X4_whoseIs hd_X4_whoseIs rfl rfl rfl ⟨Nat.le_of_ble_eq_true rfl, Nat.le_of_ble_eq_true rfl⟩ ⟨Nat.le_of_ble_eq_true rfl, Nat.le_of_ble_eq_true rfl⟩ rfl rfl (Nat.le_of_ble_eq_true rfl) dX8_whose_12 hl.1 rfl (ci := 3) rfl (q0 := 8) rfl hP hK hD hS hA [8] [0, 1, 2, 3, 4, 5, 6, 7] [0, 1, 2, 3, 4, 5, 6, 7, 8] rfl rfl (by decide) (by decide) (by decide) (by decide) rfl (fun H locs hP hD hS => ?_)
    refine lv_goto (tgt := 19) hx hb dX8_whose_15 (by decide) ?_
    exact zz_iret (x5, x6, x7) hx hb hr hlocks dX8_whose_19 (Option.some.inj h) hP hK hD hS
theorem hd_X8_words : yX8_words.cls ≠ "java/lang/invoke/MethodHandle" ∧ yX8_words.cls ≠ "java/lang/invoke/VarHandle" ∧ (parseMethodDescriptor yX8_words.desc).map (fun d => d.parameters.length) = some 1 := by decide +kernel
set_option maxRecDepth 20000 in
theorem in_X8_words_X8 : ∀ w ∈ u_ws RX8 TX8 10, w ∈ wsX8_words := by decide +kernel
set_option maxRecDepth 20000 in
theorem in_X8_words_X5 : ∀ w ∈ u_ws RX5 TX5 5, w ∈ wsX8_words := by decide +kernel
set_option maxRecDepth 20000 in
theorem lk_X8_words_0 : Cond.fieldLink RX8 19 "TwoHousesOneChild" "now" "LTwoHousesOneChild$Standing;" ∈ wsX8_words := by decide +kernel
set_option maxRecDepth 20000 in
theorem lk_X8_words_1 : Cond.fieldLink RX8 75 "TwoHousesOneChild$Standing" "paper" "LTwoHousesOneChild$Paper;" ∈ wsX8_words := by decide +kernel
set_option maxHeartbeats 4000000 in
set_option maxRecDepth 100000 in
theorem ct_X8_words (l : Launch) (dC : Nat → ClassId) (dI : Nat → Nat → Nat) (cI cJ cB cZ : ClassId) (a_t a_t_now a_t_now_paper a_t_now_paper_numbers a_t_now_paper_ranks a_t_now_paper_told a_t_text a_t_slotZero a_t_slotOne a_t_wishes a_t_planner a_t_mending a_t_reading a_t_otherReading a_t_now_timesLate a_t_now_paid a_t_now_paper_ones a_t_now_paper_turnsByYear : Nat) (t_theYear : Int32) (t_now_plan : Int64) (t_now_isKept : Int32) (t_now_paper_size : Int32) (t_now_paper_numbers : (Nat → Int32)) (t_now_paper_ranks : (Nat → Int32)) (t_now_paper_told : (Nat → Int64)) (p1 : Int32) (rr : Int32) (u0 : Unit) (h : fn_X8_words t_now_paper_size t_now_paper_numbers t_now_paper_ranks t_now_paper_told p1 = some (rr, u0)) : zz_M l yX8_words wsX8_words ({ frames := 2, cells := 0, slots := 0, locals := 46 }) (dC, dI) (zz_T cI cJ cB cZ) [.ref a_t, .int p1] [(a_t, .inr (7, [.ref a_t_text, .ref a_t_now, .ref a_t_slotZero, .ref a_t_slotOne, .ref a_t_wishes, .ref a_t_planner, .ref a_t_mending, .ref a_t_reading, .ref a_t_otherReading, .int t_theYear])), (a_t_now, .inr (4, [.ref a_t_now_paper, .long t_now_plan, .ref a_t_now_timesLate, .ref a_t_now_paid, .int t_now_isKept])), (a_t_now_paper, .inr (1, [.int t_now_paper_size, .ref a_t_now_paper_numbers, .ref a_t_now_paper_ranks, .ref a_t_now_paper_told, .ref a_t_now_paper_ones, .ref a_t_now_paper_turnsByYear])), (a_t_now_paper_numbers, .inl (cI, 10, .inl t_now_paper_numbers)), (a_t_now_paper_ranks, .inl (cI, 10, .inl t_now_paper_ranks)), (a_t_now_paper_told, .inl (cJ, 10, .inr (.inl t_now_paper_told)))] (zz_QI (dC, dI) (zz_T cI cJ cB cZ) (rr, u0) (fun (u : Unit) => [(a_t, .inr (7, [.ref a_t_text, .ref a_t_now, .ref a_t_slotZero, .ref a_t_slotOne, .ref a_t_wishes, .ref a_t_planner, .ref a_t_mending, .ref a_t_reading, .ref a_t_otherReading, .int t_theYear])), (a_t_now, .inr (4, [.ref a_t_now_paper, .long t_now_plan, .ref a_t_now_timesLate, .ref a_t_now_paid, .int t_now_isKept])), (a_t_now_paper, .inr (1, [.int t_now_paper_size, .ref a_t_now_paper_numbers, .ref a_t_now_paper_ranks, .ref a_t_now_paper_told, .ref a_t_now_paper_ones, .ref a_t_now_paper_turnsByYear])), (a_t_now_paper_numbers, .inl (cI, 10, .inl t_now_paper_numbers)), (a_t_now_paper_ranks, .inl (cI, 10, .inl t_now_paper_ranks)), (a_t_now_paper_told, .inl (cJ, 10, .inr (.inl t_now_paper_told)))])) := by
  unfold fn_X8_words at h
  refine zz_of (by decide) rfl (Nat.le_of_ble_eq_true rfl) ?_
  intro p e s m below meth c A ls hx hb hr hml hts hown hlocks hA hS hP hK hD hl
  have hown : s.vm.findClass RX8 = some m.cls := hown
  have hl : lv_has ls 2 [(0, .ref a_t), (1, .int p1)] := hl
  refine lv_iload_n hx hb dX8_words_0 rfl (lv_at hl 1 rfl) ?_
  obtain ⟨x1, u2, he3, h⟩ := zz_b2E h
  refine zz_PI (As := [.int p1]) (rest := []) ⟨hx, hb, hml, hown, hts⟩ (ct_X8_isNight l dC dI cI cJ cB cZ p1 x1 u2 he3) gX8_words_X8_isNight hd_X8_isNight rfl rfl rfl ⟨Nat.le_of_ble_eq_true rfl, Nat.le_of_ble_eq_true rfl⟩ ⟨Nat.le_of_ble_eq_true rfl, Nat.le_of_ble_eq_true rfl⟩ rfl rfl (Nat.le_of_ble_eq_true rfl) dX8_words_1 hl.1 hP hK hS hA (fun H locs hP hS => ?_)
  refine lv_if_eq (tgt := 21) hx hb dX8_words_4 (by decide) (fun c4 => ?_) (fun c4 => ?_)
  · have h := zz_if c4 h
    refine lv_iconst (v := (-1)) hx hb dX8_words_21 (by decide) ?_
    exact zz_iret () hx hb hr hlocks dX8_words_22 (Option.some.inj h) hP hK hD hS
  · have h := zz_ifn c4 h
    refine lv_aload_n hx hb dX8_words_7 rfl (lv_at hl 0 rfl) ?_
    refine va_get (ci := 7) (v := .ref a_t_now) (C := RX8) (T := TX8) (N := 10) hx hb hts in_X8_words_X8 hown hK hP 0 rfl rfl 1 (by decide) (hts _ lk_X8_words_0) (fun _ h9 => h9) rfl dX8_words_8 ?_
    refine va_get (ci := 4) (v := .ref a_t_now_paper) (C := RX5) (T := TX5) (N := 5) hx hb hts in_X8_words_X5 hown hK hP 1 rfl rfl 0 (by decide) (hts _ lk_X8_words_1) (fun _ h9 => h9) rfl dX8_words_11 ?_
    refine lv_iload_n hx hb dX8_words_14 rfl (lv_at hl 1 rfl) ?_
    obtain ⟨x5, u6, he7, h⟩ := zz_b2E h
    refine zz_VI (q := (RX2, TX2, 6)) (As := [.int p1]) (rest := []) (wr := [(a_t, .inr (7, [.ref a_t_text, .ref a_t_now, .ref a_t_slotZero, .ref a_t_slotOne, .ref a_t_wishes, .ref a_t_planner, .ref a_t_mending, .ref a_t_reading, .ref a_t_otherReading, .int t_theYear])), (a_t_now, .inr (4, [.ref a_t_now_paper, .long t_now_plan, .ref a_t_now_timesLate, .ref a_t_now_paid, .int t_now_isKept]))]) (wm := [(a_t, .inr (7, [.ref a_t_text, .ref a_t_now, .ref a_t_slotZero, .ref a_t_slotOne, .ref a_t_wishes, .ref a_t_planner, .ref a_t_mending, .ref a_t_reading, .ref a_t_otherReading, .int t_theYear])), (a_t_now, .inr (4, [.ref a_t_now_paper, .long t_now_plan, .ref a_t_now_timesLate, .ref a_t_now_paid, .int t_now_isKept])), (a_t_now_paper, .inr (1, [.int t_now_paper_size, .ref a_t_now_paper_numbers, .ref a_t_now_paper_ranks, .ref a_t_now_paper_told, .ref a_t_now_paper_ones, .ref a_t_now_paper_turnsByYear])), (a_t_now_paper_numbers, .inl (cI, 10, .inl t_now_paper_numbers)), (a_t_now_paper_ranks, .inl (cI, 10, .inl t_now_paper_ranks)), (a_t_now_paper_told, .inl (cJ, 10, .inr (.inl t_now_paper_told)))]) ⟨hx, hb, hml, hown, hts⟩ (ct_X2_foremost l dC dI cI cJ cB cZ a_t_now_paper a_t_now_paper_numbers a_t_now_paper_ranks a_t_now_paper_told a_t_now_paper_ones a_t_now_paper_turnsByYear t_now_paper_size t_now_paper_numbers t_now_paper_ranks t_now_paper_told p1 x5 u6 he7) gX8_words_X2_foremost hd_X2_foremost rfl rfl rfl ⟨Nat.le_of_ble_eq_true rfl, Nat.le_of_ble_eq_true rfl⟩ ⟨Nat.le_of_ble_eq_true rfl, Nat.le_of_ble_eq_true rfl⟩ rfl rfl (Nat.le_of_ble_eq_true rfl) dX8_words_15 hl.1 rfl (ci := 1) rfl (q0 := 2) rfl hP hK hD hS hA [2, 3, 4, 5] [0, 1] [0, 1, 2, 3, 4, 5] rfl rfl (by decide) (by decide) (by decide) (by decide) rfl (fun H locs hP hD hS => ?_)
    refine lv_goto (tgt := 22) hx hb dX8_words_18 (by decide) ?_
    exact zz_iret () hx hb hr hlocks dX8_words_22 (Option.some.inj h) hP hK hD hS
theorem hd_X8_says : yX8_says.cls ≠ "java/lang/invoke/MethodHandle" ∧ yX8_says.cls ≠ "java/lang/invoke/VarHandle" ∧ (parseMethodDescriptor yX8_says.desc).map (fun d => d.parameters.length) = some 2 := by decide +kernel
set_option maxRecDepth 20000 in
theorem in_X8_says_X8 : ∀ w ∈ u_ws RX8 TX8 10, w ∈ wsX8_says := by decide +kernel
set_option maxRecDepth 20000 in
theorem in_X8_says_X5 : ∀ w ∈ u_ws RX5 TX5 5, w ∈ wsX8_says := by decide +kernel
set_option maxRecDepth 20000 in
theorem in_X8_says_X2 : ∀ w ∈ u_ws RX2 TX2 6, w ∈ wsX8_says := by decide +kernel
set_option maxRecDepth 20000 in
theorem lk_X8_says_0 : Cond.fieldLink RX8 19 "TwoHousesOneChild" "now" "LTwoHousesOneChild$Standing;" ∈ wsX8_says := by decide +kernel
set_option maxRecDepth 20000 in
theorem lk_X8_says_1 : Cond.fieldLink RX8 75 "TwoHousesOneChild$Standing" "paper" "LTwoHousesOneChild$Paper;" ∈ wsX8_says := by decide +kernel
set_option maxRecDepth 20000 in
theorem lk_X8_says_2 : Cond.fieldLink RX8 83 "TwoHousesOneChild$Paper" "size" "I" ∈ wsX8_says := by decide +kernel
set_option maxRecDepth 20000 in
theorem lk_X8_says_3 : Cond.fieldLink RX8 60 "TwoHousesOneChild" "theYear" "I" ∈ wsX8_says := by decide +kernel
set_option maxHeartbeats 4000000 in
set_option maxRecDepth 100000 in
theorem ct_X8_says (l : Launch) (dC : Nat → ClassId) (dI : Nat → Nat → Nat) (cI cJ cB cZ : ClassId) (a_t a_t_now a_t_now_paper a_t_now_paper_numbers a_t_now_paper_ones a_t_now_paper_told a_t_now_paper_turnsByYear a_t_text a_t_slotZero a_t_slotOne a_t_wishes a_t_planner a_t_mending a_t_reading a_t_otherReading a_t_now_timesLate a_t_now_paid a_t_now_paper_ranks : Nat) (t_theYear : Int32) (t_now_plan : Int64) (t_now_isKept : Int32) (t_now_paper_size : Int32) (t_now_paper_numbers : (Nat → Int32)) (t_now_paper_ones : (Nat → Int64)) (t_now_paper_told : (Nat → Int64)) (t_now_paper_turnsByYear : (Nat → Int32)) (p1 : Int32) (p2 : Int32) (rr : Int32) (u0 : Unit) (h : fn_X8_says t_theYear t_now_paper_size t_now_paper_numbers t_now_paper_ones t_now_paper_told t_now_paper_turnsByYear p1 p2 = some (rr, u0)) : zz_M l yX8_says wsX8_says ({ frames := 2, cells := 0, slots := 0, locals := 47 }) (dC, dI) (zz_T cI cJ cB cZ) [.ref a_t, .int p1, .int p2] [(a_t, .inr (7, [.ref a_t_text, .ref a_t_now, .ref a_t_slotZero, .ref a_t_slotOne, .ref a_t_wishes, .ref a_t_planner, .ref a_t_mending, .ref a_t_reading, .ref a_t_otherReading, .int t_theYear])), (a_t_now, .inr (4, [.ref a_t_now_paper, .long t_now_plan, .ref a_t_now_timesLate, .ref a_t_now_paid, .int t_now_isKept])), (a_t_now_paper, .inr (1, [.int t_now_paper_size, .ref a_t_now_paper_numbers, .ref a_t_now_paper_ranks, .ref a_t_now_paper_told, .ref a_t_now_paper_ones, .ref a_t_now_paper_turnsByYear])), (a_t_now_paper_numbers, .inl (cI, 10, .inl t_now_paper_numbers)), (a_t_now_paper_ones, .inl (cJ, 10, .inr (.inl t_now_paper_ones))), (a_t_now_paper_told, .inl (cJ, 10, .inr (.inl t_now_paper_told))), (a_t_now_paper_turnsByYear, .inl (cZ, 10, .inl t_now_paper_turnsByYear))] (zz_QI (dC, dI) (zz_T cI cJ cB cZ) (rr, u0) (fun (u : Unit) => [(a_t, .inr (7, [.ref a_t_text, .ref a_t_now, .ref a_t_slotZero, .ref a_t_slotOne, .ref a_t_wishes, .ref a_t_planner, .ref a_t_mending, .ref a_t_reading, .ref a_t_otherReading, .int t_theYear])), (a_t_now, .inr (4, [.ref a_t_now_paper, .long t_now_plan, .ref a_t_now_timesLate, .ref a_t_now_paid, .int t_now_isKept])), (a_t_now_paper, .inr (1, [.int t_now_paper_size, .ref a_t_now_paper_numbers, .ref a_t_now_paper_ranks, .ref a_t_now_paper_told, .ref a_t_now_paper_ones, .ref a_t_now_paper_turnsByYear])), (a_t_now_paper_numbers, .inl (cI, 10, .inl t_now_paper_numbers)), (a_t_now_paper_ones, .inl (cJ, 10, .inr (.inl t_now_paper_ones))), (a_t_now_paper_told, .inl (cJ, 10, .inr (.inl t_now_paper_told))), (a_t_now_paper_turnsByYear, .inl (cZ, 10, .inl t_now_paper_turnsByYear))])) := by
  unfold fn_X8_says at h
  refine zz_of (by decide) rfl (Nat.le_of_ble_eq_true rfl) ?_
  intro p e s m below meth c A ls hx hb hr hml hts hown hlocks hA hS hP hK hD hl
  have hown : s.vm.findClass RX8 = some m.cls := hown
  have hl : lv_has ls 3 [(0, .ref a_t), (1, .int p1), (2, .int p2)] := hl
  refine lv_iload_n hx hb dX8_says_0 rfl (lv_at hl 1 rfl) ?_
  refine lv_if_lt (tgt := 25) hx hb dX8_says_1 (by decide) (fun c1 => ?_) (fun c1 => ?_)
  · have h := zz_if c1 h
    refine lv_iconst (v := (-1)) hx hb dX8_says_25 (by decide) ?_
    exact zz_iret () hx hb hr hlocks dX8_says_26 (Option.some.inj h) hP hK hD hS
  · have h := zz_ifn c1 h
    refine lv_iload_n hx hb dX8_says_4 rfl (lv_at hl 1 rfl) ?_
    refine lv_aload_n hx hb dX8_says_5 rfl (lv_at hl 0 rfl) ?_
    refine va_get (ci := 7) (v := .ref a_t_now) (C := RX8) (T := TX8) (N := 10) hx hb hts in_X8_says_X8 hown hK hP 0 rfl rfl 1 (by decide) (hts _ lk_X8_says_0) (fun _ h9 => h9) rfl dX8_says_6 ?_
    refine va_get (ci := 4) (v := .ref a_t_now_paper) (C := RX5) (T := TX5) (N := 5) hx hb hts in_X8_says_X5 hown hK hP 1 rfl rfl 0 (by decide) (hts _ lk_X8_says_1) (fun _ h9 => h9) rfl dX8_says_9 ?_
    refine va_get (ci := 1) (v := .int t_now_paper_size) (C := RX2) (T := TX2) (N := 6) hx hb hts in_X8_says_X2 hown hK hP 2 rfl rfl 0 (by decide) (hts _ lk_X8_says_2) (fun _ h9 => h9) rfl dX8_says_12 ?_
    refine lv_icmp_ge (tgt := 25) hx hb dX8_says_15 (by decide) (fun c2 => ?_) (fun c2 => ?_)
    · have h := zz_if c2 h
      refine lv_iconst (v := (-1)) hx hb dX8_says_25 (by decide) ?_
      exact zz_iret () hx hb hr hlocks dX8_says_26 (Option.some.inj h) hP hK hD hS
    · have h := zz_ifn c2 h
      refine lv_iload_n hx hb dX8_says_18 rfl (lv_at hl 2 rfl) ?_
      obtain ⟨x3, u4, he5, h⟩ := zz_b2E h
      refine zz_PI (As := [.int p2]) (rest := []) ⟨hx, hb, hml, hown, hts⟩ (ct_X8_isNight l dC dI cI cJ cB cZ p2 x3 u4 he5) gX8_says_X8_isNight hd_X8_isNight rfl rfl rfl ⟨Nat.le_of_ble_eq_true rfl, Nat.le_of_ble_eq_true rfl⟩ ⟨Nat.le_of_ble_eq_true rfl, Nat.le_of_ble_eq_true rfl⟩ rfl rfl (Nat.le_of_ble_eq_true rfl) dX8_says_19 hl.1 hP hK hS hA (fun H locs hP hS => ?_)
      refine lv_if_ne (tgt := 27) hx hb dX8_says_22 (by decide) (fun c6 => ?_) (fun c6 => ?_)
      · have h := zz_ifn c6 h
        refine lv_aload_n hx hb dX8_says_27 rfl (lv_at hl 0 rfl) ?_
        refine va_get (ci := 7) (v := .ref a_t_now) (C := RX8) (T := TX8) (N := 10) hx hb hts in_X8_says_X8 hown hK hP 0 rfl rfl 1 (by decide) (hts _ lk_X8_says_0) (fun _ h9 => h9) rfl dX8_says_28 ?_
        refine va_get (ci := 4) (v := .ref a_t_now_paper) (C := RX5) (T := TX5) (N := 5) hx hb hts in_X8_says_X5 hown hK hP 1 rfl rfl 0 (by decide) (hts _ lk_X8_says_1) (fun _ h9 => h9) rfl dX8_says_31 ?_
        refine lv_iload_n hx hb dX8_says_34 rfl (lv_at hl 1 rfl) ?_
        refine lv_iload_n hx hb dX8_says_35 rfl (lv_at hl 2 rfl) ?_
        refine lv_aload_n hx hb dX8_says_36 rfl (lv_at hl 0 rfl) ?_
        refine va_get (ci := 7) (v := .int t_theYear) (C := RX8) (T := TX8) (N := 10) hx hb hts in_X8_says_X8 hown hK hP 0 rfl rfl 9 (by decide) (hts _ lk_X8_says_3) (fun _ h9 => h9) rfl dX8_says_37 ?_
        obtain ⟨x7, u8, he9, h⟩ := zz_b2E h
        refine zz_VI (q := (RX2, TX2, 6)) (As := [.int p1, .int p2, .int t_theYear]) (rest := []) (wr := [(a_t, .inr (7, [.ref a_t_text, .ref a_t_now, .ref a_t_slotZero, .ref a_t_slotOne, .ref a_t_wishes, .ref a_t_planner, .ref a_t_mending, .ref a_t_reading, .ref a_t_otherReading, .int t_theYear])), (a_t_now, .inr (4, [.ref a_t_now_paper, .long t_now_plan, .ref a_t_now_timesLate, .ref a_t_now_paid, .int t_now_isKept]))]) (wm := [(a_t, .inr (7, [.ref a_t_text, .ref a_t_now, .ref a_t_slotZero, .ref a_t_slotOne, .ref a_t_wishes, .ref a_t_planner, .ref a_t_mending, .ref a_t_reading, .ref a_t_otherReading, .int t_theYear])), (a_t_now, .inr (4, [.ref a_t_now_paper, .long t_now_plan, .ref a_t_now_timesLate, .ref a_t_now_paid, .int t_now_isKept])), (a_t_now_paper, .inr (1, [.int t_now_paper_size, .ref a_t_now_paper_numbers, .ref a_t_now_paper_ranks, .ref a_t_now_paper_told, .ref a_t_now_paper_ones, .ref a_t_now_paper_turnsByYear])), (a_t_now_paper_numbers, .inl (cI, 10, .inl t_now_paper_numbers)), (a_t_now_paper_ones, .inl (cJ, 10, .inr (.inl t_now_paper_ones))), (a_t_now_paper_told, .inl (cJ, 10, .inr (.inl t_now_paper_told))), (a_t_now_paper_turnsByYear, .inl (cZ, 10, .inl t_now_paper_turnsByYear))]) ⟨hx, hb, hml, hown, hts⟩ (ct_X2_tells l dC dI cI cJ cB cZ a_t_now_paper a_t_now_paper_numbers a_t_now_paper_ones a_t_now_paper_told a_t_now_paper_turnsByYear a_t_now_paper_ranks t_now_paper_size t_now_paper_numbers t_now_paper_ones t_now_paper_told t_now_paper_turnsByYear p1 p2 t_theYear x7 u8 he9) gX8_says_X2_tells hd_X2_tells rfl rfl rfl ⟨Nat.le_of_ble_eq_true rfl, Nat.le_of_ble_eq_true rfl⟩ ⟨Nat.le_of_ble_eq_true rfl, Nat.le_of_ble_eq_true rfl⟩ rfl rfl (Nat.le_of_ble_eq_true rfl) dX8_says_40 hl.1 rfl (ci := 1) rfl (q0 := 2) rfl hP hK hD hS hA [2, 3, 4, 5, 6] [0, 1] [0, 1, 2, 3, 4, 5, 6] rfl rfl (by decide) (by decide) (by decide) (by decide) rfl (fun H locs hP hD hS => ?_)
        exact zz_iret () hx hb hr hlocks dX8_says_43 (Option.some.inj h) hP hK hD hS
      · have h := zz_if c6 h
        refine lv_iconst (v := (-1)) hx hb dX8_says_25 (by decide) ?_
        exact zz_iret () hx hb hr hlocks dX8_says_26 (Option.some.inj h) hP hK hD hS
theorem hd_X8_nights : yX8_nights.cls ≠ "java/lang/invoke/MethodHandle" ∧ yX8_nights.cls ≠ "java/lang/invoke/VarHandle" ∧ (parseMethodDescriptor yX8_nights.desc).map (fun d => d.parameters.length) = some 1 := by decide +kernel
set_option maxHeartbeats 4000000 in
set_option maxRecDepth 100000 in
theorem ct_X8_nights (l : Launch) (dC : Nat → ClassId) (dI : Nat → Nat → Nat) (cI cJ cB cZ : ClassId) (a_t a_t_now a_t_now_paper a_t_now_paper_numbers a_t_now_paper_ones a_t_now_paper_ranks a_t_now_paper_told a_t_now_paper_turnsByYear a_t_reading a_t_text a_t_slotZero a_t_slotOne a_t_wishes a_t_planner a_t_mending a_t_otherReading a_t_now_timesLate a_t_now_paid : Nat) (t_theYear : Int32) (t_now_plan : Int64) (t_now_isKept : Int32) (t_now_paper_size : Int32) (t_now_paper_numbers : (Nat → Int32)) (t_now_paper_ones : (Nat → Int64)) (t_now_paper_ranks : (Nat → Int32)) (t_now_paper_told : (Nat → Int64)) (t_now_paper_turnsByYear : (Nat → Int32)) (t_reading_zero : Int64) (t_reading_one : Int64) (t_reading_fights : Int64) (p1 : Int32) (rr : Int32) (o1 : Int64) (o2 : Int64) (o3 : Int64) (h : fn_X8_nights t_theYear t_now_paper_size t_now_paper_numbers t_now_paper_ones t_now_paper_ranks t_now_paper_told t_now_paper_turnsByYear t_reading_zero t_reading_one t_reading_fights p1 = some (rr, o1, o2, o3)) : zz_M l yX8_nights wsX8_nights ({ frames := 4, cells := 0, slots := 0, locals := 98 }) (dC, dI) (zz_T cI cJ cB cZ) [.ref a_t, .int p1] [(a_t, .inr (7, [.ref a_t_text, .ref a_t_now, .ref a_t_slotZero, .ref a_t_slotOne, .ref a_t_wishes, .ref a_t_planner, .ref a_t_mending, .ref a_t_reading, .ref a_t_otherReading, .int t_theYear])), (a_t_now, .inr (4, [.ref a_t_now_paper, .long t_now_plan, .ref a_t_now_timesLate, .ref a_t_now_paid, .int t_now_isKept])), (a_t_now_paper, .inr (1, [.int t_now_paper_size, .ref a_t_now_paper_numbers, .ref a_t_now_paper_ranks, .ref a_t_now_paper_told, .ref a_t_now_paper_ones, .ref a_t_now_paper_turnsByYear])), (a_t_now_paper_numbers, .inl (cI, 10, .inl t_now_paper_numbers)), (a_t_now_paper_ones, .inl (cJ, 10, .inr (.inl t_now_paper_ones))), (a_t_now_paper_ranks, .inl (cI, 10, .inl t_now_paper_ranks)), (a_t_now_paper_told, .inl (cJ, 10, .inr (.inl t_now_paper_told))), (a_t_now_paper_turnsByYear, .inl (cZ, 10, .inl t_now_paper_turnsByYear)), (a_t_reading, .inr (3, [.long t_reading_zero, .long t_reading_one, .long t_reading_fights]))] (zz_QI (dC, dI) (zz_T cI cJ cB cZ) (rr, o1, o2, o3) (fun (u : Int64 × Int64 × Int64) => [(a_t, .inr (7, [.ref a_t_text, .ref a_t_now, .ref a_t_slotZero, .ref a_t_slotOne, .ref a_t_wishes, .ref a_t_planner, .ref a_t_mending, .ref a_t_reading, .ref a_t_otherReading, .int t_theYear])), (a_t_now, .inr (4, [.ref a_t_now_paper, .long t_now_plan, .ref a_t_now_timesLate, .ref a_t_now_paid, .int t_now_isKept])), (a_t_now_paper, .inr (1, [.int t_now_paper_size, .ref a_t_now_paper_numbers, .ref a_t_now_paper_ranks, .ref a_t_now_paper_told, .ref a_t_now_paper_ones, .ref a_t_now_paper_turnsByYear])), (a_t_now_paper_numbers, .inl (cI, 10, .inl t_now_paper_numbers)), (a_t_now_paper_ones, .inl (cJ, 10, .inr (.inl t_now_paper_ones))), (a_t_now_paper_ranks, .inl (cI, 10, .inl t_now_paper_ranks)), (a_t_now_paper_told, .inl (cJ, 10, .inr (.inl t_now_paper_told))), (a_t_now_paper_turnsByYear, .inl (cZ, 10, .inl t_now_paper_turnsByYear)), (a_t_reading, .inr (3, [.long u.1, .long u.2.1, .long u.2.2]))])) := by
  unfold fn_X8_nights at h
  refine zz_of (by decide) rfl (Nat.le_of_ble_eq_true rfl) ?_
  intro p e s m below meth c A ls hx hb hr hml hts hown hlocks hA hS hP hK hD hl
  have hown : s.vm.findClass RX8 = some m.cls := hown
  have hl : lv_has ls 2 [(0, .ref a_t), (1, .int p1)] := hl
  refine lv_iload_n hx hb dX8_nights_0 rfl (lv_at hl 1 rfl) ?_
  refine lv_if_lt (tgt := 9) hx hb dX8_nights_1 (by decide) (fun c1 => ?_) (fun c1 => ?_)
  · have h := zz_if c1 h
    refine lv_bipush (v := (-2)) hx hb dX8_nights_9 (by decide) ?_
    exact zz_iret (t_reading_zero, t_reading_one, t_reading_fights) hx hb hr hlocks dX8_nights_11 (Option.some.inj h) hP hK hD hS
  · have h := zz_ifn c1 h
    refine lv_iload_n hx hb dX8_nights_4 rfl (lv_at hl 1 rfl) ?_
    refine lv_iconst (v := 3) hx hb dX8_nights_5 (by decide) ?_
    refine lv_icmp_le (tgt := 12) hx hb dX8_nights_6 (by decide) (fun c2 => ?_) (fun c2 => ?_)
    · have h := zz_if c2 h
      refine lv_aload_n hx hb dX8_nights_12 rfl (lv_at hl 0 rfl) ?_
      obtain ⟨x3, x4, x5, he6, h⟩ := zz_b3E h
      refine zz_VR (q := (RX8, TX8, 10)) (As := []) (rest := []) (wr := []) (wm := [(a_t, .inr (7, [.ref a_t_text, .ref a_t_now, .ref a_t_slotZero, .ref a_t_slotOne, .ref a_t_wishes, .ref a_t_planner, .ref a_t_mending, .ref a_t_reading, .ref a_t_otherReading, .int t_theYear])), (a_t_now, .inr (4, [.ref a_t_now_paper, .long t_now_plan, .ref a_t_now_timesLate, .ref a_t_now_paid, .int t_now_isKept])), (a_t_now_paper, .inr (1, [.int t_now_paper_size, .ref a_t_now_paper_numbers, .ref a_t_now_paper_ranks, .ref a_t_now_paper_told, .ref a_t_now_paper_ones, .ref a_t_now_paper_turnsByYear])), (a_t_now_paper_numbers, .inl (cI, 10, .inl t_now_paper_numbers)), (a_t_now_paper_ones, .inl (cJ, 10, .inr (.inl t_now_paper_ones))), (a_t_now_paper_ranks, .inl (cI, 10, .inl t_now_paper_ranks)), (a_t_now_paper_told, .inl (cJ, 10, .inr (.inl t_now_paper_told))), (a_t_now_paper_turnsByYear, .inl (cZ, 10, .inl t_now_paper_turnsByYear)), (a_t_reading, .inr (3, [.long x3, .long x4, .long x5]))]) ⟨hx, hb, hml, hown, hts⟩ (ct_X8_readPaper l dC dI cI cJ cB cZ a_t a_t_now a_t_now_paper a_t_now_paper_numbers a_t_now_paper_ones a_t_now_paper_ranks a_t_now_paper_told a_t_now_paper_turnsByYear a_t_reading a_t_text a_t_slotZero a_t_slotOne a_t_wishes a_t_planner a_t_mending a_t_otherReading a_t_now_timesLate a_t_now_paid t_theYear t_now_plan t_now_isKept t_now_paper_size t_now_paper_numbers t_now_paper_ones t_now_paper_ranks t_now_paper_told t_now_paper_turnsByYear t_reading_zero t_reading_one t_reading_fights x3 x4 x5 he6) gX8_nights_X8_readPaper hd_X8_readPaper rfl rfl rfl ⟨Nat.le_of_ble_eq_true rfl, Nat.le_of_ble_eq_true rfl⟩ ⟨Nat.le_of_ble_eq_true rfl, Nat.le_of_ble_eq_true rfl⟩ rfl rfl (Nat.le_of_ble_eq_true rfl) dX8_nights_13 hl.1 rfl (ci := 7) rfl (q0 := 0) rfl hP hK hD hS hA [0, 1, 2, 3, 4, 5, 6, 7, 8] [] [0, 1, 2, 3, 4, 5, 6, 7, 8] rfl rfl (by decide) (by decide) (by decide) (by decide) rfl (fun H locs hP hD hS => ?_)
      refine lv_iload_n hx hb dX8_nights_16 rfl (lv_at hl 1 rfl) ?_
      obtain ⟨x7, u8, he9, h⟩ := zz_b2E h
      refine zz_VL (q := (RX4, TX4, 3)) (As := [.int p1]) (rest := []) (wr := [(a_t, .inr (7, [.ref a_t_text, .ref a_t_now, .ref a_t_slotZero, .ref a_t_slotOne, .ref a_t_wishes, .ref a_t_planner, .ref a_t_mending, .ref a_t_reading, .ref a_t_otherReading, .int t_theYear])), (a_t_now, .inr (4, [.ref a_t_now_paper, .long t_now_plan, .ref a_t_now_timesLate, .ref a_t_now_paid, .int t_now_isKept])), (a_t_now_paper, .inr (1, [.int t_now_paper_size, .ref a_t_now_paper_numbers, .ref a_t_now_paper_ranks, .ref a_t_now_paper_told, .ref a_t_now_paper_ones, .ref a_t_now_paper_turnsByYear])), (a_t_now_paper_numbers, .inl (cI, 10, .inl t_now_paper_numbers)), (a_t_now_paper_ones, .inl (cJ, 10, .inr (.inl t_now_paper_ones))), (a_t_now_paper_ranks, .inl (cI, 10, .inl t_now_paper_ranks)), (a_t_now_paper_told, .inl (cJ, 10, .inr (.inl t_now_paper_told))), (a_t_now_paper_turnsByYear, .inl (cZ, 10, .inl t_now_paper_turnsByYear))]) (wm := [(a_t, .inr (7, [.ref a_t_text, .ref a_t_now, .ref a_t_slotZero, .ref a_t_slotOne, .ref a_t_wishes, .ref a_t_planner, .ref a_t_mending, .ref a_t_reading, .ref a_t_otherReading, .int t_theYear])), (a_t_now, .inr (4, [.ref a_t_now_paper, .long t_now_plan, .ref a_t_now_timesLate, .ref a_t_now_paid, .int t_now_isKept])), (a_t_now_paper, .inr (1, [.int t_now_paper_size, .ref a_t_now_paper_numbers, .ref a_t_now_paper_ranks, .ref a_t_now_paper_told, .ref a_t_now_paper_ones, .ref a_t_now_paper_turnsByYear])), (a_t_now_paper_numbers, .inl (cI, 10, .inl t_now_paper_numbers)), (a_t_now_paper_ones, .inl (cJ, 10, .inr (.inl t_now_paper_ones))), (a_t_now_paper_ranks, .inl (cI, 10, .inl t_now_paper_ranks)), (a_t_now_paper_told, .inl (cJ, 10, .inr (.inl t_now_paper_told))), (a_t_now_paper_turnsByYear, .inl (cZ, 10, .inl t_now_paper_turnsByYear)), (a_t_reading, .inr (3, [.long x3, .long x4, .long x5]))]) ⟨hx, hb, hml, hown, hts⟩ (ct_X4_nightsThatAre l dC dI cI cJ cB cZ a_t_reading x3 x4 x5 p1 x7 u8 he9) gX8_nights_X4_nightsThatAre hd_X4_nightsThatAre rfl rfl rfl ⟨Nat.le_of_ble_eq_true rfl, Nat.le_of_ble_eq_true rfl⟩ ⟨Nat.le_of_ble_eq_true rfl, Nat.le_of_ble_eq_true rfl⟩ rfl rfl (Nat.le_of_ble_eq_true rfl) dX8_nights_17 hl.1 rfl (ci := 3) rfl (q0 := 8) rfl hP hK hD hS hA [8] [0, 1, 2, 3, 4, 5, 6, 7] [0, 1, 2, 3, 4, 5, 6, 7, 8] rfl rfl (by decide) (by decide) (by decide) (by decide) rfl (fun H locs hP hD hS => ?_)
      obtain ⟨x10, u11, he12, h⟩ := zz_b2E h
      refine zz_PI (As := [.long x7]) (rest := []) ⟨hx, hb, hml, hown, hts⟩ (ct_J13_bitCount_95d88 l dC dI cI cJ cB cZ x7 x10 u11 he12) gX8_nights_J13_bitCount_95d88 hd_J13_bitCount_95d88 rfl rfl rfl ⟨Nat.le_of_ble_eq_true rfl, Nat.le_of_ble_eq_true rfl⟩ ⟨Nat.le_of_ble_eq_true rfl, Nat.le_of_ble_eq_true rfl⟩ rfl rfl (Nat.le_of_ble_eq_true rfl) dX8_nights_20 hl.1 hP hK hS hA (fun H locs hP hS => ?_)
      exact zz_iret (x3, x4, x5) hx hb hr hlocks dX8_nights_23 (Option.some.inj h) hP hK hD hS
    · have h := zz_ifn c2 h
      refine lv_bipush (v := (-2)) hx hb dX8_nights_9 (by decide) ?_
      exact zz_iret (t_reading_zero, t_reading_one, t_reading_fights) hx hb hr hlocks dX8_nights_11 (Option.some.inj h) hP hK hD hS
theorem hd_X8_night : yX8_night.cls ≠ "java/lang/invoke/MethodHandle" ∧ yX8_night.cls ≠ "java/lang/invoke/VarHandle" ∧ (parseMethodDescriptor yX8_night.desc).map (fun d => d.parameters.length) = some 2 := by decide +kernel
set_option maxHeartbeats 4000000 in
set_option maxRecDepth 100000 in
theorem ct_X8_night (l : Launch) (dC : Nat → ClassId) (dI : Nat → Nat → Nat) (cI cJ cB cZ : ClassId) (a_t a_t_now a_t_now_paper a_t_now_paper_numbers a_t_now_paper_ones a_t_now_paper_ranks a_t_now_paper_told a_t_now_paper_turnsByYear a_t_reading a_t_text a_t_slotZero a_t_slotOne a_t_wishes a_t_planner a_t_mending a_t_otherReading a_t_now_timesLate a_t_now_paid : Nat) (t_theYear : Int32) (t_now_plan : Int64) (t_now_isKept : Int32) (t_now_paper_size : Int32) (t_now_paper_numbers : (Nat → Int32)) (t_now_paper_ones : (Nat → Int64)) (t_now_paper_ranks : (Nat → Int32)) (t_now_paper_told : (Nat → Int64)) (t_now_paper_turnsByYear : (Nat → Int32)) (t_reading_zero : Int64) (t_reading_one : Int64) (t_reading_fights : Int64) (p1 : Int32) (p2 : Int32) (rr : Int32) (o1 : Int64) (o2 : Int64) (o3 : Int64) (h : fn_X8_night t_theYear t_now_paper_size t_now_paper_numbers t_now_paper_ones t_now_paper_ranks t_now_paper_told t_now_paper_turnsByYear t_reading_zero t_reading_one t_reading_fights p1 p2 = some (rr, o1, o2, o3)) : zz_M l yX8_night wsX8_night ({ frames := 4, cells := 0, slots := 0, locals := 98 }) (dC, dI) (zz_T cI cJ cB cZ) [.ref a_t, .int p1, .int p2] [(a_t, .inr (7, [.ref a_t_text, .ref a_t_now, .ref a_t_slotZero, .ref a_t_slotOne, .ref a_t_wishes, .ref a_t_planner, .ref a_t_mending, .ref a_t_reading, .ref a_t_otherReading, .int t_theYear])), (a_t_now, .inr (4, [.ref a_t_now_paper, .long t_now_plan, .ref a_t_now_timesLate, .ref a_t_now_paid, .int t_now_isKept])), (a_t_now_paper, .inr (1, [.int t_now_paper_size, .ref a_t_now_paper_numbers, .ref a_t_now_paper_ranks, .ref a_t_now_paper_told, .ref a_t_now_paper_ones, .ref a_t_now_paper_turnsByYear])), (a_t_now_paper_numbers, .inl (cI, 10, .inl t_now_paper_numbers)), (a_t_now_paper_ones, .inl (cJ, 10, .inr (.inl t_now_paper_ones))), (a_t_now_paper_ranks, .inl (cI, 10, .inl t_now_paper_ranks)), (a_t_now_paper_told, .inl (cJ, 10, .inr (.inl t_now_paper_told))), (a_t_now_paper_turnsByYear, .inl (cZ, 10, .inl t_now_paper_turnsByYear)), (a_t_reading, .inr (3, [.long t_reading_zero, .long t_reading_one, .long t_reading_fights]))] (zz_QI (dC, dI) (zz_T cI cJ cB cZ) (rr, o1, o2, o3) (fun (u : Int64 × Int64 × Int64) => [(a_t, .inr (7, [.ref a_t_text, .ref a_t_now, .ref a_t_slotZero, .ref a_t_slotOne, .ref a_t_wishes, .ref a_t_planner, .ref a_t_mending, .ref a_t_reading, .ref a_t_otherReading, .int t_theYear])), (a_t_now, .inr (4, [.ref a_t_now_paper, .long t_now_plan, .ref a_t_now_timesLate, .ref a_t_now_paid, .int t_now_isKept])), (a_t_now_paper, .inr (1, [.int t_now_paper_size, .ref a_t_now_paper_numbers, .ref a_t_now_paper_ranks, .ref a_t_now_paper_told, .ref a_t_now_paper_ones, .ref a_t_now_paper_turnsByYear])), (a_t_now_paper_numbers, .inl (cI, 10, .inl t_now_paper_numbers)), (a_t_now_paper_ones, .inl (cJ, 10, .inr (.inl t_now_paper_ones))), (a_t_now_paper_ranks, .inl (cI, 10, .inl t_now_paper_ranks)), (a_t_now_paper_told, .inl (cJ, 10, .inr (.inl t_now_paper_told))), (a_t_now_paper_turnsByYear, .inl (cZ, 10, .inl t_now_paper_turnsByYear)), (a_t_reading, .inr (3, [.long u.1, .long u.2.1, .long u.2.2]))])) := by
  unfold fn_X8_night at h
  refine zz_of (by decide) rfl (Nat.le_of_ble_eq_true rfl) ?_
  intro p e s m below meth c A ls hx hb hr hml hts hown hlocks hA hS hP hK hD hl
  have hown : s.vm.findClass RX8 = some m.cls := hown
  have hl : lv_has ls 3 [(0, .ref a_t), (1, .int p1), (2, .int p2)] := hl
  refine lv_iload_n hx hb dX8_night_0 rfl (lv_at hl 1 rfl) ?_
  refine lv_if_lt (tgt := 9) hx hb dX8_night_1 (by decide) (fun c1 => ?_) (fun c1 => ?_)
  · have h := zz_if c1 h
    refine lv_bipush (v := (-2)) hx hb dX8_night_9 (by decide) ?_
    exact zz_iret (t_reading_zero, t_reading_one, t_reading_fights) hx hb hr hlocks dX8_night_11 (Option.some.inj h) hP hK hD hS
  · have h := zz_ifn c1 h
    refine lv_iload_n hx hb dX8_night_4 rfl (lv_at hl 1 rfl) ?_
    refine lv_iconst (v := 3) hx hb dX8_night_5 (by decide) ?_
    refine lv_icmp_le (tgt := 12) hx hb dX8_night_6 (by decide) (fun c2 => ?_) (fun c2 => ?_)
    · have h := zz_if c2 h
      refine lv_aload_n hx hb dX8_night_12 rfl (lv_at hl 0 rfl) ?_
      obtain ⟨x3, x4, x5, he6, h⟩ := zz_b3E h
      refine zz_VR (q := (RX8, TX8, 10)) (As := []) (rest := []) (wr := []) (wm := [(a_t, .inr (7, [.ref a_t_text, .ref a_t_now, .ref a_t_slotZero, .ref a_t_slotOne, .ref a_t_wishes, .ref a_t_planner, .ref a_t_mending, .ref a_t_reading, .ref a_t_otherReading, .int t_theYear])), (a_t_now, .inr (4, [.ref a_t_now_paper, .long t_now_plan, .ref a_t_now_timesLate, .ref a_t_now_paid, .int t_now_isKept])), (a_t_now_paper, .inr (1, [.int t_now_paper_size, .ref a_t_now_paper_numbers, .ref a_t_now_paper_ranks, .ref a_t_now_paper_told, .ref a_t_now_paper_ones, .ref a_t_now_paper_turnsByYear])), (a_t_now_paper_numbers, .inl (cI, 10, .inl t_now_paper_numbers)), (a_t_now_paper_ones, .inl (cJ, 10, .inr (.inl t_now_paper_ones))), (a_t_now_paper_ranks, .inl (cI, 10, .inl t_now_paper_ranks)), (a_t_now_paper_told, .inl (cJ, 10, .inr (.inl t_now_paper_told))), (a_t_now_paper_turnsByYear, .inl (cZ, 10, .inl t_now_paper_turnsByYear)), (a_t_reading, .inr (3, [.long x3, .long x4, .long x5]))]) ⟨hx, hb, hml, hown, hts⟩ (ct_X8_readPaper l dC dI cI cJ cB cZ a_t a_t_now a_t_now_paper a_t_now_paper_numbers a_t_now_paper_ones a_t_now_paper_ranks a_t_now_paper_told a_t_now_paper_turnsByYear a_t_reading a_t_text a_t_slotZero a_t_slotOne a_t_wishes a_t_planner a_t_mending a_t_otherReading a_t_now_timesLate a_t_now_paid t_theYear t_now_plan t_now_isKept t_now_paper_size t_now_paper_numbers t_now_paper_ones t_now_paper_ranks t_now_paper_told t_now_paper_turnsByYear t_reading_zero t_reading_one t_reading_fights x3 x4 x5 he6) gX8_night_X8_readPaper hd_X8_readPaper rfl rfl rfl ⟨Nat.le_of_ble_eq_true rfl, Nat.le_of_ble_eq_true rfl⟩ ⟨Nat.le_of_ble_eq_true rfl, Nat.le_of_ble_eq_true rfl⟩ rfl rfl (Nat.le_of_ble_eq_true rfl) dX8_night_13 hl.1 rfl (ci := 7) rfl (q0 := 0) rfl hP hK hD hS hA [0, 1, 2, 3, 4, 5, 6, 7, 8] [] [0, 1, 2, 3, 4, 5, 6, 7, 8] rfl rfl (by decide) (by decide) (by decide) (by decide) rfl (fun H locs hP hD hS => ?_)
      refine lv_iload_n hx hb dX8_night_16 rfl (lv_at hl 1 rfl) ?_
      obtain ⟨x7, u8, he9, h⟩ := zz_b2E h
      refine zz_VL (q := (RX4, TX4, 3)) (As := [.int p1]) (rest := []) (wr := [(a_t, .inr (7, [.ref a_t_text, .ref a_t_now, .ref a_t_slotZero, .ref a_t_slotOne, .ref a_t_wishes, .ref a_t_planner, .ref a_t_mending, .ref a_t_reading, .ref a_t_otherReading, .int t_theYear])), (a_t_now, .inr (4, [.ref a_t_now_paper, .long t_now_plan, .ref a_t_now_timesLate, .ref a_t_now_paid, .int t_now_isKept])), (a_t_now_paper, .inr (1, [.int t_now_paper_size, .ref a_t_now_paper_numbers, .ref a_t_now_paper_ranks, .ref a_t_now_paper_told, .ref a_t_now_paper_ones, .ref a_t_now_paper_turnsByYear])), (a_t_now_paper_numbers, .inl (cI, 10, .inl t_now_paper_numbers)), (a_t_now_paper_ones, .inl (cJ, 10, .inr (.inl t_now_paper_ones))), (a_t_now_paper_ranks, .inl (cI, 10, .inl t_now_paper_ranks)), (a_t_now_paper_told, .inl (cJ, 10, .inr (.inl t_now_paper_told))), (a_t_now_paper_turnsByYear, .inl (cZ, 10, .inl t_now_paper_turnsByYear))]) (wm := [(a_t, .inr (7, [.ref a_t_text, .ref a_t_now, .ref a_t_slotZero, .ref a_t_slotOne, .ref a_t_wishes, .ref a_t_planner, .ref a_t_mending, .ref a_t_reading, .ref a_t_otherReading, .int t_theYear])), (a_t_now, .inr (4, [.ref a_t_now_paper, .long t_now_plan, .ref a_t_now_timesLate, .ref a_t_now_paid, .int t_now_isKept])), (a_t_now_paper, .inr (1, [.int t_now_paper_size, .ref a_t_now_paper_numbers, .ref a_t_now_paper_ranks, .ref a_t_now_paper_told, .ref a_t_now_paper_ones, .ref a_t_now_paper_turnsByYear])), (a_t_now_paper_numbers, .inl (cI, 10, .inl t_now_paper_numbers)), (a_t_now_paper_ones, .inl (cJ, 10, .inr (.inl t_now_paper_ones))), (a_t_now_paper_ranks, .inl (cI, 10, .inl t_now_paper_ranks)), (a_t_now_paper_told, .inl (cJ, 10, .inr (.inl t_now_paper_told))), (a_t_now_paper_turnsByYear, .inl (cZ, 10, .inl t_now_paper_turnsByYear)), (a_t_reading, .inr (3, [.long x3, .long x4, .long x5]))]) ⟨hx, hb, hml, hown, hts⟩ (ct_X4_nightsThatAre l dC dI cI cJ cB cZ a_t_reading x3 x4 x5 p1 x7 u8 he9) gX8_night_X4_nightsThatAre hd_X4_nightsThatAre rfl rfl rfl ⟨Nat.le_of_ble_eq_true rfl, Nat.le_of_ble_eq_true rfl⟩ ⟨Nat.le_of_ble_eq_true rfl, Nat.le_of_ble_eq_true rfl⟩ rfl rfl (Nat.le_of_ble_eq_true rfl) dX8_night_17 hl.1 rfl (ci := 3) rfl (q0 := 8) rfl hP hK hD hS hA [8] [0, 1, 2, 3, 4, 5, 6, 7] [0, 1, 2, 3, 4, 5, 6, 7, 8] rfl rfl (by decide) (by decide) (by decide) (by decide) rfl (fun H locs hP hD hS => ?_)
      refine lv_iload_n hx hb dX8_night_20 rfl (lv_at hl 2 rfl) ?_
      obtain ⟨x10, u11, he12, h⟩ := zz_b2E h
      refine zz_PI (As := [.long x7, .int p2]) (rest := []) ⟨hx, hb, hml, hown, hts⟩ (ct_X1_pick l dC dI cI cJ cB cZ x7 p2 x10 u11 he12) gX8_night_X1_pick hd_X1_pick rfl rfl rfl ⟨Nat.le_of_ble_eq_true rfl, Nat.le_of_ble_eq_true rfl⟩ ⟨Nat.le_of_ble_eq_true rfl, Nat.le_of_ble_eq_true rfl⟩ rfl rfl (Nat.le_of_ble_eq_true rfl) dX8_night_21 hl.1 hP hK hS hA (fun H locs hP hS => ?_)
      exact zz_iret (x3, x4, x5) hx hb hr hlocks dX8_night_24 (Option.some.inj h) hP hK hD hS
    · have h := zz_ifn c2 h
      refine lv_bipush (v := (-2)) hx hb dX8_night_9 (by decide) ?_
      exact zz_iret (t_reading_zero, t_reading_one, t_reading_fights) hx hb hr hlocks dX8_night_11 (Option.some.inj h) hP hK hD hS
theorem hd_X8_mend : yX8_mend.cls ≠ "java/lang/invoke/MethodHandle" ∧ yX8_mend.cls ≠ "java/lang/invoke/VarHandle" ∧ (parseMethodDescriptor yX8_mend.desc).map (fun d => d.parameters.length) = some 0 := by decide +kernel
set_option maxRecDepth 20000 in
theorem in_X8_mend_X8 : ∀ w ∈ u_ws RX8 TX8 10, w ∈ wsX8_mend := by decide +kernel
set_option maxRecDepth 20000 in
theorem in_X8_mend_X5 : ∀ w ∈ u_ws RX5 TX5 5, w ∈ wsX8_mend := by decide +kernel
set_option maxRecDepth 20000 in
theorem in_X8_mend_X0 : ∀ w ∈ u_ws RX0 TX0 2, w ∈ wsX8_mend := by decide +kernel
set_option maxRecDepth 20000 in
theorem lk_X8_mend_0 : Cond.fieldLink RX8 46 "TwoHousesOneChild" "mending" "LTwoHousesOneChild$Mending;" ∈ wsX8_mend := by decide +kernel
set_option maxRecDepth 20000 in
theorem lk_X8_mend_1 : Cond.fieldLink RX8 19 "TwoHousesOneChild" "now" "LTwoHousesOneChild$Standing;" ∈ wsX8_mend := by decide +kernel
set_option maxRecDepth 20000 in
theorem lk_X8_mend_2 : Cond.fieldLink RX8 75 "TwoHousesOneChild$Standing" "paper" "LTwoHousesOneChild$Paper;" ∈ wsX8_mend := by decide +kernel
set_option maxRecDepth 20000 in
theorem lk_X8_mend_3 : Cond.fieldLink RX8 60 "TwoHousesOneChild" "theYear" "I" ∈ wsX8_mend := by decide +kernel
set_option maxRecDepth 20000 in
theorem lk_X8_mend_4 : Cond.fieldLink RX8 57 "TwoHousesOneChild" "otherReading" "LTwoHousesOneChild$Reading;" ∈ wsX8_mend := by decide +kernel
set_option maxRecDepth 20000 in
theorem lk_X8_mend_5 : Cond.fieldLink RX8 127 "TwoHousesOneChild$Mending" "rules" "I" ∈ wsX8_mend := by decide +kernel
set_option maxHeartbeats 4000000 in
set_option maxRecDepth 100000 in
theorem ct_X8_mend (l : Launch) (dC : Nat → ClassId) (dI : Nat → Nat → Nat) (cI cJ cB cZ : ClassId) (a_t a_t_mending a_t_now a_t_now_paper a_t_now_paper_numbers a_t_now_paper_ones a_t_now_paper_ranks a_t_now_paper_told a_t_now_paper_turnsByYear a_t_otherReading a_t_reading a_t_text a_t_slotZero a_t_slotOne a_t_wishes a_t_planner a_t_now_timesLate a_t_now_paid : Nat) (t_theYear : Int32) (t_mending_rules : Int32) (t_mending_changed : Int32) (t_now_plan : Int64) (t_now_isKept : Int32) (t_now_paper_size : Int32) (t_now_paper_numbers : (Nat → Int32)) (t_now_paper_ones : (Nat → Int64)) (t_now_paper_ranks : (Nat → Int32)) (t_now_paper_told : (Nat → Int64)) (t_now_paper_turnsByYear : (Nat → Int32)) (t_otherReading_zero : Int64) (t_otherReading_one : Int64) (t_otherReading_fights : Int64) (t_reading_zero : Int64) (t_reading_one : Int64) (t_reading_fights : Int64) (rr : Int32) (o1 : Int32) (o2 : Int32) (o3 : Int64) (o4 : Int64) (o5 : Int64) (o6 : Int64) (o7 : Int64) (o8 : Int64) (h : fn_X8_mend t_theYear t_now_paper_size t_now_paper_numbers t_now_paper_ones t_now_paper_ranks t_now_paper_told t_now_paper_turnsByYear t_otherReading_zero t_otherReading_one t_otherReading_fights = some (rr, o1, o2, o3, o4, o5, o6, o7, o8)) : zz_M l yX8_mend wsX8_mend ({ frames := 4, cells := 0, slots := 0, locals := 106 }) (dC, dI) (zz_T cI cJ cB cZ) [.ref a_t] [(a_t, .inr (7, [.ref a_t_text, .ref a_t_now, .ref a_t_slotZero, .ref a_t_slotOne, .ref a_t_wishes, .ref a_t_planner, .ref a_t_mending, .ref a_t_reading, .ref a_t_otherReading, .int t_theYear])), (a_t_mending, .inr (0, [.int t_mending_rules, .int t_mending_changed])), (a_t_now, .inr (4, [.ref a_t_now_paper, .long t_now_plan, .ref a_t_now_timesLate, .ref a_t_now_paid, .int t_now_isKept])), (a_t_now_paper, .inr (1, [.int t_now_paper_size, .ref a_t_now_paper_numbers, .ref a_t_now_paper_ranks, .ref a_t_now_paper_told, .ref a_t_now_paper_ones, .ref a_t_now_paper_turnsByYear])), (a_t_now_paper_numbers, .inl (cI, 10, .inl t_now_paper_numbers)), (a_t_now_paper_ones, .inl (cJ, 10, .inr (.inl t_now_paper_ones))), (a_t_now_paper_ranks, .inl (cI, 10, .inl t_now_paper_ranks)), (a_t_now_paper_told, .inl (cJ, 10, .inr (.inl t_now_paper_told))), (a_t_now_paper_turnsByYear, .inl (cZ, 10, .inl t_now_paper_turnsByYear)), (a_t_otherReading, .inr (3, [.long t_otherReading_zero, .long t_otherReading_one, .long t_otherReading_fights])), (a_t_reading, .inr (3, [.long t_reading_zero, .long t_reading_one, .long t_reading_fights]))] (zz_QI (dC, dI) (zz_T cI cJ cB cZ) (rr, o1, o2, o3, o4, o5, o6, o7, o8) (fun (u : Int32 × Int32 × Int64 × Int64 × Int64 × Int64 × Int64 × Int64) => [(a_t, .inr (7, [.ref a_t_text, .ref a_t_now, .ref a_t_slotZero, .ref a_t_slotOne, .ref a_t_wishes, .ref a_t_planner, .ref a_t_mending, .ref a_t_reading, .ref a_t_otherReading, .int t_theYear])), (a_t_mending, .inr (0, [.int u.1, .int u.2.1])), (a_t_now, .inr (4, [.ref a_t_now_paper, .long t_now_plan, .ref a_t_now_timesLate, .ref a_t_now_paid, .int t_now_isKept])), (a_t_now_paper, .inr (1, [.int t_now_paper_size, .ref a_t_now_paper_numbers, .ref a_t_now_paper_ranks, .ref a_t_now_paper_told, .ref a_t_now_paper_ones, .ref a_t_now_paper_turnsByYear])), (a_t_now_paper_numbers, .inl (cI, 10, .inl t_now_paper_numbers)), (a_t_now_paper_ones, .inl (cJ, 10, .inr (.inl t_now_paper_ones))), (a_t_now_paper_ranks, .inl (cI, 10, .inl t_now_paper_ranks)), (a_t_now_paper_told, .inl (cJ, 10, .inr (.inl t_now_paper_told))), (a_t_now_paper_turnsByYear, .inl (cZ, 10, .inl t_now_paper_turnsByYear)), (a_t_otherReading, .inr (3, [.long u.2.2.1, .long u.2.2.2.1, .long u.2.2.2.2.1])), (a_t_reading, .inr (3, [.long u.2.2.2.2.2.1, .long u.2.2.2.2.2.2.1, .long u.2.2.2.2.2.2.2]))])) := by
  unfold fn_X8_mend at h
  refine zz_of (by decide) rfl (Nat.le_of_ble_eq_true rfl) ?_
  intro p e s m below meth c A ls hx hb hr hml hts hown hlocks hA hS hP hK hD hl
  have hown : s.vm.findClass RX8 = some m.cls := hown
  have hl : lv_has ls 1 [(0, .ref a_t)] := hl
  refine lv_aload_n hx hb dX8_mend_0 rfl (lv_at hl 0 rfl) ?_
  refine va_get (ci := 7) (v := .ref a_t_mending) (C := RX8) (T := TX8) (N := 10) hx hb hts in_X8_mend_X8 hown hK hP 0 rfl rfl 6 (by decide) (hts _ lk_X8_mend_0) (fun _ h9 => h9) rfl dX8_mend_1 ?_
  refine lv_aload_n hx hb dX8_mend_4 rfl (lv_at hl 0 rfl) ?_
  refine va_get (ci := 7) (v := .ref a_t_now) (C := RX8) (T := TX8) (N := 10) hx hb hts in_X8_mend_X8 hown hK hP 0 rfl rfl 1 (by decide) (hts _ lk_X8_mend_1) (fun _ h9 => h9) rfl dX8_mend_5 ?_
  refine va_get (ci := 4) (v := .ref a_t_now_paper) (C := RX5) (T := TX5) (N := 5) hx hb hts in_X8_mend_X5 hown hK hP 2 rfl rfl 0 (by decide) (hts _ lk_X8_mend_2) (fun _ h9 => h9) rfl dX8_mend_8 ?_
  refine lv_aload_n hx hb dX8_mend_11 rfl (lv_at hl 0 rfl) ?_
  refine va_get (ci := 7) (v := .int t_theYear) (C := RX8) (T := TX8) (N := 10) hx hb hts in_X8_mend_X8 hown hK hP 0 rfl rfl 9 (by decide) (hts _ lk_X8_mend_3) (fun _ h9 => h9) rfl dX8_mend_12 ?_
  refine lv_aload_n hx hb dX8_mend_15 rfl (lv_at hl 0 rfl) ?_
  obtain ⟨x1, x2, x3, he4, h⟩ := zz_b3E h
  refine zz_VR (q := (RX8, TX8, 10)) (As := []) (rest := [.int t_theYear, .ref a_t_now_paper, .ref a_t_mending]) (wr := [(a_t_mending, .inr (0, [.int t_mending_rules, .int t_mending_changed])), (a_t_otherReading, .inr (3, [.long t_otherReading_zero, .long t_otherReading_one, .long t_otherReading_fights]))]) (wm := [(a_t, .inr (7, [.ref a_t_text, .ref a_t_now, .ref a_t_slotZero, .ref a_t_slotOne, .ref a_t_wishes, .ref a_t_planner, .ref a_t_mending, .ref a_t_reading, .ref a_t_otherReading, .int t_theYear])), (a_t_mending, .inr (0, [.int t_mending_rules, .int t_mending_changed])), (a_t_now, .inr (4, [.ref a_t_now_paper, .long t_now_plan, .ref a_t_now_timesLate, .ref a_t_now_paid, .int t_now_isKept])), (a_t_now_paper, .inr (1, [.int t_now_paper_size, .ref a_t_now_paper_numbers, .ref a_t_now_paper_ranks, .ref a_t_now_paper_told, .ref a_t_now_paper_ones, .ref a_t_now_paper_turnsByYear])), (a_t_now_paper_numbers, .inl (cI, 10, .inl t_now_paper_numbers)), (a_t_now_paper_ones, .inl (cJ, 10, .inr (.inl t_now_paper_ones))), (a_t_now_paper_ranks, .inl (cI, 10, .inl t_now_paper_ranks)), (a_t_now_paper_told, .inl (cJ, 10, .inr (.inl t_now_paper_told))), (a_t_now_paper_turnsByYear, .inl (cZ, 10, .inl t_now_paper_turnsByYear)), (a_t_otherReading, .inr (3, [.long t_otherReading_zero, .long t_otherReading_one, .long t_otherReading_fights])), (a_t_reading, .inr (3, [.long x1, .long x2, .long x3]))]) ⟨hx, hb, hml, hown, hts⟩ (ct_X8_readPaper l dC dI cI cJ cB cZ a_t a_t_now a_t_now_paper a_t_now_paper_numbers a_t_now_paper_ones a_t_now_paper_ranks a_t_now_paper_told a_t_now_paper_turnsByYear a_t_reading a_t_text a_t_slotZero a_t_slotOne a_t_wishes a_t_planner a_t_mending a_t_otherReading a_t_now_timesLate a_t_now_paid t_theYear t_now_plan t_now_isKept t_now_paper_size t_now_paper_numbers t_now_paper_ones t_now_paper_ranks t_now_paper_told t_now_paper_turnsByYear t_reading_zero t_reading_one t_reading_fights x1 x2 x3 he4) gX8_mend_X8_readPaper hd_X8_readPaper rfl rfl rfl ⟨Nat.le_of_ble_eq_true rfl, Nat.le_of_ble_eq_true rfl⟩ ⟨Nat.le_of_ble_eq_true rfl, Nat.le_of_ble_eq_true rfl⟩ rfl rfl (Nat.le_of_ble_eq_true rfl) dX8_mend_16 hl.1 rfl (ci := 7) rfl (q0 := 0) rfl hP hK hD hS hA [0, 2, 3, 4, 5, 6, 7, 8, 10] [1, 9] [2, 0, 3, 4, 5, 6, 7, 8, 9, 1, 10] rfl rfl (by decide) (by decide) (by decide) (by decide) rfl (fun H locs hP hD hS => ?_)
  refine lv_aload_n hx hb dX8_mend_19 rfl (lv_at hl 0 rfl) ?_
  refine va_get (ci := 7) (v := .ref a_t_otherReading) (C := RX8) (T := TX8) (N := 10) hx hb hts in_X8_mend_X8 hown hK hP 0 rfl rfl 8 (by decide) (hts _ lk_X8_mend_4) (fun _ h9 => h9) rfl dX8_mend_20 ?_
  obtain ⟨x5, x6, x7, x8, x9, he10, h⟩ := zz_b5E h
  refine zz_VV (q := (RX0, TX0, 2)) (As := [.ref a_t_now_paper, .int t_theYear, .ref a_t_reading, .ref a_t_otherReading]) (rest := []) (wr := [(a_t, .inr (7, [.ref a_t_text, .ref a_t_now, .ref a_t_slotZero, .ref a_t_slotOne, .ref a_t_wishes, .ref a_t_planner, .ref a_t_mending, .ref a_t_reading, .ref a_t_otherReading, .int t_theYear])), (a_t_now, .inr (4, [.ref a_t_now_paper, .long t_now_plan, .ref a_t_now_timesLate, .ref a_t_now_paid, .int t_now_isKept]))]) (wm := [(a_t, .inr (7, [.ref a_t_text, .ref a_t_now, .ref a_t_slotZero, .ref a_t_slotOne, .ref a_t_wishes, .ref a_t_planner, .ref a_t_mending, .ref a_t_reading, .ref a_t_otherReading, .int t_theYear])), (a_t_mending, .inr (0, [.int x8, .int x9])), (a_t_now, .inr (4, [.ref a_t_now_paper, .long t_now_plan, .ref a_t_now_timesLate, .ref a_t_now_paid, .int t_now_isKept])), (a_t_now_paper, .inr (1, [.int t_now_paper_size, .ref a_t_now_paper_numbers, .ref a_t_now_paper_ranks, .ref a_t_now_paper_told, .ref a_t_now_paper_ones, .ref a_t_now_paper_turnsByYear])), (a_t_now_paper_numbers, .inl (cI, 10, .inl t_now_paper_numbers)), (a_t_now_paper_ones, .inl (cJ, 10, .inr (.inl t_now_paper_ones))), (a_t_now_paper_ranks, .inl (cI, 10, .inl t_now_paper_ranks)), (a_t_now_paper_told, .inl (cJ, 10, .inr (.inl t_now_paper_told))), (a_t_now_paper_turnsByYear, .inl (cZ, 10, .inl t_now_paper_turnsByYear)), (a_t_otherReading, .inr (3, [.long x5, .long x6, .long x7])), (a_t_reading, .inr (3, [.long x1, .long x2, .long x3]))]) ⟨hx, hb, hml, hown, hts⟩ (ct_X0_find l dC dI cI cJ cB cZ a_t_now_paper a_t_now_paper_numbers a_t_now_paper_ones a_t_now_paper_ranks a_t_now_paper_told a_t_now_paper_turnsByYear a_t_reading a_t_otherReading a_t_mending t_now_paper_size t_now_paper_numbers t_now_paper_ones t_now_paper_ranks t_now_paper_told t_now_paper_turnsByYear x1 x2 x3 t_otherReading_zero t_otherReading_one t_otherReading_fights t_mending_rules t_mending_changed t_theYear x5 x6 x7 x8 x9 he10) gX8_mend_X0_find hd_X0_find rfl rfl rfl ⟨Nat.le_of_ble_eq_true rfl, Nat.le_of_ble_eq_true rfl⟩ ⟨Nat.le_of_ble_eq_true rfl, Nat.le_of_ble_eq_true rfl⟩ rfl rfl (Nat.le_of_ble_eq_true rfl) dX8_mend_23 hl.1 rfl (ci := 0) rfl (q0 := 1) rfl hP hK hD hS hA [3, 4, 5, 6, 7, 8, 10, 9, 1] [0, 2] [0, 10, 1, 2, 3, 4, 5, 6, 7, 9, 8] rfl rfl (by decide) (by decide) (by decide) (by decide) rfl (fun H locs hP hD hS => ?_)
  refine lv_aload_n hx hb dX8_mend_26 rfl (lv_at hl 0 rfl) ?_
  refine va_get (ci := 7) (v := .ref a_t_mending) (C := RX8) (T := TX8) (N := 10) hx hb hts in_X8_mend_X8 hown hK hP 0 rfl rfl 6 (by decide) (hts _ lk_X8_mend_0) (fun _ h9 => h9) rfl dX8_mend_27 ?_
  refine va_get (ci := 0) (v := .int x8) (C := RX0) (T := TX0) (N := 2) hx hb hts in_X8_mend_X0 hown hK hP 1 rfl rfl 0 (by decide) (hts _ lk_X8_mend_5) (fun _ h9 => h9) rfl dX8_mend_30 ?_
  exact zz_iret (x8, x9, x5, x6, x7, x1, x2, x3) hx hb hr hlocks dX8_mend_33 (Option.some.inj h) hP hK hD hS
theorem hd_X8_changes : yX8_changes.cls ≠ "java/lang/invoke/MethodHandle" ∧ yX8_changes.cls ≠ "java/lang/invoke/VarHandle" ∧ (parseMethodDescriptor yX8_changes.desc).map (fun d => d.parameters.length) = some 0 := by decide +kernel
set_option maxRecDepth 20000 in
theorem in_X8_changes_X8 : ∀ w ∈ u_ws RX8 TX8 10, w ∈ wsX8_changes := by decide +kernel
set_option maxRecDepth 20000 in
theorem in_X8_changes_X5 : ∀ w ∈ u_ws RX5 TX5 5, w ∈ wsX8_changes := by decide +kernel
set_option maxRecDepth 20000 in
theorem in_X8_changes_X0 : ∀ w ∈ u_ws RX0 TX0 2, w ∈ wsX8_changes := by decide +kernel
set_option maxRecDepth 20000 in
theorem lk_X8_changes_0 : Cond.fieldLink RX8 46 "TwoHousesOneChild" "mending" "LTwoHousesOneChild$Mending;" ∈ wsX8_changes := by decide +kernel
set_option maxRecDepth 20000 in
theorem lk_X8_changes_1 : Cond.fieldLink RX8 19 "TwoHousesOneChild" "now" "LTwoHousesOneChild$Standing;" ∈ wsX8_changes := by decide +kernel
set_option maxRecDepth 20000 in
theorem lk_X8_changes_2 : Cond.fieldLink RX8 75 "TwoHousesOneChild$Standing" "paper" "LTwoHousesOneChild$Paper;" ∈ wsX8_changes := by decide +kernel
set_option maxRecDepth 20000 in
theorem lk_X8_changes_3 : Cond.fieldLink RX8 60 "TwoHousesOneChild" "theYear" "I" ∈ wsX8_changes := by decide +kernel
set_option maxRecDepth 20000 in
theorem lk_X8_changes_4 : Cond.fieldLink RX8 57 "TwoHousesOneChild" "otherReading" "LTwoHousesOneChild$Reading;" ∈ wsX8_changes := by decide +kernel
set_option maxRecDepth 20000 in
theorem lk_X8_changes_5 : Cond.fieldLink RX8 130 "TwoHousesOneChild$Mending" "changed" "I" ∈ wsX8_changes := by decide +kernel
set_option maxHeartbeats 4000000 in
set_option maxRecDepth 100000 in
theorem ct_X8_changes (l : Launch) (dC : Nat → ClassId) (dI : Nat → Nat → Nat) (cI cJ cB cZ : ClassId) (a_t a_t_mending a_t_now a_t_now_paper a_t_now_paper_numbers a_t_now_paper_ones a_t_now_paper_ranks a_t_now_paper_told a_t_now_paper_turnsByYear a_t_otherReading a_t_reading a_t_text a_t_slotZero a_t_slotOne a_t_wishes a_t_planner a_t_now_timesLate a_t_now_paid : Nat) (t_theYear : Int32) (t_mending_rules : Int32) (t_mending_changed : Int32) (t_now_plan : Int64) (t_now_isKept : Int32) (t_now_paper_size : Int32) (t_now_paper_numbers : (Nat → Int32)) (t_now_paper_ones : (Nat → Int64)) (t_now_paper_ranks : (Nat → Int32)) (t_now_paper_told : (Nat → Int64)) (t_now_paper_turnsByYear : (Nat → Int32)) (t_otherReading_zero : Int64) (t_otherReading_one : Int64) (t_otherReading_fights : Int64) (t_reading_zero : Int64) (t_reading_one : Int64) (t_reading_fights : Int64) (rr : Int32) (o1 : Int32) (o2 : Int32) (o3 : Int64) (o4 : Int64) (o5 : Int64) (o6 : Int64) (o7 : Int64) (o8 : Int64) (h : fn_X8_changes t_theYear t_now_paper_size t_now_paper_numbers t_now_paper_ones t_now_paper_ranks t_now_paper_told t_now_paper_turnsByYear t_otherReading_zero t_otherReading_one t_otherReading_fights = some (rr, o1, o2, o3, o4, o5, o6, o7, o8)) : zz_M l yX8_changes wsX8_changes ({ frames := 4, cells := 0, slots := 0, locals := 106 }) (dC, dI) (zz_T cI cJ cB cZ) [.ref a_t] [(a_t, .inr (7, [.ref a_t_text, .ref a_t_now, .ref a_t_slotZero, .ref a_t_slotOne, .ref a_t_wishes, .ref a_t_planner, .ref a_t_mending, .ref a_t_reading, .ref a_t_otherReading, .int t_theYear])), (a_t_mending, .inr (0, [.int t_mending_rules, .int t_mending_changed])), (a_t_now, .inr (4, [.ref a_t_now_paper, .long t_now_plan, .ref a_t_now_timesLate, .ref a_t_now_paid, .int t_now_isKept])), (a_t_now_paper, .inr (1, [.int t_now_paper_size, .ref a_t_now_paper_numbers, .ref a_t_now_paper_ranks, .ref a_t_now_paper_told, .ref a_t_now_paper_ones, .ref a_t_now_paper_turnsByYear])), (a_t_now_paper_numbers, .inl (cI, 10, .inl t_now_paper_numbers)), (a_t_now_paper_ones, .inl (cJ, 10, .inr (.inl t_now_paper_ones))), (a_t_now_paper_ranks, .inl (cI, 10, .inl t_now_paper_ranks)), (a_t_now_paper_told, .inl (cJ, 10, .inr (.inl t_now_paper_told))), (a_t_now_paper_turnsByYear, .inl (cZ, 10, .inl t_now_paper_turnsByYear)), (a_t_otherReading, .inr (3, [.long t_otherReading_zero, .long t_otherReading_one, .long t_otherReading_fights])), (a_t_reading, .inr (3, [.long t_reading_zero, .long t_reading_one, .long t_reading_fights]))] (zz_QI (dC, dI) (zz_T cI cJ cB cZ) (rr, o1, o2, o3, o4, o5, o6, o7, o8) (fun (u : Int32 × Int32 × Int64 × Int64 × Int64 × Int64 × Int64 × Int64) => [(a_t, .inr (7, [.ref a_t_text, .ref a_t_now, .ref a_t_slotZero, .ref a_t_slotOne, .ref a_t_wishes, .ref a_t_planner, .ref a_t_mending, .ref a_t_reading, .ref a_t_otherReading, .int t_theYear])), (a_t_mending, .inr (0, [.int u.1, .int u.2.1])), (a_t_now, .inr (4, [.ref a_t_now_paper, .long t_now_plan, .ref a_t_now_timesLate, .ref a_t_now_paid, .int t_now_isKept])), (a_t_now_paper, .inr (1, [.int t_now_paper_size, .ref a_t_now_paper_numbers, .ref a_t_now_paper_ranks, .ref a_t_now_paper_told, .ref a_t_now_paper_ones, .ref a_t_now_paper_turnsByYear])), (a_t_now_paper_numbers, .inl (cI, 10, .inl t_now_paper_numbers)), (a_t_now_paper_ones, .inl (cJ, 10, .inr (.inl t_now_paper_ones))), (a_t_now_paper_ranks, .inl (cI, 10, .inl t_now_paper_ranks)), (a_t_now_paper_told, .inl (cJ, 10, .inr (.inl t_now_paper_told))), (a_t_now_paper_turnsByYear, .inl (cZ, 10, .inl t_now_paper_turnsByYear)), (a_t_otherReading, .inr (3, [.long u.2.2.1, .long u.2.2.2.1, .long u.2.2.2.2.1])), (a_t_reading, .inr (3, [.long u.2.2.2.2.2.1, .long u.2.2.2.2.2.2.1, .long u.2.2.2.2.2.2.2]))])) := by
  unfold fn_X8_changes at h
  refine zz_of (by decide) rfl (Nat.le_of_ble_eq_true rfl) ?_
  intro p e s m below meth c A ls hx hb hr hml hts hown hlocks hA hS hP hK hD hl
  have hown : s.vm.findClass RX8 = some m.cls := hown
  have hl : lv_has ls 1 [(0, .ref a_t)] := hl
  refine lv_aload_n hx hb dX8_changes_0 rfl (lv_at hl 0 rfl) ?_
  refine va_get (ci := 7) (v := .ref a_t_mending) (C := RX8) (T := TX8) (N := 10) hx hb hts in_X8_changes_X8 hown hK hP 0 rfl rfl 6 (by decide) (hts _ lk_X8_changes_0) (fun _ h9 => h9) rfl dX8_changes_1 ?_
  refine lv_aload_n hx hb dX8_changes_4 rfl (lv_at hl 0 rfl) ?_
  refine va_get (ci := 7) (v := .ref a_t_now) (C := RX8) (T := TX8) (N := 10) hx hb hts in_X8_changes_X8 hown hK hP 0 rfl rfl 1 (by decide) (hts _ lk_X8_changes_1) (fun _ h9 => h9) rfl dX8_changes_5 ?_
  refine va_get (ci := 4) (v := .ref a_t_now_paper) (C := RX5) (T := TX5) (N := 5) hx hb hts in_X8_changes_X5 hown hK hP 2 rfl rfl 0 (by decide) (hts _ lk_X8_changes_2) (fun _ h9 => h9) rfl dX8_changes_8 ?_
  refine lv_aload_n hx hb dX8_changes_11 rfl (lv_at hl 0 rfl) ?_
  refine va_get (ci := 7) (v := .int t_theYear) (C := RX8) (T := TX8) (N := 10) hx hb hts in_X8_changes_X8 hown hK hP 0 rfl rfl 9 (by decide) (hts _ lk_X8_changes_3) (fun _ h9 => h9) rfl dX8_changes_12 ?_
  refine lv_aload_n hx hb dX8_changes_15 rfl (lv_at hl 0 rfl) ?_
  obtain ⟨x1, x2, x3, he4, h⟩ := zz_b3E h
  refine zz_VR (q := (RX8, TX8, 10)) (As := []) (rest := [.int t_theYear, .ref a_t_now_paper, .ref a_t_mending]) (wr := [(a_t_mending, .inr (0, [.int t_mending_rules, .int t_mending_changed])), (a_t_otherReading, .inr (3, [.long t_otherReading_zero, .long t_otherReading_one, .long t_otherReading_fights]))]) (wm := [(a_t, .inr (7, [.ref a_t_text, .ref a_t_now, .ref a_t_slotZero, .ref a_t_slotOne, .ref a_t_wishes, .ref a_t_planner, .ref a_t_mending, .ref a_t_reading, .ref a_t_otherReading, .int t_theYear])), (a_t_mending, .inr (0, [.int t_mending_rules, .int t_mending_changed])), (a_t_now, .inr (4, [.ref a_t_now_paper, .long t_now_plan, .ref a_t_now_timesLate, .ref a_t_now_paid, .int t_now_isKept])), (a_t_now_paper, .inr (1, [.int t_now_paper_size, .ref a_t_now_paper_numbers, .ref a_t_now_paper_ranks, .ref a_t_now_paper_told, .ref a_t_now_paper_ones, .ref a_t_now_paper_turnsByYear])), (a_t_now_paper_numbers, .inl (cI, 10, .inl t_now_paper_numbers)), (a_t_now_paper_ones, .inl (cJ, 10, .inr (.inl t_now_paper_ones))), (a_t_now_paper_ranks, .inl (cI, 10, .inl t_now_paper_ranks)), (a_t_now_paper_told, .inl (cJ, 10, .inr (.inl t_now_paper_told))), (a_t_now_paper_turnsByYear, .inl (cZ, 10, .inl t_now_paper_turnsByYear)), (a_t_otherReading, .inr (3, [.long t_otherReading_zero, .long t_otherReading_one, .long t_otherReading_fights])), (a_t_reading, .inr (3, [.long x1, .long x2, .long x3]))]) ⟨hx, hb, hml, hown, hts⟩ (ct_X8_readPaper l dC dI cI cJ cB cZ a_t a_t_now a_t_now_paper a_t_now_paper_numbers a_t_now_paper_ones a_t_now_paper_ranks a_t_now_paper_told a_t_now_paper_turnsByYear a_t_reading a_t_text a_t_slotZero a_t_slotOne a_t_wishes a_t_planner a_t_mending a_t_otherReading a_t_now_timesLate a_t_now_paid t_theYear t_now_plan t_now_isKept t_now_paper_size t_now_paper_numbers t_now_paper_ones t_now_paper_ranks t_now_paper_told t_now_paper_turnsByYear t_reading_zero t_reading_one t_reading_fights x1 x2 x3 he4) gX8_changes_X8_readPaper hd_X8_readPaper rfl rfl rfl ⟨Nat.le_of_ble_eq_true rfl, Nat.le_of_ble_eq_true rfl⟩ ⟨Nat.le_of_ble_eq_true rfl, Nat.le_of_ble_eq_true rfl⟩ rfl rfl (Nat.le_of_ble_eq_true rfl) dX8_changes_16 hl.1 rfl (ci := 7) rfl (q0 := 0) rfl hP hK hD hS hA [0, 2, 3, 4, 5, 6, 7, 8, 10] [1, 9] [2, 0, 3, 4, 5, 6, 7, 8, 9, 1, 10] rfl rfl (by decide) (by decide) (by decide) (by decide) rfl (fun H locs hP hD hS => ?_)
  refine lv_aload_n hx hb dX8_changes_19 rfl (lv_at hl 0 rfl) ?_
  refine va_get (ci := 7) (v := .ref a_t_otherReading) (C := RX8) (T := TX8) (N := 10) hx hb hts in_X8_changes_X8 hown hK hP 0 rfl rfl 8 (by decide) (hts _ lk_X8_changes_4) (fun _ h9 => h9) rfl dX8_changes_20 ?_
  obtain ⟨x5, x6, x7, x8, x9, he10, h⟩ := zz_b5E h
  refine zz_VV (q := (RX0, TX0, 2)) (As := [.ref a_t_now_paper, .int t_theYear, .ref a_t_reading, .ref a_t_otherReading]) (rest := []) (wr := [(a_t, .inr (7, [.ref a_t_text, .ref a_t_now, .ref a_t_slotZero, .ref a_t_slotOne, .ref a_t_wishes, .ref a_t_planner, .ref a_t_mending, .ref a_t_reading, .ref a_t_otherReading, .int t_theYear])), (a_t_now, .inr (4, [.ref a_t_now_paper, .long t_now_plan, .ref a_t_now_timesLate, .ref a_t_now_paid, .int t_now_isKept]))]) (wm := [(a_t, .inr (7, [.ref a_t_text, .ref a_t_now, .ref a_t_slotZero, .ref a_t_slotOne, .ref a_t_wishes, .ref a_t_planner, .ref a_t_mending, .ref a_t_reading, .ref a_t_otherReading, .int t_theYear])), (a_t_mending, .inr (0, [.int x8, .int x9])), (a_t_now, .inr (4, [.ref a_t_now_paper, .long t_now_plan, .ref a_t_now_timesLate, .ref a_t_now_paid, .int t_now_isKept])), (a_t_now_paper, .inr (1, [.int t_now_paper_size, .ref a_t_now_paper_numbers, .ref a_t_now_paper_ranks, .ref a_t_now_paper_told, .ref a_t_now_paper_ones, .ref a_t_now_paper_turnsByYear])), (a_t_now_paper_numbers, .inl (cI, 10, .inl t_now_paper_numbers)), (a_t_now_paper_ones, .inl (cJ, 10, .inr (.inl t_now_paper_ones))), (a_t_now_paper_ranks, .inl (cI, 10, .inl t_now_paper_ranks)), (a_t_now_paper_told, .inl (cJ, 10, .inr (.inl t_now_paper_told))), (a_t_now_paper_turnsByYear, .inl (cZ, 10, .inl t_now_paper_turnsByYear)), (a_t_otherReading, .inr (3, [.long x5, .long x6, .long x7])), (a_t_reading, .inr (3, [.long x1, .long x2, .long x3]))]) ⟨hx, hb, hml, hown, hts⟩ (ct_X0_find l dC dI cI cJ cB cZ a_t_now_paper a_t_now_paper_numbers a_t_now_paper_ones a_t_now_paper_ranks a_t_now_paper_told a_t_now_paper_turnsByYear a_t_reading a_t_otherReading a_t_mending t_now_paper_size t_now_paper_numbers t_now_paper_ones t_now_paper_ranks t_now_paper_told t_now_paper_turnsByYear x1 x2 x3 t_otherReading_zero t_otherReading_one t_otherReading_fights t_mending_rules t_mending_changed t_theYear x5 x6 x7 x8 x9 he10) gX8_changes_X0_find hd_X0_find rfl rfl rfl ⟨Nat.le_of_ble_eq_true rfl, Nat.le_of_ble_eq_true rfl⟩ ⟨Nat.le_of_ble_eq_true rfl, Nat.le_of_ble_eq_true rfl⟩ rfl rfl (Nat.le_of_ble_eq_true rfl) dX8_changes_23 hl.1 rfl (ci := 0) rfl (q0 := 1) rfl hP hK hD hS hA [3, 4, 5, 6, 7, 8, 10, 9, 1] [0, 2] [0, 10, 1, 2, 3, 4, 5, 6, 7, 9, 8] rfl rfl (by decide) (by decide) (by decide) (by decide) rfl (fun H locs hP hD hS => ?_)
  refine lv_aload_n hx hb dX8_changes_26 rfl (lv_at hl 0 rfl) ?_
  refine va_get (ci := 7) (v := .ref a_t_mending) (C := RX8) (T := TX8) (N := 10) hx hb hts in_X8_changes_X8 hown hK hP 0 rfl rfl 6 (by decide) (hts _ lk_X8_changes_0) (fun _ h9 => h9) rfl dX8_changes_27 ?_
  refine va_get (ci := 0) (v := .int x9) (C := RX0) (T := TX0) (N := 2) hx hb hts in_X8_changes_X0 hown hK hP 1 rfl rfl 1 (by decide) (hts _ lk_X8_changes_5) (fun _ h9 => h9) rfl dX8_changes_30 ?_
  exact zz_iret (x8, x9, x5, x6, x7, x1, x2, x3) hx hb hr hlocks dX8_changes_33 (Option.some.inj h) hP hK hD hS
theorem hd_X8_isHouse : yX8_isHouse.cls ≠ "java/lang/invoke/MethodHandle" ∧ yX8_isHouse.cls ≠ "java/lang/invoke/VarHandle" ∧ (parseMethodDescriptor yX8_isHouse.desc).map (fun d => d.parameters.length) = some 1 := by decide +kernel
set_option maxHeartbeats 4000000 in
set_option maxRecDepth 100000 in
theorem ct_X8_isHouse (l : Launch) (dC : Nat → ClassId) (dI : Nat → Nat → Nat) (cI cJ cB cZ : ClassId) (p0 : Int32) (rr : Int32) (u0 : Unit) (h : fn_X8_isHouse p0 = some (rr, u0)) : zz_M l yX8_isHouse wsX8_isHouse ({ frames := 0, cells := 0, slots := 0, locals := 0 }) (dC, dI) (zz_T cI cJ cB cZ) [.int p0] [] (zz_QI (dC, dI) (zz_T cI cJ cB cZ) (rr, u0) (fun (u : Unit) => [])) := by
  unfold fn_X8_isHouse at h
  refine zz_of (by decide) rfl (Nat.le_of_ble_eq_true rfl) ?_
  intro p e s m below meth c A ls hx hb hr hml hts hown hlocks hA hS hP hK hD hl
  have hown : s.vm.findClass RX8 = some m.cls := hown
  have hl : lv_has ls 1 [(0, .int p0)] := hl
  refine lv_iload_n hx hb dX8_isHouse_0 rfl (lv_at hl 0 rfl) ?_
  refine lv_if_lt (tgt := 13) hx hb dX8_isHouse_1 (by decide) (fun c1 => ?_) (fun c1 => ?_)
  · have h := zz_if c1 h
    refine lv_iconst (v := 0) hx hb dX8_isHouse_13 (by decide) ?_
    exact zz_zret () hx hb hr hlocks dX8_isHouse_14 (by decide) (Option.some.inj h) hP hK hD hS
  · have h := zz_ifn c1 h
    refine lv_iload_n hx hb dX8_isHouse_4 rfl (lv_at hl 0 rfl) ?_
    refine lv_iconst (v := 2) hx hb dX8_isHouse_5 (by decide) ?_
    refine lv_icmp_ge (tgt := 13) hx hb dX8_isHouse_6 (by decide) (fun c2 => ?_) (fun c2 => ?_)
    · have h := zz_if c2 h
      refine lv_iconst (v := 0) hx hb dX8_isHouse_13 (by decide) ?_
      exact zz_zret () hx hb hr hlocks dX8_isHouse_14 (by decide) (Option.some.inj h) hP hK hD hS
    · have h := zz_ifn c2 h
      refine lv_iconst (v := 1) hx hb dX8_isHouse_9 (by decide) ?_
      refine lv_goto (tgt := 14) hx hb dX8_isHouse_10 (by decide) ?_
      exact zz_zret () hx hb hr hlocks dX8_isHouse_14 (by decide) (Option.some.inj h) hP hK hD hS
