theorem hd_X5_place : yX5_place.cls ≠ "java/lang/invoke/MethodHandle" ∧ yX5_place.cls ≠ "java/lang/invoke/VarHandle" ∧ (parseMethodDescriptor yX5_place.desc).map (fun d => d.parameters.length) = some 2 := by decide +kernel
set_option maxRecDepth 20000 in
theorem in_X5_place_X5 : ∀ w ∈ u_ws RX5 TX5 5, w ∈ wsX5_place := by decide +kernel
set_option maxRecDepth 20000 in
theorem lk_X5_place_0 : Cond.fieldLink RX5 25 "TwoHousesOneChild$Standing" "plan" "J" ∈ wsX5_place := by decide +kernel
set_option maxRecDepth 20000 in
theorem lk_X5_place_1 : Cond.constantLong RX5 29 (-1) ∈ wsX5_place := by decide +kernel
set_option maxHeartbeats 4000000 in
set_option maxRecDepth 100000 in
theorem ct_X5_place (l : Launch) (dC : Nat → ClassId) (dI : Nat → Nat → Nat) (cI cJ cB cZ : ClassId) (a_t a_t_paper a_t_timesLate a_t_paid : Nat) (t_plan : Int64) (t_isKept : Int32) (p1 : Int32) (p2 : Int32) (o1 : Int64) (h : fn_X5_place t_plan p1 p2 = some o1) : zz_M l yX5_place wsX5_place ({ frames := 0, cells := 0, slots := 0, locals := 0 }) (dC, dI) (zz_T cI cJ cB cZ) [.ref a_t, .int p1, .int p2] [(a_t, .inr (4, [.ref a_t_paper, .long t_plan, .ref a_t_timesLate, .ref a_t_paid, .int t_isKept]))] (zz_QV (dC, dI) (zz_T cI cJ cB cZ) o1 (fun (u : Int64) => [(a_t, .inr (4, [.ref a_t_paper, .long u, .ref a_t_timesLate, .ref a_t_paid, .int t_isKept]))])) := by
  unfold fn_X5_place at h
  refine zz_of (by decide) rfl (Nat.le_of_ble_eq_true rfl) ?_
  intro p e s m below meth c A ls hx hb hr hml hts hown hlocks hA hS hP hK hD hl
  have hown : s.vm.findClass RX5 = some m.cls := hown
  have hl : lv_has ls 5 [(0, .ref a_t), (1, .int p1), (2, .int p2)] := hl
  refine lv_lconst (v := 1) hx hb dX5_place_0 (by decide) ?_
  refine lv_iload_n hx hb dX5_place_1 rfl (lv_at hl 1 rfl) ?_
  refine lv_lshl (v := (1 : Int64) <<< (p1.toInt64 &&& 63)) hx hb dX5_place_2 rfl ?_
  refine lv_topl (fun x1 ex1 => ?_)
  have h := zz_nmE ex1 h
  refine lv_lstore_n (lv' := [(3, .long x1), (0, .ref a_t), (1, .int p1), (2, .int p2)]) hx hb dX5_place_3 rfl hl (by decide) rfl (fun ls hl => ?_)
  refine lv_aload_n hx hb dX5_place_4 rfl (lv_at hl 1 rfl) ?_
  refine lv_iload_n hx hb dX5_place_5 rfl (lv_at hl 3 rfl) ?_
  refine lv_if_ne (tgt := 22) hx hb dX5_place_6 (by decide) (fun c2 => ?_) (fun c2 => ?_)
  · have h := zz_ifn c2 h
    refine lv_aload_n hx hb dX5_place_22 rfl (lv_at hl 1 rfl) ?_
    refine va_get (ci := 4) (v := .long t_plan) (C := RX5) (T := TX5) (N := 5) hx hb hts in_X5_place_X5 hown hK hP 0 rfl rfl 1 (by decide) (hts _ lk_X5_place_0) (fun _ h9 => h9) rfl dX5_place_23 ?_
    refine lv_lload_n hx hb dX5_place_26 rfl (lv_at hl 0 rfl) ?_
    refine lv_lor hx hb dX5_place_27 ?_
    refine lv_topl (fun x3 ex3 => ?_)
    have h := zz_nmE ex3 h
    refine va_put (ci := 4) (v := .long x3) (ty := .long) (C := RX5) (T := TX5) (N := 5) hx hb hts in_X5_place_X5 tyX5 tyX5_ok nmX5 hown hK hP hD hS 0 rfl rfl 1 (by decide) (hts _ lk_X5_place_0) (fun _ h9 => h9) rfl (by decide +kernel) rfl rfl (Nat.le_of_ble_eq_true rfl) dX5_place_28 (fun H locs hP hD hS => ?_)
    have hP : va_P (dC, dI) vwCl [(a_t, .inr (4, [.ref a_t_paper, .long x3, .ref a_t_timesLate, .ref a_t_paid, .int t_isKept]))] H := hP
    have hD : va_D A [(a_t, .inr (4, [.ref a_t_paper, .long x3, .ref a_t_timesLate, .ref a_t_paid, .int t_isKept]))] := hD
    exact zz_vret x3 hx hb hr hlocks dX5_place_31 (Option.some.inj h) hP hK hD hS
  · have h := zz_if c2 h
    refine lv_aload_n hx hb dX5_place_9 rfl (lv_at hl 1 rfl) ?_
    refine va_get (ci := 4) (v := .long t_plan) (C := RX5) (T := TX5) (N := 5) hx hb hts in_X5_place_X5 hown hK hP 0 rfl rfl 1 (by decide) (hts _ lk_X5_place_0) (fun _ h9 => h9) rfl dX5_place_10 ?_
    refine lv_lload_n hx hb dX5_place_13 rfl (lv_at hl 0 rfl) ?_
    refine lv_ldc2 (v := (-1)) hx hb hown (hts _ lk_X5_place_1) dX5_place_14 ?_
    refine lv_lxor hx hb dX5_place_17 ?_
    refine lv_land hx hb dX5_place_18 ?_
    refine lv_goto (tgt := 28) hx hb dX5_place_19 (by decide) ?_
    refine lv_topl (fun x4 ex4 => ?_)
    have h := zz_nmE ex4 h
    refine va_put (ci := 4) (v := .long x4) (ty := .long) (C := RX5) (T := TX5) (N := 5) hx hb hts in_X5_place_X5 tyX5 tyX5_ok nmX5 hown hK hP hD hS 0 rfl rfl 1 (by decide) (hts _ lk_X5_place_0) (fun _ h9 => h9) rfl (by decide +kernel) rfl rfl (Nat.le_of_ble_eq_true rfl) dX5_place_28 (fun H locs hP hD hS => ?_)
    have hP : va_P (dC, dI) vwCl [(a_t, .inr (4, [.ref a_t_paper, .long x4, .ref a_t_timesLate, .ref a_t_paid, .int t_isKept]))] H := hP
    have hD : va_D A [(a_t, .inr (4, [.ref a_t_paper, .long x4, .ref a_t_timesLate, .ref a_t_paid, .int t_isKept]))] := hD
    exact zz_vret x4 hx hb hr hlocks dX5_place_31 (Option.some.inj h) hP hK hD hS
theorem hd_X5_fine : yX5_fine.cls ≠ "java/lang/invoke/MethodHandle" ∧ yX5_fine.cls ≠ "java/lang/invoke/VarHandle" ∧ (parseMethodDescriptor yX5_fine.desc).map (fun d => d.parameters.length) = some 2 := by decide +kernel
set_option maxRecDepth 20000 in
theorem in_X5_fine_X5 : ∀ w ∈ u_ws RX5 TX5 5, w ∈ wsX5_fine := by decide +kernel
set_option maxRecDepth 20000 in
theorem lk_X5_fine_0 : Cond.fieldLink RX5 18 "TwoHousesOneChild$Standing" "timesLate" "[I" ∈ wsX5_fine := by decide +kernel
set_option maxRecDepth 20000 in
theorem lk_X5_fine_1 : Cond.fieldLink RX5 22 "TwoHousesOneChild$Standing" "paid" "[I" ∈ wsX5_fine := by decide +kernel
set_option maxHeartbeats 4000000 in
set_option maxRecDepth 100000 in
theorem ct_X5_fine (l : Launch) (dC : Nat → ClassId) (dI : Nat → Nat → Nat) (cI cJ cB cZ : ClassId) (a_t a_t_paid a_t_timesLate a_t_paper : Nat) (t_plan : Int64) (t_isKept : Int32) (t_paid : (Nat → Int32)) (t_timesLate : (Nat → Int32)) (p1 : Int32) (p2 : Int32) (rr : Int32) (o1 : (Nat → Int32)) (o2 : (Nat → Int32)) (h : fn_X5_fine t_paid t_timesLate p1 p2 = some (rr, o1, o2)) : zz_M l yX5_fine wsX5_fine ({ frames := 0, cells := 0, slots := 0, locals := 0 }) (dC, dI) (zz_T cI cJ cB cZ) [.ref a_t, .int p1, .int p2] [(a_t, .inr (4, [.ref a_t_paper, .long t_plan, .ref a_t_timesLate, .ref a_t_paid, .int t_isKept])), (a_t_paid, .inl (cI, 2, .inl t_paid)), (a_t_timesLate, .inl (cI, 2, .inl t_timesLate))] (zz_QI (dC, dI) (zz_T cI cJ cB cZ) (rr, o1, o2) (fun (u : (Nat → Int32) × (Nat → Int32)) => [(a_t, .inr (4, [.ref a_t_paper, .long t_plan, .ref a_t_timesLate, .ref a_t_paid, .int t_isKept])), (a_t_paid, .inl (cI, 2, .inl u.1)), (a_t_timesLate, .inl (cI, 2, .inl u.2))])) := by
  unfold fn_X5_fine at h
  refine zz_of (by decide) rfl (Nat.le_of_ble_eq_true rfl) ?_
  intro p e s m below meth c A ls hx hb hr hml hts hown hlocks hA hS hP hK hD hl
  have hown : s.vm.findClass RX5 = some m.cls := hown
  have hl : lv_has ls 3 [(0, .ref a_t), (1, .int p1), (2, .int p2)] := hl
  refine lv_iload_n hx hb dX5_fine_0 rfl (lv_at hl 1 rfl) ?_
  refine lv_if_lt (tgt := 9) hx hb dX5_fine_1 (by decide) (fun c1 => ?_) (fun c1 => ?_)
  · have h := zz_if c1 h
    refine lv_iconst (v := 0) hx hb dX5_fine_9 (by decide) ?_
    exact zz_iret (t_paid, t_timesLate) hx hb hr hlocks dX5_fine_10 (Option.some.inj h) hP hK hD hS
  · have h := zz_ifn c1 h
    refine lv_iload_n hx hb dX5_fine_4 rfl (lv_at hl 1 rfl) ?_
    refine lv_iconst (v := 2) hx hb dX5_fine_5 (by decide) ?_
    refine lv_icmp_lt (tgt := 11) hx hb dX5_fine_6 (by decide) (fun c2 => ?_) (fun c2 => ?_)
    · have h := zz_if c2 h
      refine lv_aload_n hx hb dX5_fine_11 rfl (lv_at hl 0 rfl) ?_
      refine va_get (ci := 4) (v := .ref a_t_timesLate) (C := RX5) (T := TX5) (N := 5) hx hb hts in_X5_fine_X5 hown hK hP 0 rfl rfl 2 (by decide) (hts _ lk_X5_fine_0) (fun _ h9 => h9) rfl dX5_fine_12 ?_
      refine lv_iload_n hx hb dX5_fine_15 rfl (lv_at hl 1 rfl) ?_
      refine lv_dup2_11 hx hb dX5_fine_16 rfl rfl ?_
      obtain ⟨hi3, h⟩ := zz_chkE h
      refine va_iald hx hb hK hP 2 0 rfl rfl hi3 dX5_fine_17 ?_
      refine lv_iconst (v := 1) hx hb dX5_fine_18 (by decide) ?_
      refine lv_iadd hx hb dX5_fine_19 ?_
      obtain ⟨hi4, h⟩ := zz_chkE h
      refine zz_iast hx hb hK hP hD hS 2 0 rfl rfl hi4 dX5_fine_20 (fun g5 => [(a_t, .inr (4, [.ref a_t_paper, .long t_plan, .ref a_t_timesLate, .ref a_t_paid, .int t_isKept])), (a_t_paid, .inl (cI, 2, .inl t_paid)), (a_t_timesLate, .inl (cI, 2, .inl g5))]) (fun _ => rfl) (fun g5 H locs eg5 hP hD hS => ?_)
      have h := zz_nmE eg5 h
      refine lv_aload_n hx hb dX5_fine_21 rfl (lv_at hl 0 rfl) ?_
      refine va_get (ci := 4) (v := .ref a_t_paid) (C := RX5) (T := TX5) (N := 5) hx hb hts in_X5_fine_X5 hown hK hP 0 rfl rfl 3 (by decide) (hts _ lk_X5_fine_1) (fun _ h9 => h9) rfl dX5_fine_22 ?_
      refine lv_iload_n hx hb dX5_fine_25 rfl (lv_at hl 1 rfl) ?_
      refine lv_dup2_11 hx hb dX5_fine_26 rfl rfl ?_
      obtain ⟨hi6, h⟩ := zz_chkE h
      refine va_iald hx hb hK hP 1 0 rfl rfl hi6 dX5_fine_27 ?_
      refine lv_iload_n hx hb dX5_fine_28 rfl (lv_at hl 2 rfl) ?_
      refine lv_iadd hx hb dX5_fine_29 ?_
      obtain ⟨hi7, h⟩ := zz_chkE h
      refine zz_iast hx hb hK hP hD hS 1 0 rfl rfl hi7 dX5_fine_30 (fun g8 => [(a_t, .inr (4, [.ref a_t_paper, .long t_plan, .ref a_t_timesLate, .ref a_t_paid, .int t_isKept])), (a_t_paid, .inl (cI, 2, .inl g8)), (a_t_timesLate, .inl (cI, 2, .inl g5))]) (fun _ => rfl) (fun g8 H locs eg8 hP hD hS => ?_)
      have h := zz_nmE eg8 h
      refine lv_aload_n hx hb dX5_fine_31 rfl (lv_at hl 0 rfl) ?_
      refine va_get (ci := 4) (v := .ref a_t_timesLate) (C := RX5) (T := TX5) (N := 5) hx hb hts in_X5_fine_X5 hown hK hP 0 rfl rfl 2 (by decide) (hts _ lk_X5_fine_0) (fun _ h9 => h9) rfl dX5_fine_32 ?_
      refine lv_iload_n hx hb dX5_fine_35 rfl (lv_at hl 1 rfl) ?_
      obtain ⟨hi9, h⟩ := zz_chkE h
      refine va_iald hx hb hK hP 2 0 rfl rfl hi9 dX5_fine_36 ?_
      exact zz_iret (g8, g5) hx hb hr hlocks dX5_fine_37 (Option.some.inj h) hP hK hD hS
    · have h := zz_ifn c2 h
      refine lv_iconst (v := 0) hx hb dX5_fine_9 (by decide) ?_
      exact zz_iret (t_paid, t_timesLate) hx hb hr hlocks dX5_fine_10 (Option.some.inj h) hP hK hD hS
theorem hd_X5_copyOf : yX5_copyOf.cls ≠ "java/lang/invoke/MethodHandle" ∧ yX5_copyOf.cls ≠ "java/lang/invoke/VarHandle" ∧ (parseMethodDescriptor yX5_copyOf.desc).map (fun d => d.parameters.length) = some 1 := by decide +kernel
set_option maxRecDepth 20000 in
theorem in_X5_copyOf_X5 : ∀ w ∈ u_ws RX5 TX5 5, w ∈ wsX5_copyOf := by decide +kernel
set_option maxRecDepth 20000 in
theorem lk_X5_copyOf_0 : Cond.fieldLink RX5 12 "TwoHousesOneChild$Standing" "paper" "LTwoHousesOneChild$Paper;" ∈ wsX5_copyOf := by decide +kernel
set_option maxRecDepth 20000 in
theorem lk_X5_copyOf_1 : Cond.fieldLink RX5 25 "TwoHousesOneChild$Standing" "plan" "J" ∈ wsX5_copyOf := by decide +kernel
set_option maxRecDepth 20000 in
theorem lk_X5_copyOf_2 : Cond.fieldLink RX5 18 "TwoHousesOneChild$Standing" "timesLate" "[I" ∈ wsX5_copyOf := by decide +kernel
set_option maxRecDepth 20000 in
theorem lk_X5_copyOf_3 : Cond.fieldLink RX5 22 "TwoHousesOneChild$Standing" "paid" "[I" ∈ wsX5_copyOf := by decide +kernel
set_option maxHeartbeats 4000000 in
set_option maxRecDepth 100000 in
theorem ct_X5_copyOf (l : Launch) (dC : Nat → ClassId) (dI : Nat → Nat → Nat) (cI cJ cB cZ : ClassId) (a_r1 a_r1_paid a_r1_paper a_r1_paper_numbers a_r1_paper_ones a_r1_paper_ranks a_r1_paper_told a_r1_paper_turnsByYear a_r1_timesLate a_t a_t_paid a_t_paper a_t_paper_numbers a_t_paper_ones a_t_paper_ranks a_t_paper_told a_t_paper_turnsByYear a_t_timesLate : Nat) (r1_plan : Int64) (r1_isKept : Int32) (r1_paid : (Nat → Int32)) (r1_paper_size : Int32) (r1_paper_numbers : (Nat → Int32)) (r1_paper_ones : (Nat → Int64)) (r1_paper_ranks : (Nat → Int32)) (r1_paper_told : (Nat → Int64)) (r1_paper_turnsByYear : (Nat → Int32)) (r1_timesLate : (Nat → Int32)) (t_plan : Int64) (t_isKept : Int32) (t_paid : (Nat → Int32)) (t_paper_size : Int32) (t_paper_numbers : (Nat → Int32)) (t_paper_ones : (Nat → Int64)) (t_paper_ranks : (Nat → Int32)) (t_paper_told : (Nat → Int64)) (t_paper_turnsByYear : (Nat → Int32)) (t_timesLate : (Nat → Int32)) (o1 : Int64) (o2 : (Nat → Int32)) (o3 : Int32) (o4 : (Nat → Int32)) (o5 : (Nat → Int64)) (o6 : (Nat → Int32)) (o7 : (Nat → Int64)) (o8 : (Nat → Int32)) (o9 : (Nat → Int32)) (h : fn_X5_copyOf r1_plan r1_paid r1_paper_size r1_paper_numbers r1_paper_ones r1_paper_ranks r1_paper_told r1_paper_turnsByYear r1_timesLate t_paid t_paper_numbers t_paper_ones t_paper_ranks t_paper_told t_paper_turnsByYear t_timesLate = some (o1, o2, o3, o4, o5, o6, o7, o8, o9)) : zz_M l yX5_copyOf wsX5_copyOf ({ frames := 2, cells := 0, slots := 0, locals := 45 }) (dC, dI) (zz_T cI cJ cB cZ) [.ref a_t, .ref a_r1] [(a_r1, .inr (4, [.ref a_r1_paper, .long r1_plan, .ref a_r1_timesLate, .ref a_r1_paid, .int r1_isKept])), (a_r1_paid, .inl (cI, 2, .inl r1_paid)), (a_r1_paper, .inr (1, [.int r1_paper_size, .ref a_r1_paper_numbers, .ref a_r1_paper_ranks, .ref a_r1_paper_told, .ref a_r1_paper_ones, .ref a_r1_paper_turnsByYear])), (a_r1_paper_numbers, .inl (cI, 10, .inl r1_paper_numbers)), (a_r1_paper_ones, .inl (cJ, 10, .inr (.inl r1_paper_ones))), (a_r1_paper_ranks, .inl (cI, 10, .inl r1_paper_ranks)), (a_r1_paper_told, .inl (cJ, 10, .inr (.inl r1_paper_told))), (a_r1_paper_turnsByYear, .inl (cZ, 10, .inl r1_paper_turnsByYear)), (a_r1_timesLate, .inl (cI, 2, .inl r1_timesLate)), (a_t, .inr (4, [.ref a_t_paper, .long t_plan, .ref a_t_timesLate, .ref a_t_paid, .int t_isKept])), (a_t_paid, .inl (cI, 2, .inl t_paid)), (a_t_paper, .inr (1, [.int t_paper_size, .ref a_t_paper_numbers, .ref a_t_paper_ranks, .ref a_t_paper_told, .ref a_t_paper_ones, .ref a_t_paper_turnsByYear])), (a_t_paper_numbers, .inl (cI, 10, .inl t_paper_numbers)), (a_t_paper_ones, .inl (cJ, 10, .inr (.inl t_paper_ones))), (a_t_paper_ranks, .inl (cI, 10, .inl t_paper_ranks)), (a_t_paper_told, .inl (cJ, 10, .inr (.inl t_paper_told))), (a_t_paper_turnsByYear, .inl (cZ, 10, .inl t_paper_turnsByYear)), (a_t_timesLate, .inl (cI, 2, .inl t_timesLate))] (zz_QV (dC, dI) (zz_T cI cJ cB cZ) (o1, o2, o3, o4, o5, o6, o7, o8, o9) (fun (u : Int64 × (Nat → Int32) × Int32 × (Nat → Int32) × (Nat → Int64) × (Nat → Int32) × (Nat → Int64) × (Nat → Int32) × (Nat → Int32)) => [(a_r1, .inr (4, [.ref a_r1_paper, .long r1_plan, .ref a_r1_timesLate, .ref a_r1_paid, .int r1_isKept])), (a_r1_paid, .inl (cI, 2, .inl r1_paid)), (a_r1_paper, .inr (1, [.int r1_paper_size, .ref a_r1_paper_numbers, .ref a_r1_paper_ranks, .ref a_r1_paper_told, .ref a_r1_paper_ones, .ref a_r1_paper_turnsByYear])), (a_r1_paper_numbers, .inl (cI, 10, .inl r1_paper_numbers)), (a_r1_paper_ones, .inl (cJ, 10, .inr (.inl r1_paper_ones))), (a_r1_paper_ranks, .inl (cI, 10, .inl r1_paper_ranks)), (a_r1_paper_told, .inl (cJ, 10, .inr (.inl r1_paper_told))), (a_r1_paper_turnsByYear, .inl (cZ, 10, .inl r1_paper_turnsByYear)), (a_r1_timesLate, .inl (cI, 2, .inl r1_timesLate)), (a_t, .inr (4, [.ref a_t_paper, .long u.1, .ref a_t_timesLate, .ref a_t_paid, .int t_isKept])), (a_t_paid, .inl (cI, 2, .inl u.2.1)), (a_t_paper, .inr (1, [.int u.2.2.1, .ref a_t_paper_numbers, .ref a_t_paper_ranks, .ref a_t_paper_told, .ref a_t_paper_ones, .ref a_t_paper_turnsByYear])), (a_t_paper_numbers, .inl (cI, 10, .inl u.2.2.2.1)), (a_t_paper_ones, .inl (cJ, 10, .inr (.inl u.2.2.2.2.1))), (a_t_paper_ranks, .inl (cI, 10, .inl u.2.2.2.2.2.1)), (a_t_paper_told, .inl (cJ, 10, .inr (.inl u.2.2.2.2.2.2.1))), (a_t_paper_turnsByYear, .inl (cZ, 10, .inl u.2.2.2.2.2.2.2.1)), (a_t_timesLate, .inl (cI, 2, .inl u.2.2.2.2.2.2.2.2))])) := by
  unfold fn_X5_copyOf at h
  refine zz_of (by decide) rfl (Nat.le_of_ble_eq_true rfl) ?_
  intro p e s m below meth c A ls hx hb hr hml hts hown hlocks hA hS hP hK hD hl
  have hown : s.vm.findClass RX5 = some m.cls := hown
  have hl : lv_has ls 3 [(0, .ref a_t), (1, .ref a_r1)] := hl
  refine lv_aload_n hx hb dX5_copyOf_0 rfl (lv_at hl 0 rfl) ?_
  refine va_get (ci := 4) (v := .ref a_t_paper) (C := RX5) (T := TX5) (N := 5) hx hb hts in_X5_copyOf_X5 hown hK hP 9 rfl rfl 0 (by decide) (hts _ lk_X5_copyOf_0) (fun _ h9 => h9) rfl dX5_copyOf_1 ?_
  refine lv_aload_n hx hb dX5_copyOf_4 rfl (lv_at hl 1 rfl) ?_
  refine va_get (ci := 4) (v := .ref a_r1_paper) (C := RX5) (T := TX5) (N := 5) hx hb hts in_X5_copyOf_X5 hown hK hP 0 rfl rfl 0 (by decide) (hts _ lk_X5_copyOf_0) (fun _ h9 => h9) rfl dX5_copyOf_5 ?_
  obtain ⟨x1, g2, g3, g4, g5, g6, he7, h⟩ := zz_b6E h
  refine zz_VV (q := (RX2, TX2, 6)) (As := [.ref a_r1_paper]) (rest := []) (wr := [(a_r1, .inr (4, [.ref a_r1_paper, .long r1_plan, .ref a_r1_timesLate, .ref a_r1_paid, .int r1_isKept])), (a_r1_paid, .inl (cI, 2, .inl r1_paid)), (a_r1_timesLate, .inl (cI, 2, .inl r1_timesLate)), (a_t, .inr (4, [.ref a_t_paper, .long t_plan, .ref a_t_timesLate, .ref a_t_paid, .int t_isKept])), (a_t_paid, .inl (cI, 2, .inl t_paid)), (a_t_timesLate, .inl (cI, 2, .inl t_timesLate))]) (wm := [(a_r1, .inr (4, [.ref a_r1_paper, .long r1_plan, .ref a_r1_timesLate, .ref a_r1_paid, .int r1_isKept])), (a_r1_paid, .inl (cI, 2, .inl r1_paid)), (a_r1_paper, .inr (1, [.int r1_paper_size, .ref a_r1_paper_numbers, .ref a_r1_paper_ranks, .ref a_r1_paper_told, .ref a_r1_paper_ones, .ref a_r1_paper_turnsByYear])), (a_r1_paper_numbers, .inl (cI, 10, .inl r1_paper_numbers)), (a_r1_paper_ones, .inl (cJ, 10, .inr (.inl r1_paper_ones))), (a_r1_paper_ranks, .inl (cI, 10, .inl r1_paper_ranks)), (a_r1_paper_told, .inl (cJ, 10, .inr (.inl r1_paper_told))), (a_r1_paper_turnsByYear, .inl (cZ, 10, .inl r1_paper_turnsByYear)), (a_r1_timesLate, .inl (cI, 2, .inl r1_timesLate)), (a_t, .inr (4, [.ref a_t_paper, .long t_plan, .ref a_t_timesLate, .ref a_t_paid, .int t_isKept])), (a_t_paid, .inl (cI, 2, .inl t_paid)), (a_t_paper, .inr (1, [.int x1, .ref a_t_paper_numbers, .ref a_t_paper_ranks, .ref a_t_paper_told, .ref a_t_paper_ones, .ref a_t_paper_turnsByYear])), (a_t_paper_numbers, .inl (cI, 10, .inl g2)), (a_t_paper_ones, .inl (cJ, 10, .inr (.inl g3))), (a_t_paper_ranks, .inl (cI, 10, .inl g4)), (a_t_paper_told, .inl (cJ, 10, .inr (.inl g5))), (a_t_paper_turnsByYear, .inl (cZ, 10, .inl g6)), (a_t_timesLate, .inl (cI, 2, .inl t_timesLate))]) ⟨hx, hb, hml, hown, hts⟩ (ct_X2_copyOf l dC dI cI cJ cB cZ a_r1_paper a_r1_paper_numbers a_r1_paper_ones a_r1_paper_ranks a_r1_paper_told a_r1_paper_turnsByYear a_t_paper a_t_paper_numbers a_t_paper_ones a_t_paper_ranks a_t_paper_told a_t_paper_turnsByYear r1_paper_size r1_paper_numbers r1_paper_ones r1_paper_ranks r1_paper_told r1_paper_turnsByYear t_paper_size t_paper_numbers t_paper_ones t_paper_ranks t_paper_told t_paper_turnsByYear x1 g2 g3 g4 g5 g6 he7) gX5_copyOf_X2_copyOf hd_X2_copyOf rfl rfl rfl ⟨Nat.le_of_ble_eq_true rfl, Nat.le_of_ble_eq_true rfl⟩ ⟨Nat.le_of_ble_eq_true rfl, Nat.le_of_ble_eq_true rfl⟩ rfl rfl (Nat.le_of_ble_eq_true rfl) dX5_copyOf_8 hl.1 rfl (ci := 1) rfl (q0 := 11) rfl hP hK hD hS hA [2, 3, 4, 5, 6, 7, 11, 12, 13, 14, 15, 16] [0, 1, 8, 9, 10, 17] [0, 1, 6, 7, 8, 9, 10, 11, 2, 3, 4, 12, 13, 14, 15, 16, 17, 5] rfl rfl (by decide) (by decide) (by decide) (by decide) rfl (fun H locs hP hD hS => ?_)
  refine lv_aload_n hx hb dX5_copyOf_11 rfl (lv_at hl 0 rfl) ?_
  refine lv_aload_n hx hb dX5_copyOf_12 rfl (lv_at hl 1 rfl) ?_
  refine va_get (ci := 4) (v := .long r1_plan) (C := RX5) (T := TX5) (N := 5) hx hb hts in_X5_copyOf_X5 hown hK hP 0 rfl rfl 1 (by decide) (hts _ lk_X5_copyOf_1) (fun _ h9 => h9) rfl dX5_copyOf_13 ?_
  refine va_put (ci := 4) (v := .long r1_plan) (ty := .long) (C := RX5) (T := TX5) (N := 5) hx hb hts in_X5_copyOf_X5 tyX5 tyX5_ok nmX5 hown hK hP hD hS 9 rfl rfl 1 (by decide) (hts _ lk_X5_copyOf_1) (fun _ h9 => h9) rfl (by decide +kernel) rfl rfl (Nat.le_of_ble_eq_true rfl) dX5_copyOf_16 (fun H locs hP hD hS => ?_)
  have hP : va_P (dC, dI) vwCl [(a_r1, .inr (4, [.ref a_r1_paper, .long r1_plan, .ref a_r1_timesLate, .ref a_r1_paid, .int r1_isKept])), (a_r1_paid, .inl (cI, 2, .inl r1_paid)), (a_r1_paper, .inr (1, [.int r1_paper_size, .ref a_r1_paper_numbers, .ref a_r1_paper_ranks, .ref a_r1_paper_told, .ref a_r1_paper_ones, .ref a_r1_paper_turnsByYear])), (a_r1_paper_numbers, .inl (cI, 10, .inl r1_paper_numbers)), (a_r1_paper_ones, .inl (cJ, 10, .inr (.inl r1_paper_ones))), (a_r1_paper_ranks, .inl (cI, 10, .inl r1_paper_ranks)), (a_r1_paper_told, .inl (cJ, 10, .inr (.inl r1_paper_told))), (a_r1_paper_turnsByYear, .inl (cZ, 10, .inl r1_paper_turnsByYear)), (a_r1_timesLate, .inl (cI, 2, .inl r1_timesLate)), (a_t, .inr (4, [.ref a_t_paper, .long r1_plan, .ref a_t_timesLate, .ref a_t_paid, .int t_isKept])), (a_t_paid, .inl (cI, 2, .inl t_paid)), (a_t_paper, .inr (1, [.int x1, .ref a_t_paper_numbers, .ref a_t_paper_ranks, .ref a_t_paper_told, .ref a_t_paper_ones, .ref a_t_paper_turnsByYear])), (a_t_paper_numbers, .inl (cI, 10, .inl g2)), (a_t_paper_ones, .inl (cJ, 10, .inr (.inl g3))), (a_t_paper_ranks, .inl (cI, 10, .inl g4)), (a_t_paper_told, .inl (cJ, 10, .inr (.inl g5))), (a_t_paper_turnsByYear, .inl (cZ, 10, .inl g6)), (a_t_timesLate, .inl (cI, 2, .inl t_timesLate))] H := hP
  have hD : va_D A [(a_r1, .inr (4, [.ref a_r1_paper, .long r1_plan, .ref a_r1_timesLate, .ref a_r1_paid, .int r1_isKept])), (a_r1_paid, .inl (cI, 2, .inl r1_paid)), (a_r1_paper, .inr (1, [.int r1_paper_size, .ref a_r1_paper_numbers, .ref a_r1_paper_ranks, .ref a_r1_paper_told, .ref a_r1_paper_ones, .ref a_r1_paper_turnsByYear])), (a_r1_paper_numbers, .inl (cI, 10, .inl r1_paper_numbers)), (a_r1_paper_ones, .inl (cJ, 10, .inr (.inl r1_paper_ones))), (a_r1_paper_ranks, .inl (cI, 10, .inl r1_paper_ranks)), (a_r1_paper_told, .inl (cJ, 10, .inr (.inl r1_paper_told))), (a_r1_paper_turnsByYear, .inl (cZ, 10, .inl r1_paper_turnsByYear)), (a_r1_timesLate, .inl (cI, 2, .inl r1_timesLate)), (a_t, .inr (4, [.ref a_t_paper, .long r1_plan, .ref a_t_timesLate, .ref a_t_paid, .int t_isKept])), (a_t_paid, .inl (cI, 2, .inl t_paid)), (a_t_paper, .inr (1, [.int x1, .ref a_t_paper_numbers, .ref a_t_paper_ranks, .ref a_t_paper_told, .ref a_t_paper_ones, .ref a_t_paper_turnsByYear])), (a_t_paper_numbers, .inl (cI, 10, .inl g2)), (a_t_paper_ones, .inl (cJ, 10, .inr (.inl g3))), (a_t_paper_ranks, .inl (cI, 10, .inl g4)), (a_t_paper_told, .inl (cJ, 10, .inr (.inl g5))), (a_t_paper_turnsByYear, .inl (cZ, 10, .inl g6)), (a_t_timesLate, .inl (cI, 2, .inl t_timesLate))] := hD
  refine lv_iconst (v := 0) hx hb dX5_copyOf_19 (by decide) ?_
  refine lv_istore_n (lv' := [(2, .int 0), (0, .ref a_t), (1, .ref a_r1)]) hx hb dX5_copyOf_20 rfl hl (by decide) rfl (fun ls hl => ?_)
  obtain ⟨g27, g28, hit26, h⟩ := zz_b2E h
  refine zz_cut (fun V => ∀ (H : Heap) (locs : List Loc) (ls : Array Slot), va_P (dC, dI) vwCl [(a_r1, .inr (4, [.ref a_r1_paper, .long r1_plan, .ref a_r1_timesLate, .ref a_r1_paid, .int r1_isKept])), (a_r1_paid, .inl (cI, 2, .inl r1_paid)), (a_r1_paper, .inr (1, [.int r1_paper_size, .ref a_r1_paper_numbers, .ref a_r1_paper_ranks, .ref a_r1_paper_told, .ref a_r1_paper_ones, .ref a_r1_paper_turnsByYear])), (a_r1_paper_numbers, .inl (cI, 10, .inl r1_paper_numbers)), (a_r1_paper_ones, .inl (cJ, 10, .inr (.inl r1_paper_ones))), (a_r1_paper_ranks, .inl (cI, 10, .inl r1_paper_ranks)), (a_r1_paper_told, .inl (cJ, 10, .inr (.inl r1_paper_told))), (a_r1_paper_turnsByYear, .inl (cZ, 10, .inl r1_paper_turnsByYear)), (a_r1_timesLate, .inl (cI, 2, .inl r1_timesLate)), (a_t, .inr (4, [.ref a_t_paper, .long r1_plan, .ref a_t_timesLate, .ref a_t_paid, .int t_isKept])), (a_t_paid, .inl (cI, 2, .inl g27)), (a_t_paper, .inr (1, [.int x1, .ref a_t_paper_numbers, .ref a_t_paper_ranks, .ref a_t_paper_told, .ref a_t_paper_ones, .ref a_t_paper_turnsByYear])), (a_t_paper_numbers, .inl (cI, 10, .inl g2)), (a_t_paper_ones, .inl (cJ, 10, .inr (.inl g3))), (a_t_paper_ranks, .inl (cI, 10, .inl g4)), (a_t_paper_told, .inl (cJ, 10, .inr (.inl g5))), (a_t_paper_turnsByYear, .inl (cZ, 10, .inl g6)), (a_t_timesLate, .inl (cI, 2, .inl g28))] H → va_D A [(a_r1, .inr (4, [.ref a_r1_paper, .long r1_plan, .ref a_r1_timesLate, .ref a_r1_paid, .int r1_isKept])), (a_r1_paid, .inl (cI, 2, .inl r1_paid)), (a_r1_paper, .inr (1, [.int r1_paper_size, .ref a_r1_paper_numbers, .ref a_r1_paper_ranks, .ref a_r1_paper_told, .ref a_r1_paper_ones, .ref a_r1_paper_turnsByYear])), (a_r1_paper_numbers, .inl (cI, 10, .inl r1_paper_numbers)), (a_r1_paper_ones, .inl (cJ, 10, .inr (.inl r1_paper_ones))), (a_r1_paper_ranks, .inl (cI, 10, .inl r1_paper_ranks)), (a_r1_paper_told, .inl (cJ, 10, .inr (.inl r1_paper_told))), (a_r1_paper_turnsByYear, .inl (cZ, 10, .inl r1_paper_turnsByYear)), (a_r1_timesLate, .inl (cI, 2, .inl r1_timesLate)), (a_t, .inr (4, [.ref a_t_paper, .long r1_plan, .ref a_t_timesLate, .ref a_t_paid, .int t_isKept])), (a_t_paid, .inl (cI, 2, .inl g27)), (a_t_paper, .inr (1, [.int x1, .ref a_t_paper_numbers, .ref a_t_paper_ranks, .ref a_t_paper_told, .ref a_t_paper_ones, .ref a_t_paper_turnsByYear])), (a_t_paper_numbers, .inl (cI, 10, .inl g2)), (a_t_paper_ones, .inl (cJ, 10, .inr (.inl g3))), (a_t_paper_ranks, .inl (cI, 10, .inl g4)), (a_t_paper_told, .inl (cJ, 10, .inr (.inl g5))), (a_t_paper_turnsByYear, .inl (cZ, 10, .inl g6)), (a_t_timesLate, .inl (cI, 2, .inl g28))] → va_S A s.heap H locs → lv_has ls 3 [] → V H locs (F0 m 56 ls [])) ?_ (fun hE26 => ?_)
  · intro H locs ls hP hD hS hl
    exact zz_vret (r1_plan, g27, x1, g2, g3, g4, g5, g6, g28) hx hb hr hlocks dX5_copyOf_56 (Option.some.inj h) hP hK hD hS
  refine zz_cut (fun V => ∀ (n : Nat) (x24 : Int32) (g25 : (Nat → Int32)) (g26 : (Nat → Int32)) (H : Heap) (locs : List Loc) (ls : Array Slot), zz_it (fun z => fb_X5_copyOf_21 r1_timesLate r1_paid z.1 z.2.1 z.2.2) n (x24, g25, g26) = some (g27, g28) → va_P (dC, dI) vwCl [(a_r1, .inr (4, [.ref a_r1_paper, .long r1_plan, .ref a_r1_timesLate, .ref a_r1_paid, .int r1_isKept])), (a_r1_paid, .inl (cI, 2, .inl r1_paid)), (a_r1_paper, .inr (1, [.int r1_paper_size, .ref a_r1_paper_numbers, .ref a_r1_paper_ranks, .ref a_r1_paper_told, .ref a_r1_paper_ones, .ref a_r1_paper_turnsByYear])), (a_r1_paper_numbers, .inl (cI, 10, .inl r1_paper_numbers)), (a_r1_paper_ones, .inl (cJ, 10, .inr (.inl r1_paper_ones))), (a_r1_paper_ranks, .inl (cI, 10, .inl r1_paper_ranks)), (a_r1_paper_told, .inl (cJ, 10, .inr (.inl r1_paper_told))), (a_r1_paper_turnsByYear, .inl (cZ, 10, .inl r1_paper_turnsByYear)), (a_r1_timesLate, .inl (cI, 2, .inl r1_timesLate)), (a_t, .inr (4, [.ref a_t_paper, .long r1_plan, .ref a_t_timesLate, .ref a_t_paid, .int t_isKept])), (a_t_paid, .inl (cI, 2, .inl g25)), (a_t_paper, .inr (1, [.int x1, .ref a_t_paper_numbers, .ref a_t_paper_ranks, .ref a_t_paper_told, .ref a_t_paper_ones, .ref a_t_paper_turnsByYear])), (a_t_paper_numbers, .inl (cI, 10, .inl g2)), (a_t_paper_ones, .inl (cJ, 10, .inr (.inl g3))), (a_t_paper_ranks, .inl (cI, 10, .inl g4)), (a_t_paper_told, .inl (cJ, 10, .inr (.inl g5))), (a_t_paper_turnsByYear, .inl (cZ, 10, .inl g6)), (a_t_timesLate, .inl (cI, 2, .inl g26))] H → va_D A [(a_r1, .inr (4, [.ref a_r1_paper, .long r1_plan, .ref a_r1_timesLate, .ref a_r1_paid, .int r1_isKept])), (a_r1_paid, .inl (cI, 2, .inl r1_paid)), (a_r1_paper, .inr (1, [.int r1_paper_size, .ref a_r1_paper_numbers, .ref a_r1_paper_ranks, .ref a_r1_paper_told, .ref a_r1_paper_ones, .ref a_r1_paper_turnsByYear])), (a_r1_paper_numbers, .inl (cI, 10, .inl r1_paper_numbers)), (a_r1_paper_ones, .inl (cJ, 10, .inr (.inl r1_paper_ones))), (a_r1_paper_ranks, .inl (cI, 10, .inl r1_paper_ranks)), (a_r1_paper_told, .inl (cJ, 10, .inr (.inl r1_paper_told))), (a_r1_paper_turnsByYear, .inl (cZ, 10, .inl r1_paper_turnsByYear)), (a_r1_timesLate, .inl (cI, 2, .inl r1_timesLate)), (a_t, .inr (4, [.ref a_t_paper, .long r1_plan, .ref a_t_timesLate, .ref a_t_paid, .int t_isKept])), (a_t_paid, .inl (cI, 2, .inl g25)), (a_t_paper, .inr (1, [.int x1, .ref a_t_paper_numbers, .ref a_t_paper_ranks, .ref a_t_paper_told, .ref a_t_paper_ones, .ref a_t_paper_turnsByYear])), (a_t_paper_numbers, .inl (cI, 10, .inl g2)), (a_t_paper_ones, .inl (cJ, 10, .inr (.inl g3))), (a_t_paper_ranks, .inl (cI, 10, .inl g4)), (a_t_paper_told, .inl (cJ, 10, .inr (.inl g5))), (a_t_paper_turnsByYear, .inl (cZ, 10, .inl g6)), (a_t_timesLate, .inl (cI, 2, .inl g26))] → va_S A s.heap H locs → lv_has ls 3 [(0, .ref a_t), (1, .ref a_r1), (2, .int x24)] → V H locs (F0 m 21 ls [])) ?_ (fun hL26 => ?_)
  · intro n
    induction n with
    | zero => intro x24 g25 g26 H locs ls hit26; exact (zz_it0 hit26).elim
    | succ n ih26 =>
      intro x24 g25 g26 H locs ls hit26 hP hD hS hl
      obtain ⟨y26, hb26, hy26⟩ := zz_itE hit26
      have hb26 : fb_X5_copyOf_21 r1_timesLate r1_paid x24 g25 g26 = some y26 := hb26
      unfold fb_X5_copyOf_21 at hb26
      refine lv_iload_n hx hb dX5_copyOf_21 rfl (lv_at hl 2 rfl) ?_
      refine lv_iconst (v := 2) hx hb dX5_copyOf_22 (by decide) ?_
      refine lv_icmp_ge (tgt := 56) hx hb dX5_copyOf_23 (by decide) (fun c29 => ?_) (fun c29 => ?_)
      · have hb26 := zz_if c29 hb26
        obtain rfl := Option.some.inj hb26
        have hy26 := Option.some.inj hy26
        cases hy26
        exact hE26 _ _ ls hP hD hS (lv_sub hl [] rfl)
      · have hb26 := zz_ifn c29 hb26
        refine lv_aload_n hx hb dX5_copyOf_26 rfl (lv_at hl 0 rfl) ?_
        refine va_get (ci := 4) (v := .ref a_t_timesLate) (C := RX5) (T := TX5) (N := 5) hx hb hts in_X5_copyOf_X5 hown hK hP 9 rfl rfl 2 (by decide) (hts _ lk_X5_copyOf_2) (fun _ h9 => h9) rfl dX5_copyOf_27 ?_
        refine lv_iload_n hx hb dX5_copyOf_30 rfl (lv_at hl 2 rfl) ?_
        refine lv_aload_n hx hb dX5_copyOf_31 rfl (lv_at hl 1 rfl) ?_
        refine va_get (ci := 4) (v := .ref a_r1_timesLate) (C := RX5) (T := TX5) (N := 5) hx hb hts in_X5_copyOf_X5 hown hK hP 0 rfl rfl 2 (by decide) (hts _ lk_X5_copyOf_2) (fun _ h9 => h9) rfl dX5_copyOf_32 ?_
        refine lv_iload_n hx hb dX5_copyOf_35 rfl (lv_at hl 2 rfl) ?_
        obtain ⟨hi30, hb26⟩ := zz_chkE hb26
        refine va_iald hx hb hK hP 8 0 rfl rfl hi30 dX5_copyOf_36 ?_
        obtain ⟨hi31, hb26⟩ := zz_chkE hb26
        refine zz_iast hx hb hK hP hD hS 17 0 rfl rfl hi31 dX5_copyOf_37 (fun g32 => [(a_r1, .inr (4, [.ref a_r1_paper, .long r1_plan, .ref a_r1_timesLate, .ref a_r1_paid, .int r1_isKept])), (a_r1_paid, .inl (cI, 2, .inl r1_paid)), (a_r1_paper, .inr (1, [.int r1_paper_size, .ref a_r1_paper_numbers, .ref a_r1_paper_ranks, .ref a_r1_paper_told, .ref a_r1_paper_ones, .ref a_r1_paper_turnsByYear])), (a_r1_paper_numbers, .inl (cI, 10, .inl r1_paper_numbers)), (a_r1_paper_ones, .inl (cJ, 10, .inr (.inl r1_paper_ones))), (a_r1_paper_ranks, .inl (cI, 10, .inl r1_paper_ranks)), (a_r1_paper_told, .inl (cJ, 10, .inr (.inl r1_paper_told))), (a_r1_paper_turnsByYear, .inl (cZ, 10, .inl r1_paper_turnsByYear)), (a_r1_timesLate, .inl (cI, 2, .inl r1_timesLate)), (a_t, .inr (4, [.ref a_t_paper, .long r1_plan, .ref a_t_timesLate, .ref a_t_paid, .int t_isKept])), (a_t_paid, .inl (cI, 2, .inl g25)), (a_t_paper, .inr (1, [.int x1, .ref a_t_paper_numbers, .ref a_t_paper_ranks, .ref a_t_paper_told, .ref a_t_paper_ones, .ref a_t_paper_turnsByYear])), (a_t_paper_numbers, .inl (cI, 10, .inl g2)), (a_t_paper_ones, .inl (cJ, 10, .inr (.inl g3))), (a_t_paper_ranks, .inl (cI, 10, .inl g4)), (a_t_paper_told, .inl (cJ, 10, .inr (.inl g5))), (a_t_paper_turnsByYear, .inl (cZ, 10, .inl g6)), (a_t_timesLate, .inl (cI, 2, .inl g32))]) (fun _ => rfl) (fun g32 H locs eg32 hP hD hS => ?_)
        have hb26 := zz_nmE eg32 hb26
        refine lv_aload_n hx hb dX5_copyOf_38 rfl (lv_at hl 0 rfl) ?_
        refine va_get (ci := 4) (v := .ref a_t_paid) (C := RX5) (T := TX5) (N := 5) hx hb hts in_X5_copyOf_X5 hown hK hP 9 rfl rfl 3 (by decide) (hts _ lk_X5_copyOf_3) (fun _ h9 => h9) rfl dX5_copyOf_39 ?_
        refine lv_iload_n hx hb dX5_copyOf_42 rfl (lv_at hl 2 rfl) ?_
        refine lv_aload_n hx hb dX5_copyOf_43 rfl (lv_at hl 1 rfl) ?_
        refine va_get (ci := 4) (v := .ref a_r1_paid) (C := RX5) (T := TX5) (N := 5) hx hb hts in_X5_copyOf_X5 hown hK hP 0 rfl rfl 3 (by decide) (hts _ lk_X5_copyOf_3) (fun _ h9 => h9) rfl dX5_copyOf_44 ?_
        refine lv_iload_n hx hb dX5_copyOf_47 rfl (lv_at hl 2 rfl) ?_
        obtain ⟨hi33, hb26⟩ := zz_chkE hb26
        refine va_iald hx hb hK hP 1 0 rfl rfl hi33 dX5_copyOf_48 ?_
        obtain ⟨hi34, hb26⟩ := zz_chkE hb26
        refine zz_iast hx hb hK hP hD hS 10 0 rfl rfl hi34 dX5_copyOf_49 (fun g35 => [(a_r1, .inr (4, [.ref a_r1_paper, .long r1_plan, .ref a_r1_timesLate, .ref a_r1_paid, .int r1_isKept])), (a_r1_paid, .inl (cI, 2, .inl r1_paid)), (a_r1_paper, .inr (1, [.int r1_paper_size, .ref a_r1_paper_numbers, .ref a_r1_paper_ranks, .ref a_r1_paper_told, .ref a_r1_paper_ones, .ref a_r1_paper_turnsByYear])), (a_r1_paper_numbers, .inl (cI, 10, .inl r1_paper_numbers)), (a_r1_paper_ones, .inl (cJ, 10, .inr (.inl r1_paper_ones))), (a_r1_paper_ranks, .inl (cI, 10, .inl r1_paper_ranks)), (a_r1_paper_told, .inl (cJ, 10, .inr (.inl r1_paper_told))), (a_r1_paper_turnsByYear, .inl (cZ, 10, .inl r1_paper_turnsByYear)), (a_r1_timesLate, .inl (cI, 2, .inl r1_timesLate)), (a_t, .inr (4, [.ref a_t_paper, .long r1_plan, .ref a_t_timesLate, .ref a_t_paid, .int t_isKept])), (a_t_paid, .inl (cI, 2, .inl g35)), (a_t_paper, .inr (1, [.int x1, .ref a_t_paper_numbers, .ref a_t_paper_ranks, .ref a_t_paper_told, .ref a_t_paper_ones, .ref a_t_paper_turnsByYear])), (a_t_paper_numbers, .inl (cI, 10, .inl g2)), (a_t_paper_ones, .inl (cJ, 10, .inr (.inl g3))), (a_t_paper_ranks, .inl (cI, 10, .inl g4)), (a_t_paper_told, .inl (cJ, 10, .inr (.inl g5))), (a_t_paper_turnsByYear, .inl (cZ, 10, .inl g6)), (a_t_timesLate, .inl (cI, 2, .inl g32))]) (fun _ => rfl) (fun g35 H locs eg35 hP hD hS => ?_)
        have hb26 := zz_nmE eg35 hb26
        obtain ⟨x36, ex36⟩ : ∃ z : Int32, z = x24 + 1 := ⟨_, rfl⟩
        have hb26 := zz_nmE ex36 hb26
        refine lv_iinc (v := x36) (lv' := [(2, .int x36), (0, .ref a_t), (1, .ref a_r1)]) hx hb dX5_copyOf_50 hl (k := 2) rfl (by rw [ex36]; rfl) (by decide) rfl (fun ls hl => ?_)
        refine lv_goto (tgt := 21) hx hb dX5_copyOf_53 (by decide) ?_
        obtain rfl := Option.some.inj hb26
        exact ih26 x36 g35 g32 _ _ ls hy26 hP hD hS (lv_sub hl [1, 2, 0] rfl)
  exact hL26 zz_fuel 0 t_paid t_timesLate _ _ ls hit26 hP hD hS (lv_sub hl [1, 2, 0] rfl)
theorem hd_X6_append : yX6_append.cls ≠ "java/lang/invoke/MethodHandle" ∧ yX6_append.cls ≠ "java/lang/invoke/VarHandle" ∧ (parseMethodDescriptor yX6_append.desc).map (fun d => d.parameters.length) = some 2 := by decide +kernel
set_option maxRecDepth 20000 in
theorem in_X6_append_X6 : ∀ w ∈ u_ws RX6 TX6 2, w ∈ wsX6_append := by decide +kernel
set_option maxRecDepth 20000 in
theorem lk_X6_append_0 : Cond.fieldLink RX6 9 "TwoHousesOneChild$Text" "signs" "[B" ∈ wsX6_append := by decide +kernel
set_option maxRecDepth 20000 in
theorem lk_X6_append_1 : Cond.fieldLink RX6 15 "TwoHousesOneChild$Text" "length" "I" ∈ wsX6_append := by decide +kernel
set_option maxHeartbeats 4000000 in
set_option maxRecDepth 100000 in
theorem ct_X6_append (l : Launch) (dC : Nat → ClassId) (dI : Nat → Nat → Nat) (cI cJ cB cZ : ClassId) (a_t a_t_signs : Nat) (t_length : Int32) (t_signs : (Nat → Int32)) (p1 : Int32) (p2 : Int64) (rr : Int32) (o1 : Int32) (o2 : (Nat → Int32)) (h : fn_X6_append t_length t_signs p1 p2 = some (rr, o1, o2)) : zz_M l yX6_append wsX6_append ({ frames := 0, cells := 0, slots := 0, locals := 0 }) (dC, dI) (zz_T cI cJ cB cZ) [.ref a_t, .int p1, .long p2] [(a_t, .inr (5, [.ref a_t_signs, .int t_length])), (a_t_signs, .inl (cB, 64, .inl t_signs))] (zz_QI (dC, dI) (zz_T cI cJ cB cZ) (rr, o1, o2) (fun (u : Int32 × (Nat → Int32)) => [(a_t, .inr (5, [.ref a_t_signs, .int u.1])), (a_t_signs, .inl (cB, 64, .inl u.2))])) := by
  unfold fn_X6_append at h
  refine zz_of (by decide) rfl (Nat.le_of_ble_eq_true rfl) ?_
  intro p e s m below meth c A ls hx hb hr hml hts hown hlocks hA hS hP hK hD hl
  have hown : s.vm.findClass RX6 = some m.cls := hown
  have hl : lv_has ls 5 [(0, .ref a_t), (1, .int p1), (2, .long p2)] := hl
  refine lv_iload_n hx hb dX6_append_0 rfl (lv_at hl 1 rfl) ?_
  refine lv_if_lt (tgt := 18) hx hb dX6_append_1 (by decide) (fun c1 => ?_) (fun c1 => ?_)
  · have h := zz_if c1 h
    refine lv_iconst (v := 0) hx hb dX6_append_18 (by decide) ?_
    exact zz_zret (t_length, t_signs) hx hb hr hlocks dX6_append_19 (by decide) (Option.some.inj h) hP hK hD hS
  · have h := zz_ifn c1 h
    refine lv_iload_n hx hb dX6_append_4 rfl (lv_at hl 1 rfl) ?_
    refine lv_aload_n hx hb dX6_append_5 rfl (lv_at hl 0 rfl) ?_
    refine va_get (ci := 5) (v := .ref a_t_signs) (C := RX6) (T := TX6) (N := 2) hx hb hts in_X6_append_X6 hown hK hP 0 rfl rfl 0 (by decide) (hts _ lk_X6_append_0) (fun _ h9 => h9) rfl dX6_append_6 ?_
    refine va_alen (v := 64) hx hb hK hP 1 2 rfl rfl rfl dX6_append_9 ?_
    refine lv_aload_n hx hb dX6_append_10 rfl (lv_at hl 0 rfl) ?_
    refine va_get (ci := 5) (v := .int t_length) (C := RX6) (T := TX6) (N := 2) hx hb hts in_X6_append_X6 hown hK hP 0 rfl rfl 1 (by decide) (hts _ lk_X6_append_1) (fun _ h9 => h9) rfl dX6_append_11 ?_
    refine lv_isub hx hb dX6_append_14 ?_
    refine lv_icmp_le (tgt := 20) hx hb dX6_append_15 (by decide) (fun c2 => ?_) (fun c2 => ?_)
    · have h := zz_if c2 h
      refine lv_iload_n hx hb dX6_append_20 rfl (lv_at hl 1 rfl) ?_
      refine lv_iconst (v := 1) hx hb dX6_append_21 (by decide) ?_
      refine lv_isub hx hb dX6_append_22 ?_
      refine lv_topi (fun x3 ex3 => ?_)
      have h := zz_nmE ex3 h
      refine lv_istore (lv' := [(4, .int x3), (0, .ref a_t), (1, .int p1), (2, .long p2)]) hx hb dX6_append_23 hl (by decide) rfl (fun ls hl => ?_)
      obtain ⟨x17, g18, hit16, h⟩ := zz_b2E h
      refine zz_cut (fun V => ∀ (H : Heap) (locs : List Loc) (ls : Array Slot), va_P (dC, dI) vwCl [(a_t, .inr (5, [.ref a_t_signs, .int x17])), (a_t_signs, .inl (cB, 64, .inl g18))] H → va_D A [(a_t, .inr (5, [.ref a_t_signs, .int x17])), (a_t_signs, .inl (cB, 64, .inl g18))] → va_S A s.heap H locs → lv_has ls 5 [] → V H locs (F0 m 64 ls [])) ?_ (fun hE16 => ?_)
      · intro H locs ls hP hD hS hl
        refine lv_iconst (v := 1) hx hb dX6_append_64 (by decide) ?_
        exact zz_zret (x17, g18) hx hb hr hlocks dX6_append_65 (by decide) (Option.some.inj h) hP hK hD hS
      refine zz_cut (fun V => ∀ (n : Nat) (x14 : Int32) (x15 : Int32) (g16 : (Nat → Int32)) (H : Heap) (locs : List Loc) (ls : Array Slot), zz_it (fun z => fb_X6_append_25 p2 z.1 z.2.1 z.2.2) n (x14, x15, g16) = some (x17, g18) → va_P (dC, dI) vwCl [(a_t, .inr (5, [.ref a_t_signs, .int x15])), (a_t_signs, .inl (cB, 64, .inl g16))] H → va_D A [(a_t, .inr (5, [.ref a_t_signs, .int x15])), (a_t_signs, .inl (cB, 64, .inl g16))] → va_S A s.heap H locs → lv_has ls 5 [(0, .ref a_t), (2, .long p2), (4, .int x14)] → V H locs (F0 m 25 ls [])) ?_ (fun hL16 => ?_)
      · intro n
        induction n with
        | zero => intro x14 x15 g16 H locs ls hit16; exact (zz_it0 hit16).elim
        | succ n ih16 =>
          intro x14 x15 g16 H locs ls hit16 hP hD hS hl
          obtain ⟨y16, hb16, hy16⟩ := zz_itE hit16
          have hb16 : fb_X6_append_25 p2 x14 x15 g16 = some y16 := hb16
          unfold fb_X6_append_25 at hb16
          refine lv_iload hx hb dX6_append_25 (lv_at hl 2 rfl) ?_
          refine lv_if_lt (tgt := 64) hx hb dX6_append_27 (by decide) (fun c19 => ?_) (fun c19 => ?_)
          · have hb16 := zz_if c19 hb16
            obtain rfl := Option.some.inj hb16
            have hy16 := Option.some.inj hy16
            cases hy16
            exact hE16 _ _ ls hP hD hS (lv_sub hl [] rfl)
          · have hb16 := zz_ifn c19 hb16
            refine lv_aload_n hx hb dX6_append_30 rfl (lv_at hl 0 rfl) ?_
            refine va_get (ci := 5) (v := .ref a_t_signs) (C := RX6) (T := TX6) (N := 2) hx hb hts in_X6_append_X6 hown hK hP 0 rfl rfl 0 (by decide) (hts _ lk_X6_append_0) (fun _ h9 => h9) rfl dX6_append_31 ?_
            refine lv_aload_n hx hb dX6_append_34 rfl (lv_at hl 0 rfl) ?_
            refine va_get (ci := 5) (v := .int x15) (C := RX6) (T := TX6) (N := 2) hx hb hts in_X6_append_X6 hown hK hP 0 rfl rfl 1 (by decide) (hts _ lk_X6_append_1) (fun _ h9 => h9) rfl dX6_append_35 ?_
            refine lv_lload_n hx hb dX6_append_38 rfl (lv_at hl 1 rfl) ?_
            refine lv_bipush (v := 8) hx hb dX6_append_39 (by decide) ?_
            refine lv_iload hx hb dX6_append_41 (lv_at hl 2 rfl) ?_
            refine lv_imul hx hb dX6_append_43 ?_
            refine lv_lshr (v := p2 >>> ((8 * x14).toInt64 &&& 63)) hx hb dX6_append_44 rfl ?_
            refine lv_l2i (v := (p2 >>> ((8 * x14).toInt64 &&& 63)).toInt32) hx hb dX6_append_45 rfl ?_
            refine lv_i2b (v := ((p2 >>> ((8 * x14).toInt64 &&& 63)).toInt32).toInt8.toInt32) hx hb dX6_append_46 rfl ?_
            obtain ⟨hi20, hb16⟩ := zz_chkE hb16
            refine zz_bast hx hb hK hP hD hS 1 2 rfl rfl hi20 dX6_append_47 (fun g21 => [(a_t, .inr (5, [.ref a_t_signs, .int x15])), (a_t_signs, .inl (cB, 64, .inl g21))]) (fun _ => rfl) (fun g21 H locs eg21 hP hD hS => ?_)
            have hb16 := zz_nmE eg21 hb16
            refine lv_aload_n hx hb dX6_append_48 rfl (lv_at hl 0 rfl) ?_
            refine lv_dup hx hb dX6_append_49 rfl ?_
            refine va_get (ci := 5) (v := .int x15) (C := RX6) (T := TX6) (N := 2) hx hb hts in_X6_append_X6 hown hK hP 0 rfl rfl 1 (by decide) (hts _ lk_X6_append_1) (fun _ h9 => h9) rfl dX6_append_50 ?_
            refine lv_iconst (v := 1) hx hb dX6_append_53 (by decide) ?_
            refine lv_iadd hx hb dX6_append_54 ?_
            refine lv_topi (fun x22 ex22 => ?_)
            have hb16 := zz_nmE ex22 hb16
            refine va_put (ci := 5) (v := .int x22) (ty := .int) (C := RX6) (T := TX6) (N := 2) hx hb hts in_X6_append_X6 tyX6 tyX6_ok nmX6 hown hK hP hD hS 0 rfl rfl 1 (by decide) (hts _ lk_X6_append_1) (fun _ h9 => h9) rfl (by decide +kernel) rfl rfl (Nat.le_of_ble_eq_true rfl) dX6_append_55 (fun H locs hP hD hS => ?_)
            have hP : va_P (dC, dI) vwCl [(a_t, .inr (5, [.ref a_t_signs, .int x22])), (a_t_signs, .inl (cB, 64, .inl g21))] H := hP
            have hD : va_D A [(a_t, .inr (5, [.ref a_t_signs, .int x22])), (a_t_signs, .inl (cB, 64, .inl g21))] := hD
            obtain ⟨x23, ex23⟩ : ∃ z : Int32, z = x14 + (-1) := ⟨_, rfl⟩
            have hb16 := zz_nmE ex23 hb16
            refine lv_iinc (v := x23) (lv' := [(4, .int x23), (0, .ref a_t), (2, .long p2)]) hx hb dX6_append_58 hl (k := 2) rfl (by rw [ex23]; rfl) (by decide) rfl (fun ls hl => ?_)
            refine lv_goto (tgt := 25) hx hb dX6_append_61 (by decide) ?_
            obtain rfl := Option.some.inj hb16
            exact ih16 x23 x22 g21 _ _ ls hy16 hP hD hS (lv_sub hl [1, 2, 0] rfl)
      exact hL16 zz_fuel x3 t_length t_signs _ _ ls hit16 hP hD hS (lv_sub hl [1, 3, 0] rfl)
    · have h := zz_ifn c2 h
      refine lv_iconst (v := 0) hx hb dX6_append_18 (by decide) ?_
      exact zz_zret (t_length, t_signs) hx hb hr hlocks dX6_append_19 (by decide) (Option.some.inj h) hP hK hD hS
theorem hd_X6_signAt : yX6_signAt.cls ≠ "java/lang/invoke/MethodHandle" ∧ yX6_signAt.cls ≠ "java/lang/invoke/VarHandle" ∧ (parseMethodDescriptor yX6_signAt.desc).map (fun d => d.parameters.length) = some 1 := by decide +kernel
set_option maxRecDepth 20000 in
theorem in_X6_signAt_X6 : ∀ w ∈ u_ws RX6 TX6 2, w ∈ wsX6_signAt := by decide +kernel
set_option maxRecDepth 20000 in
theorem lk_X6_signAt_0 : Cond.fieldLink RX6 15 "TwoHousesOneChild$Text" "length" "I" ∈ wsX6_signAt := by decide +kernel
set_option maxRecDepth 20000 in
theorem lk_X6_signAt_1 : Cond.fieldLink RX6 9 "TwoHousesOneChild$Text" "signs" "[B" ∈ wsX6_signAt := by decide +kernel
set_option maxHeartbeats 4000000 in
set_option maxRecDepth 100000 in
theorem ct_X6_signAt (l : Launch) (dC : Nat → ClassId) (dI : Nat → Nat → Nat) (cI cJ cB cZ : ClassId) (a_t a_t_signs : Nat) (t_length : Int32) (t_signs : (Nat → Int32)) (p1 : Int32) (rr : Int32) (u0 : Unit) (h : fn_X6_signAt t_length t_signs p1 = some (rr, u0)) : zz_M l yX6_signAt wsX6_signAt ({ frames := 0, cells := 0, slots := 0, locals := 0 }) (dC, dI) (zz_T cI cJ cB cZ) [.ref a_t, .int p1] [(a_t, .inr (5, [.ref a_t_signs, .int t_length])), (a_t_signs, .inl (cB, 64, .inl t_signs))] (zz_QI (dC, dI) (zz_T cI cJ cB cZ) (rr, u0) (fun (u : Unit) => [(a_t, .inr (5, [.ref a_t_signs, .int t_length])), (a_t_signs, .inl (cB, 64, .inl t_signs))])) := by
  unfold fn_X6_signAt at h
  refine zz_of (by decide) rfl (Nat.le_of_ble_eq_true rfl) ?_
  intro p e s m below meth c A ls hx hb hr hml hts hown hlocks hA hS hP hK hD hl
  have hown : s.vm.findClass RX6 = some m.cls := hown
  have hl : lv_has ls 2 [(0, .ref a_t), (1, .int p1)] := hl
  refine lv_iload_n hx hb dX6_signAt_0 rfl (lv_at hl 1 rfl) ?_
  refine lv_if_lt (tgt := 21) hx hb dX6_signAt_1 (by decide) (fun c1 => ?_) (fun c1 => ?_)
  · have h := zz_if c1 h
    refine lv_iconst (v := 0) hx hb dX6_signAt_21 (by decide) ?_
    exact zz_iret () hx hb hr hlocks dX6_signAt_22 (Option.some.inj h) hP hK hD hS
  · have h := zz_ifn c1 h
    refine lv_iload_n hx hb dX6_signAt_4 rfl (lv_at hl 1 rfl) ?_
    refine lv_aload_n hx hb dX6_signAt_5 rfl (lv_at hl 0 rfl) ?_
    refine va_get (ci := 5) (v := .int t_length) (C := RX6) (T := TX6) (N := 2) hx hb hts in_X6_signAt_X6 hown hK hP 0 rfl rfl 1 (by decide) (hts _ lk_X6_signAt_0) (fun _ h9 => h9) rfl dX6_signAt_6 ?_
    refine lv_icmp_ge (tgt := 21) hx hb dX6_signAt_9 (by decide) (fun c2 => ?_) (fun c2 => ?_)
    · have h := zz_if c2 h
      refine lv_iconst (v := 0) hx hb dX6_signAt_21 (by decide) ?_
      exact zz_iret () hx hb hr hlocks dX6_signAt_22 (Option.some.inj h) hP hK hD hS
    · have h := zz_ifn c2 h
      refine lv_aload_n hx hb dX6_signAt_12 rfl (lv_at hl 0 rfl) ?_
      refine va_get (ci := 5) (v := .ref a_t_signs) (C := RX6) (T := TX6) (N := 2) hx hb hts in_X6_signAt_X6 hown hK hP 0 rfl rfl 0 (by decide) (hts _ lk_X6_signAt_1) (fun _ h9 => h9) rfl dX6_signAt_13 ?_
      refine lv_iload_n hx hb dX6_signAt_16 rfl (lv_at hl 1 rfl) ?_
      obtain ⟨hi3, h⟩ := zz_chkE h
      refine va_bald hx hb hK hP 1 2 rfl rfl hi3 dX6_signAt_17 ?_
      refine lv_goto (tgt := 22) hx hb dX6_signAt_18 (by decide) ?_
      exact zz_iret () hx hb hr hlocks dX6_signAt_22 (Option.some.inj h) hP hK hD hS
theorem hd_X6_figureAt : yX6_figureAt.cls ≠ "java/lang/invoke/MethodHandle" ∧ yX6_figureAt.cls ≠ "java/lang/invoke/VarHandle" ∧ (parseMethodDescriptor yX6_figureAt.desc).map (fun d => d.parameters.length) = some 1 := by decide +kernel
set_option maxHeartbeats 4000000 in
set_option maxRecDepth 100000 in
theorem ct_X6_figureAt (l : Launch) (dC : Nat → ClassId) (dI : Nat → Nat → Nat) (cI cJ cB cZ : ClassId) (a_t a_t_signs : Nat) (t_length : Int32) (t_signs : (Nat → Int32)) (p1 : Int32) (rr : Int32) (u0 : Unit) (h : fn_X6_figureAt t_length t_signs p1 = some (rr, u0)) : zz_M l yX6_figureAt wsX6_figureAt ({ frames := 1, cells := 0, slots := 0, locals := 21 }) (dC, dI) (zz_T cI cJ cB cZ) [.ref a_t, .int p1] [(a_t, .inr (5, [.ref a_t_signs, .int t_length])), (a_t_signs, .inl (cB, 64, .inl t_signs))] (zz_QI (dC, dI) (zz_T cI cJ cB cZ) (rr, u0) (fun (u : Unit) => [(a_t, .inr (5, [.ref a_t_signs, .int t_length])), (a_t_signs, .inl (cB, 64, .inl t_signs))])) := by
  unfold fn_X6_figureAt at h
  refine zz_of (by decide) rfl (Nat.le_of_ble_eq_true rfl) ?_
  intro p e s m below meth c A ls hx hb hr hml hts hown hlocks hA hS hP hK hD hl
  have hown : s.vm.findClass RX6 = some m.cls := hown
  have hl : lv_has ls 2 [(0, .ref a_t), (1, .int p1)] := hl
  refine lv_aload_n hx hb dX6_figureAt_0 rfl (lv_at hl 0 rfl) ?_
  refine lv_iload_n hx hb dX6_figureAt_1 rfl (lv_at hl 1 rfl) ?_
  obtain ⟨x1, u2, he3, h⟩ := zz_b2E h
  refine zz_VI (q := (RX6, TX6, 2)) (As := [.int p1]) (rest := []) (wr := []) (wm := [(a_t, .inr (5, [.ref a_t_signs, .int t_length])), (a_t_signs, .inl (cB, 64, .inl t_signs))]) ⟨hx, hb, hml, hown, hts⟩ (ct_X6_signAt l dC dI cI cJ cB cZ a_t a_t_signs t_length t_signs p1 x1 u2 he3) gX6_figureAt_X6_signAt hd_X6_signAt rfl rfl rfl ⟨Nat.le_of_ble_eq_true rfl, Nat.le_of_ble_eq_true rfl⟩ ⟨Nat.le_of_ble_eq_true rfl, Nat.le_of_ble_eq_true rfl⟩ rfl rfl (Nat.le_of_ble_eq_true rfl) dX6_figureAt_2 hl.1 rfl (ci := 5) rfl (q0 := 0) rfl hP hK hD hS hA [0, 1] [] [0, 1] rfl rfl (by decide) (by decide) (by decide) (by decide) rfl (fun H locs hP hD hS => ?_)
  refine lv_bipush (v := 48) hx hb dX6_figureAt_5 (by decide) ?_
  refine lv_isub hx hb dX6_figureAt_7 ?_
  exact zz_iret () hx hb hr hlocks dX6_figureAt_8 (Option.some.inj h) hP hK hD hS
theorem hd_X6_sizeOfRule : yX6_sizeOfRule.cls ≠ "java/lang/invoke/MethodHandle" ∧ yX6_sizeOfRule.cls ≠ "java/lang/invoke/VarHandle" ∧ (parseMethodDescriptor yX6_sizeOfRule.desc).map (fun d => d.parameters.length) = some 1 := by decide +kernel
set_option maxHeartbeats 4000000 in
set_option maxRecDepth 100000 in
theorem ct_X6_sizeOfRule (l : Launch) (dC : Nat → ClassId) (dI : Nat → Nat → Nat) (cI cJ cB cZ : ClassId) (a_t a_t_signs : Nat) (t_length : Int32) (t_signs : (Nat → Int32)) (p1 : Int32) (rr : Int32) (u0 : Unit) (h : fn_X6_sizeOfRule t_length t_signs p1 = some (rr, u0)) : zz_M l yX6_sizeOfRule wsX6_sizeOfRule ({ frames := 1, cells := 0, slots := 0, locals := 21 }) (dC, dI) (zz_T cI cJ cB cZ) [.ref a_t, .int p1] [(a_t, .inr (5, [.ref a_t_signs, .int t_length])), (a_t_signs, .inl (cB, 64, .inl t_signs))] (zz_QI (dC, dI) (zz_T cI cJ cB cZ) (rr, u0) (fun (u : Unit) => [(a_t, .inr (5, [.ref a_t_signs, .int t_length])), (a_t_signs, .inl (cB, 64, .inl t_signs))])) := by
  unfold fn_X6_sizeOfRule at h
  refine zz_of (by decide) rfl (Nat.le_of_ble_eq_true rfl) ?_
  intro p e s m below meth c A ls hx hb hr hml hts hown hlocks hA hS hP hK hD hl
  have hown : s.vm.findClass RX6 = some m.cls := hown
  have hl : lv_has ls 2 [(0, .ref a_t), (1, .int p1)] := hl
  refine lv_aload_n hx hb dX6_sizeOfRule_0 rfl (lv_at hl 0 rfl) ?_
  refine lv_iload_n hx hb dX6_sizeOfRule_1 rfl (lv_at hl 1 rfl) ?_
  obtain ⟨x1, u2, he3, h⟩ := zz_b2E h
  refine zz_VI (q := (RX6, TX6, 2)) (As := [.int p1]) (rest := []) (wr := []) (wm := [(a_t, .inr (5, [.ref a_t_signs, .int t_length])), (a_t_signs, .inl (cB, 64, .inl t_signs))]) ⟨hx, hb, hml, hown, hts⟩ (ct_X6_signAt l dC dI cI cJ cB cZ a_t a_t_signs t_length t_signs p1 x1 u2 he3) gX6_sizeOfRule_X6_signAt hd_X6_signAt rfl rfl rfl ⟨Nat.le_of_ble_eq_true rfl, Nat.le_of_ble_eq_true rfl⟩ ⟨Nat.le_of_ble_eq_true rfl, Nat.le_of_ble_eq_true rfl⟩ rfl rfl (Nat.le_of_ble_eq_true rfl) dX6_sizeOfRule_2 hl.1 rfl (ci := 5) rfl (q0 := 0) rfl hP hK hD hS hA [0, 1] [] [0, 1] rfl rfl (by decide) (by decide) (by decide) (by decide) rfl (fun H locs hP hD hS => ?_)
  by_cases c4_0 : x1 = 69
  · have h := zz_if c4_0 h
    refine lv_lookup (tgt := 62) (off := 57) hx hb dX6_sizeOfRule_5 (by decide) (by rw [c4_0]; rfl) (by decide) ?_
    refine lv_iconst (v := 3) hx hb dX6_sizeOfRule_62 (by decide) ?_
    exact zz_iret () hx hb hr hlocks dX6_sizeOfRule_63 (Option.some.inj h) hP hK hD hS
  have h := zz_ifn c4_0 h
  by_cases c4_1 : x1 = 70
  · have h := zz_if c4_1 h
    refine lv_lookup (tgt := 59) (off := 54) hx hb dX6_sizeOfRule_5 (by decide) (by rw [c4_1]; rfl) (by decide) ?_
    refine lv_bipush (v := 7) hx hb dX6_sizeOfRule_59 (by decide) ?_
    exact zz_iret () hx hb hr hlocks dX6_sizeOfRule_61 (Option.some.inj h) hP hK hD hS
  have h := zz_ifn c4_1 h
  by_cases c4_2 : x1 = 72
  · have h := zz_if c4_2 h
    refine lv_lookup (tgt := 59) (off := 54) hx hb dX6_sizeOfRule_5 (by decide) (by rw [c4_2]; rfl) (by decide) ?_
    refine lv_bipush (v := 7) hx hb dX6_sizeOfRule_59 (by decide) ?_
    exact zz_iret () hx hb hr hlocks dX6_sizeOfRule_61 (Option.some.inj h) hP hK hD hS
  have h := zz_ifn c4_2 h
  by_cases c4_3 : x1 = 87
  · have h := zz_if c4_3 h
    refine lv_lookup (tgt := 56) (off := 51) hx hb dX6_sizeOfRule_5 (by decide) (by rw [c4_3]; rfl) (by decide) ?_
    refine lv_bipush (v := 6) hx hb dX6_sizeOfRule_56 (by decide) ?_
    exact zz_iret () hx hb hr hlocks dX6_sizeOfRule_58 (Option.some.inj h) hP hK hD hS
  have h := zz_ifn c4_3 h
  by_cases c4_4 : x1 = 89
  · have h := zz_if c4_4 h
    refine lv_lookup (tgt := 59) (off := 54) hx hb dX6_sizeOfRule_5 (by decide) (by rw [c4_4]; rfl) (by decide) ?_
    refine lv_bipush (v := 7) hx hb dX6_sizeOfRule_59 (by decide) ?_
    exact zz_iret () hx hb hr hlocks dX6_sizeOfRule_61 (Option.some.inj h) hP hK hD hS
  have h := zz_ifn c4_4 h
  have nc4_0 : ¬ (69 : Int) = x1.toInt := fun e => zz_ne (k := 69) rfl c4_0 e.symm
  have nc4_1 : ¬ (70 : Int) = x1.toInt := fun e => zz_ne (k := 70) rfl c4_1 e.symm
  have nc4_2 : ¬ (72 : Int) = x1.toInt := fun e => zz_ne (k := 72) rfl c4_2 e.symm
  have nc4_3 : ¬ (87 : Int) = x1.toInt := fun e => zz_ne (k := 87) rfl c4_3 e.symm
  have nc4_4 : ¬ (89 : Int) = x1.toInt := fun e => zz_ne (k := 89) rfl c4_4 e.symm
  refine lv_lookup (tgt := 64) (off := 59) hx hb dX6_sizeOfRule_5 (by decide) (by simp [Op.lookupswitch.offset, nc4_0, nc4_1, nc4_2, nc4_3, nc4_4]) (by decide) ?_
  refine lv_iconst (v := 0) hx hb dX6_sizeOfRule_64 (by decide) ?_
  exact zz_iret () hx hb hr hlocks dX6_sizeOfRule_65 (Option.some.inj h) hP hK hD hS
theorem hd_X6_fitsWeekday : yX6_fitsWeekday.cls ≠ "java/lang/invoke/MethodHandle" ∧ yX6_fitsWeekday.cls ≠ "java/lang/invoke/VarHandle" ∧ (parseMethodDescriptor yX6_fitsWeekday.desc).map (fun d => d.parameters.length) = some 3 := by decide +kernel
set_option maxHeartbeats 4000000 in
set_option maxRecDepth 100000 in
theorem ct_X6_fitsWeekday (l : Launch) (dC : Nat → ClassId) (dI : Nat → Nat → Nat) (cI cJ cB cZ : ClassId) (a_t a_t_signs : Nat) (t_length : Int32) (t_signs : (Nat → Int32)) (p1 : Int32) (p2 : Int32) (p3 : Int32) (rr : Int32) (u0 : Unit) (h : fn_X6_fitsWeekday t_length t_signs p1 p2 p3 = some (rr, u0)) : zz_M l yX6_fitsWeekday wsX6_fitsWeekday ({ frames := 2, cells := 0, slots := 0, locals := 42 }) (dC, dI) (zz_T cI cJ cB cZ) [.ref a_t, .int p1, .int p2, .int p3] [(a_t, .inr (5, [.ref a_t_signs, .int t_length])), (a_t_signs, .inl (cB, 64, .inl t_signs))] (zz_QI (dC, dI) (zz_T cI cJ cB cZ) (rr, u0) (fun (u : Unit) => [(a_t, .inr (5, [.ref a_t_signs, .int t_length])), (a_t_signs, .inl (cB, 64, .inl t_signs))])) := by
  unfold fn_X6_fitsWeekday at h
  refine zz_of (by decide) rfl (Nat.le_of_ble_eq_true rfl) ?_
  intro p e s m below meth c A ls hx hb hr hml hts hown hlocks hA hS hP hK hD hl
  have hown : s.vm.findClass RX6 = some m.cls := hown
  have hl : lv_has ls 4 [(0, .ref a_t), (1, .int p1), (2, .int p2), (3, .int p3)] := hl
  refine lv_iload_n hx hb dX6_fitsWeekday_0 rfl (lv_at hl 2 rfl) ?_
  by_cases c1_0 : p2 = 2
  · have h := zz_if c1_0 h
    refine lv_lookup (tgt := 28) (off := 27) hx hb dX6_fitsWeekday_1 (by decide) (by rw [c1_0]; rfl) (by decide) ?_
    refine lv_iload_n hx hb dX6_fitsWeekday_28 rfl (lv_at hl 3 rfl) ?_
    refine lv_bipush (v := 7) hx hb dX6_fitsWeekday_29 (by decide) ?_
    refine lv_icmp_ge (tgt := 38) hx hb dX6_fitsWeekday_31 (by decide) (fun c2 => ?_) (fun c2 => ?_)
    · have h := zz_if c2 h
      refine lv_iconst (v := 0) hx hb dX6_fitsWeekday_38 (by decide) ?_
      exact zz_zret () hx hb hr hlocks dX6_fitsWeekday_39 (by decide) (Option.some.inj h) hP hK hD hS
    · have h := zz_ifn c2 h
      refine lv_iconst (v := 1) hx hb dX6_fitsWeekday_34 (by decide) ?_
      refine lv_goto (tgt := 39) hx hb dX6_fitsWeekday_35 (by decide) ?_
      exact zz_zret () hx hb hr hlocks dX6_fitsWeekday_39 (by decide) (Option.some.inj h) hP hK hD hS
  have h := zz_ifn c1_0 h
  by_cases c1_1 : p2 = 3
  · have h := zz_if c1_1 h
    refine lv_lookup (tgt := 40) (off := 39) hx hb dX6_fitsWeekday_1 (by decide) (by rw [c1_1]; rfl) (by decide) ?_
    refine lv_iload_n hx hb dX6_fitsWeekday_40 rfl (lv_at hl 3 rfl) ?_
    refine lv_iconst (v := 1) hx hb dX6_fitsWeekday_41 (by decide) ?_
    refine lv_icmp_lt (tgt := 54) hx hb dX6_fitsWeekday_42 (by decide) (fun c3 => ?_) (fun c3 => ?_)
    · have h := zz_if c3 h
      refine lv_iconst (v := 0) hx hb dX6_fitsWeekday_54 (by decide) ?_
      exact zz_zret () hx hb hr hlocks dX6_fitsWeekday_55 (by decide) (Option.some.inj h) hP hK hD hS
    · have h := zz_ifn c3 h
      refine lv_iload_n hx hb dX6_fitsWeekday_45 rfl (lv_at hl 3 rfl) ?_
      refine lv_iconst (v := 4) hx hb dX6_fitsWeekday_46 (by decide) ?_
      refine lv_icmp_gt (tgt := 54) hx hb dX6_fitsWeekday_47 (by decide) (fun c4 => ?_) (fun c4 => ?_)
      · have h := zz_if c4 h
        refine lv_iconst (v := 0) hx hb dX6_fitsWeekday_54 (by decide) ?_
        exact zz_zret () hx hb hr hlocks dX6_fitsWeekday_55 (by decide) (Option.some.inj h) hP hK hD hS
      · have h := zz_ifn c4 h
        refine lv_iconst (v := 1) hx hb dX6_fitsWeekday_50 (by decide) ?_
        refine lv_goto (tgt := 55) hx hb dX6_fitsWeekday_51 (by decide) ?_
        exact zz_zret () hx hb hr hlocks dX6_fitsWeekday_55 (by decide) (Option.some.inj h) hP hK hD hS
  have h := zz_ifn c1_1 h
  have nc1_0 : ¬ (2 : Int) = p2.toInt := fun e => zz_ne (k := 2) rfl c1_0 e.symm
  have nc1_1 : ¬ (3 : Int) = p2.toInt := fun e => zz_ne (k := 3) rfl c1_1 e.symm
  refine lv_lookup (tgt := 56) (off := 55) hx hb dX6_fitsWeekday_1 (by decide) (by simp [Op.lookupswitch.offset, nc1_0, nc1_1]) (by decide) ?_
  refine lv_iload_n hx hb dX6_fitsWeekday_56 rfl (lv_at hl 3 rfl) ?_
  refine lv_aload_n hx hb dX6_fitsWeekday_57 rfl (lv_at hl 0 rfl) ?_
  refine lv_iload_n hx hb dX6_fitsWeekday_58 rfl (lv_at hl 1 rfl) ?_
  refine lv_iconst (v := 3) hx hb dX6_fitsWeekday_59 (by decide) ?_
  refine lv_iadd hx hb dX6_fitsWeekday_60 ?_
  obtain ⟨x5, u6, he7, h⟩ := zz_b2E h
  refine zz_VI (q := (RX6, TX6, 2)) (As := [.int (p1 + 3)]) (rest := [.int p3]) (wr := []) (wm := [(a_t, .inr (5, [.ref a_t_signs, .int t_length])), (a_t_signs, .inl (cB, 64, .inl t_signs))]) ⟨hx, hb, hml, hown, hts⟩ (ct_X6_figureAt l dC dI cI cJ cB cZ a_t a_t_signs t_length t_signs (p1 + 3) x5 u6 he7) gX6_fitsWeekday_X6_figureAt hd_X6_figureAt rfl rfl rfl ⟨Nat.le_of_ble_eq_true rfl, Nat.le_of_ble_eq_true rfl⟩ ⟨Nat.le_of_ble_eq_true rfl, Nat.le_of_ble_eq_true rfl⟩ rfl rfl (Nat.le_of_ble_eq_true rfl) dX6_fitsWeekday_61 hl.1 rfl (ci := 5) rfl (q0 := 0) rfl hP hK hD hS hA [0, 1] [] [0, 1] rfl rfl (by decide) (by decide) (by decide) (by decide) rfl (fun H locs hP hD hS => ?_)
  refine lv_icmp_ge (tgt := 71) hx hb dX6_fitsWeekday_64 (by decide) (fun c8 => ?_) (fun c8 => ?_)
  · have h := zz_if c8 h
    refine lv_iconst (v := 0) hx hb dX6_fitsWeekday_71 (by decide) ?_
    exact zz_zret () hx hb hr hlocks dX6_fitsWeekday_72 (by decide) (Option.some.inj h) hP hK hD hS
  · have h := zz_ifn c8 h
    refine lv_iconst (v := 1) hx hb dX6_fitsWeekday_67 (by decide) ?_
    refine lv_goto (tgt := 72) hx hb dX6_fitsWeekday_68 (by decide) ?_
    exact zz_zret () hx hb hr hlocks dX6_fitsWeekday_72 (by decide) (Option.some.inj h) hP hK hD hS
theorem hd_X6_nightAt : yX6_nightAt.cls ≠ "java/lang/invoke/MethodHandle" ∧ yX6_nightAt.cls ≠ "java/lang/invoke/VarHandle" ∧ (parseMethodDescriptor yX6_nightAt.desc).map (fun d => d.parameters.length) = some 1 := by decide +kernel
set_option maxHeartbeats 4000000 in
set_option maxRecDepth 100000 in
theorem ct_X6_nightAt (l : Launch) (dC : Nat → ClassId) (dI : Nat → Nat → Nat) (cI cJ cB cZ : ClassId) (a_t a_t_signs : Nat) (t_length : Int32) (t_signs : (Nat → Int32)) (p1 : Int32) (rr : Int32) (u0 : Unit) (h : fn_X6_nightAt t_length t_signs p1 = some (rr, u0)) : zz_M l yX6_nightAt wsX6_nightAt ({ frames := 2, cells := 0, slots := 0, locals := 42 }) (dC, dI) (zz_T cI cJ cB cZ) [.ref a_t, .int p1] [(a_t, .inr (5, [.ref a_t_signs, .int t_length])), (a_t_signs, .inl (cB, 64, .inl t_signs))] (zz_QI (dC, dI) (zz_T cI cJ cB cZ) (rr, u0) (fun (u : Unit) => [(a_t, .inr (5, [.ref a_t_signs, .int t_length])), (a_t_signs, .inl (cB, 64, .inl t_signs))])) := by
  unfold fn_X6_nightAt at h
  refine zz_of (by decide) rfl (Nat.le_of_ble_eq_true rfl) ?_
  intro p e s m below meth c A ls hx hb hr hml hts hown hlocks hA hS hP hK hD hl
  have hown : s.vm.findClass RX6 = some m.cls := hown
  have hl : lv_has ls 2 [(0, .ref a_t), (1, .int p1)] := hl
  refine lv_aload_n hx hb dX6_nightAt_0 rfl (lv_at hl 0 rfl) ?_
  refine lv_iload_n hx hb dX6_nightAt_1 rfl (lv_at hl 1 rfl) ?_
  obtain ⟨x1, u2, he3, h⟩ := zz_b2E h
  refine zz_VI (q := (RX6, TX6, 2)) (As := [.int p1]) (rest := []) (wr := []) (wm := [(a_t, .inr (5, [.ref a_t_signs, .int t_length])), (a_t_signs, .inl (cB, 64, .inl t_signs))]) ⟨hx, hb, hml, hown, hts⟩ (ct_X6_figureAt l dC dI cI cJ cB cZ a_t a_t_signs t_length t_signs p1 x1 u2 he3) gX6_nightAt_X6_figureAt hd_X6_figureAt rfl rfl rfl ⟨Nat.le_of_ble_eq_true rfl, Nat.le_of_ble_eq_true rfl⟩ ⟨Nat.le_of_ble_eq_true rfl, Nat.le_of_ble_eq_true rfl⟩ rfl rfl (Nat.le_of_ble_eq_true rfl) dX6_nightAt_2 hl.1 rfl (ci := 5) rfl (q0 := 0) rfl hP hK hD hS hA [0, 1] [] [0, 1] rfl rfl (by decide) (by decide) (by decide) (by decide) rfl (fun H locs hP hD hS => ?_)
  refine lv_bipush (v := 10) hx hb dX6_nightAt_5 (by decide) ?_
  refine lv_imul hx hb dX6_nightAt_7 ?_
  refine lv_aload_n hx hb dX6_nightAt_8 rfl (lv_at hl 0 rfl) ?_
  refine lv_iload_n hx hb dX6_nightAt_9 rfl (lv_at hl 1 rfl) ?_
  refine lv_iconst (v := 1) hx hb dX6_nightAt_10 (by decide) ?_
  refine lv_iadd hx hb dX6_nightAt_11 ?_
  obtain ⟨x4, u5, he6, h⟩ := zz_b2E h
  refine zz_VI (q := (RX6, TX6, 2)) (As := [.int (p1 + 1)]) (rest := [.int (x1 * 10)]) (wr := []) (wm := [(a_t, .inr (5, [.ref a_t_signs, .int t_length])), (a_t_signs, .inl (cB, 64, .inl t_signs))]) ⟨hx, hb, hml, hown, hts⟩ (ct_X6_figureAt l dC dI cI cJ cB cZ a_t a_t_signs t_length t_signs (p1 + 1) x4 u5 he6) gX6_nightAt_X6_figureAt hd_X6_figureAt rfl rfl rfl ⟨Nat.le_of_ble_eq_true rfl, Nat.le_of_ble_eq_true rfl⟩ ⟨Nat.le_of_ble_eq_true rfl, Nat.le_of_ble_eq_true rfl⟩ rfl rfl (Nat.le_of_ble_eq_true rfl) dX6_nightAt_12 hl.1 rfl (ci := 5) rfl (q0 := 0) rfl hP hK hD hS hA [0, 1] [] [0, 1] rfl rfl (by decide) (by decide) (by decide) (by decide) rfl (fun H locs hP hD hS => ?_)
  refine lv_iadd hx hb dX6_nightAt_15 ?_
  exact zz_iret () hx hb hr hlocks dX6_nightAt_16 (Option.some.inj h) hP hK hD hS
theorem hd_X6_fitsSpan : yX6_fitsSpan.cls ≠ "java/lang/invoke/MethodHandle" ∧ yX6_fitsSpan.cls ≠ "java/lang/invoke/VarHandle" ∧ (parseMethodDescriptor yX6_fitsSpan.desc).map (fun d => d.parameters.length) = some 3 := by decide +kernel
set_option maxHeartbeats 4000000 in
set_option maxRecDepth 100000 in
theorem ct_X6_fitsSpan (l : Launch) (dC : Nat → ClassId) (dI : Nat → Nat → Nat) (cI cJ cB cZ : ClassId) (a_t a_t_signs : Nat) (t_length : Int32) (t_signs : (Nat → Int32)) (p1 : Int32) (p2 : Int32) (p3 : Int32) (rr : Int32) (u0 : Unit) (h : fn_X6_fitsSpan t_length t_signs p1 p2 p3 = some (rr, u0)) : zz_M l yX6_fitsSpan wsX6_fitsSpan ({ frames := 3, cells := 0, slots := 0, locals := 63 }) (dC, dI) (zz_T cI cJ cB cZ) [.ref a_t, .int p1, .int p2, .int p3] [(a_t, .inr (5, [.ref a_t_signs, .int t_length])), (a_t_signs, .inl (cB, 64, .inl t_signs))] (zz_QI (dC, dI) (zz_T cI cJ cB cZ) (rr, u0) (fun (u : Unit) => [(a_t, .inr (5, [.ref a_t_signs, .int t_length])), (a_t_signs, .inl (cB, 64, .inl t_signs))])) := by
  unfold fn_X6_fitsSpan at h
  refine zz_of (by decide) rfl (Nat.le_of_ble_eq_true rfl) ?_
  intro p e s m below meth c A ls hx hb hr hml hts hown hlocks hA hS hP hK hD hl
  have hown : s.vm.findClass RX6 = some m.cls := hown
  have hl : lv_has ls 6 [(0, .ref a_t), (1, .int p1), (2, .int p2), (3, .int p3)] := hl
  refine lv_aload_n hx hb dX6_fitsSpan_0 rfl (lv_at hl 0 rfl) ?_
  refine lv_iload_n hx hb dX6_fitsSpan_1 rfl (lv_at hl 1 rfl) ?_
  refine lv_iconst (v := 2) hx hb dX6_fitsSpan_2 (by decide) ?_
  refine lv_iadd hx hb dX6_fitsSpan_3 ?_
  obtain ⟨x1, u2, he3, h⟩ := zz_b2E h
  refine zz_VI (q := (RX6, TX6, 2)) (As := [.int (p1 + 2)]) (rest := []) (wr := []) (wm := [(a_t, .inr (5, [.ref a_t_signs, .int t_length])), (a_t_signs, .inl (cB, 64, .inl t_signs))]) ⟨hx, hb, hml, hown, hts⟩ (ct_X6_figureAt l dC dI cI cJ cB cZ a_t a_t_signs t_length t_signs (p1 + 2) x1 u2 he3) gX6_fitsSpan_X6_figureAt hd_X6_figureAt rfl rfl rfl ⟨Nat.le_of_ble_eq_true rfl, Nat.le_of_ble_eq_true rfl⟩ ⟨Nat.le_of_ble_eq_true rfl, Nat.le_of_ble_eq_true rfl⟩ rfl rfl (Nat.le_of_ble_eq_true rfl) dX6_fitsSpan_4 hl.1 rfl (ci := 5) rfl (q0 := 0) rfl hP hK hD hS hA [0, 1] [] [0, 1] rfl rfl (by decide) (by decide) (by decide) (by decide) rfl (fun H locs hP hD hS => ?_)
  refine lv_istore (lv' := [(4, .int x1), (0, .ref a_t), (1, .int p1), (2, .int p2), (3, .int p3)]) hx hb dX6_fitsSpan_7 hl (by decide) rfl (fun ls hl => ?_)
  refine lv_iload_n hx hb dX6_fitsSpan_9 rfl (lv_at hl 3 rfl) ?_
  by_cases c4_0 : p2 = 2
  · have h := zz_if c4_0 h
    refine lv_tableIn (tgt := 36) hx hb dX6_fitsSpan_10 (by rw [c4_0]; decide) (by rw [c4_0]; decide) (off := 26) (by rw [c4_0]; rfl) (by decide) ?_
    refine lv_iload_n hx hb dX6_fitsSpan_36 rfl (lv_at hl 4 rfl) ?_
    refine lv_iconst (v := 5) hx hb dX6_fitsSpan_37 (by decide) ?_
    refine lv_icmp_gt (tgt := 45) hx hb dX6_fitsSpan_38 (by decide) (fun c5 => ?_) (fun c5 => ?_)
    · have h := zz_if c5 h
      refine lv_iconst (v := 0) hx hb dX6_fitsSpan_45 (by decide) ?_
      exact zz_zret () hx hb hr hlocks dX6_fitsSpan_46 (by decide) (Option.some.inj h) hP hK hD hS
    · have h := zz_ifn c5 h
      refine lv_iconst (v := 1) hx hb dX6_fitsSpan_41 (by decide) ?_
      refine lv_goto (tgt := 46) hx hb dX6_fitsSpan_42 (by decide) ?_
      exact zz_zret () hx hb hr hlocks dX6_fitsSpan_46 (by decide) (Option.some.inj h) hP hK hD hS
  have h := zz_ifn c4_0 h
  by_cases c4_1 : p2 = 3
  · have h := zz_if c4_1 h
    refine lv_tableIn (tgt := 47) hx hb dX6_fitsSpan_10 (by rw [c4_1]; decide) (by rw [c4_1]; decide) (off := 37) (by rw [c4_1]; rfl) (by decide) ?_
    refine lv_iload hx hb dX6_fitsSpan_47 (lv_at hl 0 rfl) ?_
    refine lv_bipush (v := 10) hx hb dX6_fitsSpan_49 (by decide) ?_
    refine lv_imul hx hb dX6_fitsSpan_51 ?_
    refine lv_iload_n hx hb dX6_fitsSpan_52 rfl (lv_at hl 4 rfl) ?_
    refine lv_iadd hx hb dX6_fitsSpan_53 ?_
    refine lv_bipush (v := 56) hx hb dX6_fitsSpan_54 (by decide) ?_
    refine lv_icmp_ge (tgt := 63) hx hb dX6_fitsSpan_56 (by decide) (fun c6 => ?_) (fun c6 => ?_)
    · have h := zz_if c6 h
      refine lv_iconst (v := 0) hx hb dX6_fitsSpan_63 (by decide) ?_
      exact zz_zret () hx hb hr hlocks dX6_fitsSpan_64 (by decide) (Option.some.inj h) hP hK hD hS
    · have h := zz_ifn c6 h
      refine lv_iconst (v := 1) hx hb dX6_fitsSpan_59 (by decide) ?_
      refine lv_goto (tgt := 64) hx hb dX6_fitsSpan_60 (by decide) ?_
      exact zz_zret () hx hb hr hlocks dX6_fitsSpan_64 (by decide) (Option.some.inj h) hP hK hD hS
  have h := zz_ifn c4_1 h
  by_cases c4_2 : p2 = 4
  · have h := zz_if c4_2 h
    refine lv_tableIn (tgt := 65) hx hb dX6_fitsSpan_10 (by rw [c4_2]; decide) (by rw [c4_2]; decide) (off := 55) (by rw [c4_2]; rfl) (by decide) ?_
    refine lv_iload_n hx hb dX6_fitsSpan_65 rfl (lv_at hl 4 rfl) ?_
    refine lv_iload hx hb dX6_fitsSpan_66 (lv_at hl 0 rfl) ?_
    refine lv_icmp_lt (tgt := 80) hx hb dX6_fitsSpan_68 (by decide) (fun c7 => ?_) (fun c7 => ?_)
    · have h := zz_if c7 h
      refine lv_iconst (v := 0) hx hb dX6_fitsSpan_80 (by decide) ?_
      exact zz_zret () hx hb hr hlocks dX6_fitsSpan_81 (by decide) (Option.some.inj h) hP hK hD hS
    · have h := zz_ifn c7 h
      refine lv_iload_n hx hb dX6_fitsSpan_71 rfl (lv_at hl 4 rfl) ?_
      refine lv_iconst (v := 5) hx hb dX6_fitsSpan_72 (by decide) ?_
      refine lv_icmp_gt (tgt := 80) hx hb dX6_fitsSpan_73 (by decide) (fun c8 => ?_) (fun c8 => ?_)
      · have h := zz_if c8 h
        refine lv_iconst (v := 0) hx hb dX6_fitsSpan_80 (by decide) ?_
        exact zz_zret () hx hb hr hlocks dX6_fitsSpan_81 (by decide) (Option.some.inj h) hP hK hD hS
      · have h := zz_ifn c8 h
        refine lv_iconst (v := 1) hx hb dX6_fitsSpan_76 (by decide) ?_
        refine lv_goto (tgt := 81) hx hb dX6_fitsSpan_77 (by decide) ?_
        exact zz_zret () hx hb hr hlocks dX6_fitsSpan_81 (by decide) (Option.some.inj h) hP hK hD hS
  have h := zz_ifn c4_2 h
  have nc4_0 := zz_ne (k := 2) rfl c4_0
  have nc4_1 := zz_ne (k := 3) rfl c4_1
  have nc4_2 := zz_ne (k := 4) rfl c4_2
  refine lv_tableOut (tgt := 82) hx hb dX6_fitsSpan_10 (by omega) (by decide) ?_
  refine lv_aload_n hx hb dX6_fitsSpan_82 rfl (lv_at hl 1 rfl) ?_
  refine lv_iload_n hx hb dX6_fitsSpan_83 rfl (lv_at hl 2 rfl) ?_
  refine lv_iconst (v := 4) hx hb dX6_fitsSpan_84 (by decide) ?_
  refine lv_iadd hx hb dX6_fitsSpan_85 ?_
  obtain ⟨x9, u10, he11, h⟩ := zz_b2E h
  refine zz_VI (q := (RX6, TX6, 2)) (As := [.int (p1 + 4)]) (rest := []) (wr := []) (wm := [(a_t, .inr (5, [.ref a_t_signs, .int t_length])), (a_t_signs, .inl (cB, 64, .inl t_signs))]) ⟨hx, hb, hml, hown, hts⟩ (ct_X6_figureAt l dC dI cI cJ cB cZ a_t a_t_signs t_length t_signs (p1 + 4) x9 u10 he11) gX6_fitsSpan_X6_figureAt hd_X6_figureAt rfl rfl rfl ⟨Nat.le_of_ble_eq_true rfl, Nat.le_of_ble_eq_true rfl⟩ ⟨Nat.le_of_ble_eq_true rfl, Nat.le_of_ble_eq_true rfl⟩ rfl rfl (Nat.le_of_ble_eq_true rfl) dX6_fitsSpan_86 hl.1 rfl (ci := 5) rfl (q0 := 0) rfl hP hK hD hS hA [0, 1] [] [0, 1] rfl rfl (by decide) (by decide) (by decide) (by decide) rfl (fun H locs hP hD hS => ?_)
  refine lv_bipush (v := 10) hx hb dX6_fitsSpan_89 (by decide) ?_
  refine lv_imul hx hb dX6_fitsSpan_91 ?_
  refine lv_iload_n hx hb dX6_fitsSpan_92 rfl (lv_at hl 4 rfl) ?_
  refine lv_iadd hx hb dX6_fitsSpan_93 ?_
  refine lv_topi (fun x12 ex12 => ?_)
  have h := zz_nmE ex12 h
  refine lv_istore (lv' := [(5, .int x12), (4, .int x1), (0, .ref a_t), (1, .int p1), (2, .int p2), (3, .int p3)]) hx hb dX6_fitsSpan_94 hl (by decide) rfl (fun ls hl => ?_)
  refine lv_iload hx hb dX6_fitsSpan_96 (lv_at hl 0 rfl) ?_
  refine lv_aload_n hx hb dX6_fitsSpan_98 rfl (lv_at hl 2 rfl) ?_
  refine lv_iload_n hx hb dX6_fitsSpan_99 rfl (lv_at hl 3 rfl) ?_
  refine lv_iconst (v := 2) hx hb dX6_fitsSpan_100 (by decide) ?_
  refine lv_iadd hx hb dX6_fitsSpan_101 ?_
  obtain ⟨x13, u14, he15, h⟩ := zz_b2E h
  refine zz_VI (q := (RX6, TX6, 2)) (As := [.int (p1 + 2)]) (rest := [.int x12]) (wr := []) (wm := [(a_t, .inr (5, [.ref a_t_signs, .int t_length])), (a_t_signs, .inl (cB, 64, .inl t_signs))]) ⟨hx, hb, hml, hown, hts⟩ (ct_X6_nightAt l dC dI cI cJ cB cZ a_t a_t_signs t_length t_signs (p1 + 2) x13 u14 he15) gX6_fitsSpan_X6_nightAt hd_X6_nightAt rfl rfl rfl ⟨Nat.le_of_ble_eq_true rfl, Nat.le_of_ble_eq_true rfl⟩ ⟨Nat.le_of_ble_eq_true rfl, Nat.le_of_ble_eq_true rfl⟩ rfl rfl (Nat.le_of_ble_eq_true rfl) dX6_fitsSpan_102 hl.1 rfl (ci := 5) rfl (q0 := 0) rfl hP hK hD hS hA [0, 1] [] [0, 1] rfl rfl (by decide) (by decide) (by decide) (by decide) rfl (fun H locs hP hD hS => ?_)
  refine lv_icmp_lt (tgt := 119) hx hb dX6_fitsSpan_105 (by decide) (fun c16 => ?_) (fun c16 => ?_)
  · have h := zz_if c16 h
    refine lv_iconst (v := 0) hx hb dX6_fitsSpan_119 (by decide) ?_
    exact zz_zret () hx hb hr hlocks dX6_fitsSpan_120 (by decide) (Option.some.inj h) hP hK hD hS
  · have h := zz_ifn c16 h
    refine lv_iload hx hb dX6_fitsSpan_108 (lv_at hl 0 rfl) ?_
    refine lv_bipush (v := 56) hx hb dX6_fitsSpan_110 (by decide) ?_
    refine lv_icmp_ge (tgt := 119) hx hb dX6_fitsSpan_112 (by decide) (fun c17 => ?_) (fun c17 => ?_)
    · have h := zz_if c17 h
      refine lv_iconst (v := 0) hx hb dX6_fitsSpan_119 (by decide) ?_
      exact zz_zret () hx hb hr hlocks dX6_fitsSpan_120 (by decide) (Option.some.inj h) hP hK hD hS
    · have h := zz_ifn c17 h
      refine lv_iconst (v := 1) hx hb dX6_fitsSpan_115 (by decide) ?_
      refine lv_goto (tgt := 120) hx hb dX6_fitsSpan_116 (by decide) ?_
      exact zz_zret () hx hb hr hlocks dX6_fitsSpan_120 (by decide) (Option.some.inj h) hP hK hD hS
theorem hd_X6_fits : yX6_fits.cls ≠ "java/lang/invoke/MethodHandle" ∧ yX6_fits.cls ≠ "java/lang/invoke/VarHandle" ∧ (parseMethodDescriptor yX6_fits.desc).map (fun d => d.parameters.length) = some 2 := by decide +kernel
set_option maxHeartbeats 4000000 in
set_option maxRecDepth 100000 in
theorem ct_X6_fits (l : Launch) (dC : Nat → ClassId) (dI : Nat → Nat → Nat) (cI cJ cB cZ : ClassId) (a_t a_t_signs : Nat) (t_length : Int32) (t_signs : (Nat → Int32)) (p1 : Int32) (p2 : Int32) (rr : Int32) (u0 : Unit) (h : fn_X6_fits t_length t_signs p1 p2 = some (rr, u0)) : zz_M l yX6_fits wsX6_fits ({ frames := 4, cells := 0, slots := 0, locals := 88 }) (dC, dI) (zz_T cI cJ cB cZ) [.ref a_t, .int p1, .int p2] [(a_t, .inr (5, [.ref a_t_signs, .int t_length])), (a_t_signs, .inl (cB, 64, .inl t_signs))] (zz_QI (dC, dI) (zz_T cI cJ cB cZ) (rr, u0) (fun (u : Unit) => [(a_t, .inr (5, [.ref a_t_signs, .int t_length])), (a_t_signs, .inl (cB, 64, .inl t_signs))])) := by
  unfold fn_X6_fits at h
  refine zz_of (by decide) rfl (Nat.le_of_ble_eq_true rfl) ?_
  intro p e s m below meth c A ls hx hb hr hml hts hown hlocks hA hS hP hK hD hl
  have hown : s.vm.findClass RX6 = some m.cls := hown
  have hl : lv_has ls 5 [(0, .ref a_t), (1, .int p1), (2, .int p2)] := hl
  refine lv_aload_n hx hb dX6_fits_0 rfl (lv_at hl 0 rfl) ?_
  refine lv_iload_n hx hb dX6_fits_1 rfl (lv_at hl 2 rfl) ?_
  obtain ⟨x1, u2, he3, h⟩ := zz_b2E h
  refine zz_VI (q := (RX6, TX6, 2)) (As := [.int p2]) (rest := []) (wr := []) (wm := [(a_t, .inr (5, [.ref a_t_signs, .int t_length])), (a_t_signs, .inl (cB, 64, .inl t_signs))]) ⟨hx, hb, hml, hown, hts⟩ (ct_X6_figureAt l dC dI cI cJ cB cZ a_t a_t_signs t_length t_signs p2 x1 u2 he3) gX6_fits_X6_figureAt hd_X6_figureAt rfl rfl rfl ⟨Nat.le_of_ble_eq_true rfl, Nat.le_of_ble_eq_true rfl⟩ ⟨Nat.le_of_ble_eq_true rfl, Nat.le_of_ble_eq_true rfl⟩ rfl rfl (Nat.le_of_ble_eq_true rfl) dX6_fits_2 hl.1 rfl (ci := 5) rfl (q0 := 0) rfl hP hK hD hS hA [0, 1] [] [0, 1] rfl rfl (by decide) (by decide) (by decide) (by decide) rfl (fun H locs hP hD hS => ?_)
  refine lv_istore_n (lv' := [(3, .int x1), (0, .ref a_t), (1, .int p1), (2, .int p2)]) hx hb dX6_fits_5 rfl hl (by decide) rfl (fun ls hl => ?_)
  refine lv_iload_n hx hb dX6_fits_6 rfl (lv_at hl 3 rfl) ?_
  refine lv_iload_n hx hb dX6_fits_7 rfl (lv_at hl 2 rfl) ?_
  refine lv_isub hx hb dX6_fits_8 ?_
  refine lv_topi (fun x4 ex4 => ?_)
  have h := zz_nmE ex4 h
  refine lv_istore (lv' := [(4, .int x4), (3, .int x1), (0, .ref a_t), (1, .int p1), (2, .int p2)]) hx hb dX6_fits_9 hl (by decide) rfl (fun ls hl => ?_)
  refine lv_iload_n hx hb dX6_fits_11 rfl (lv_at hl 1 rfl) ?_
  refine lv_if_lt (tgt := 21) hx hb dX6_fits_12 (by decide) (fun c5 => ?_) (fun c5 => ?_)
  · have h := zz_if c5 h
    refine lv_iconst (v := 0) hx hb dX6_fits_21 (by decide) ?_
    exact zz_zret () hx hb hr hlocks dX6_fits_22 (by decide) (Option.some.inj h) hP hK hD hS
  · have h := zz_ifn c5 h
    refine lv_iload_n hx hb dX6_fits_15 rfl (lv_at hl 1 rfl) ?_
    refine lv_bipush (v := 9) hx hb dX6_fits_16 (by decide) ?_
    refine lv_icmp_le (tgt := 23) hx hb dX6_fits_18 (by decide) (fun c6 => ?_) (fun c6 => ?_)
    · have h := zz_if c6 h
      refine lv_iload hx hb dX6_fits_23 (lv_at hl 0 rfl) ?_
      refine lv_iconst (v := 1) hx hb dX6_fits_25 (by decide) ?_
      refine lv_icmp_ne (tgt := 31) hx hb dX6_fits_26 (by decide) (fun c7 => ?_) (fun c7 => ?_)
      · have h := zz_ifn c7 h
        refine lv_iload hx hb dX6_fits_31 (lv_at hl 0 rfl) ?_
        refine lv_aload_n hx hb dX6_fits_33 rfl (lv_at hl 2 rfl) ?_
        refine lv_iload_n hx hb dX6_fits_34 rfl (lv_at hl 3 rfl) ?_
        obtain ⟨x8, u9, he10, h⟩ := zz_b2E h
        refine zz_VI (q := (RX6, TX6, 2)) (As := [.int p1]) (rest := [.int x4]) (wr := []) (wm := [(a_t, .inr (5, [.ref a_t_signs, .int t_length])), (a_t_signs, .inl (cB, 64, .inl t_signs))]) ⟨hx, hb, hml, hown, hts⟩ (ct_X6_sizeOfRule l dC dI cI cJ cB cZ a_t a_t_signs t_length t_signs p1 x8 u9 he10) gX6_fits_X6_sizeOfRule hd_X6_sizeOfRule rfl rfl rfl ⟨Nat.le_of_ble_eq_true rfl, Nat.le_of_ble_eq_true rfl⟩ ⟨Nat.le_of_ble_eq_true rfl, Nat.le_of_ble_eq_true rfl⟩ rfl rfl (Nat.le_of_ble_eq_true rfl) dX6_fits_35 hl.1 rfl (ci := 5) rfl (q0 := 0) rfl hP hK hD hS hA [0, 1] [] [0, 1] rfl rfl (by decide) (by decide) (by decide) (by decide) rfl (fun H locs hP hD hS => ?_)
        refine lv_iconst (v := 1) hx hb dX6_fits_38 (by decide) ?_
        refine lv_isub hx hb dX6_fits_39 ?_
        refine lv_icmp_ne (tgt := 54) hx hb dX6_fits_40 (by decide) (fun c11 => ?_) (fun c11 => ?_)
        · have h := zz_ifn c11 h
          refine lv_aload_n hx hb dX6_fits_54 rfl (lv_at hl 2 rfl) ?_
          refine lv_iload_n hx hb dX6_fits_55 rfl (lv_at hl 3 rfl) ?_
          obtain ⟨x12, u13, he14, h⟩ := zz_b2E h
          refine zz_VI (q := (RX6, TX6, 2)) (As := [.int p1]) (rest := []) (wr := []) (wm := [(a_t, .inr (5, [.ref a_t_signs, .int t_length])), (a_t_signs, .inl (cB, 64, .inl t_signs))]) ⟨hx, hb, hml, hown, hts⟩ (ct_X6_signAt l dC dI cI cJ cB cZ a_t a_t_signs t_length t_signs p1 x12 u13 he14) gX6_fits_X6_signAt hd_X6_signAt rfl rfl rfl ⟨Nat.le_of_ble_eq_true rfl, Nat.le_of_ble_eq_true rfl⟩ ⟨Nat.le_of_ble_eq_true rfl, Nat.le_of_ble_eq_true rfl⟩ rfl rfl (Nat.le_of_ble_eq_true rfl) dX6_fits_56 hl.1 rfl (ci := 5) rfl (q0 := 0) rfl hP hK hD hS hA [0, 1] [] [0, 1] rfl rfl (by decide) (by decide) (by decide) (by decide) rfl (fun H locs hP hD hS => ?_)
          refine lv_bipush (v := 87) hx hb dX6_fits_59 (by decide) ?_
          refine lv_icmp_ne (tgt := 75) hx hb dX6_fits_61 (by decide) (fun c15 => ?_) (fun c15 => ?_)
          · have h := zz_ifn c15 h
            refine lv_aload_n hx hb dX6_fits_75 rfl (lv_at hl 2 rfl) ?_
            refine lv_iload_n hx hb dX6_fits_76 rfl (lv_at hl 3 rfl) ?_
            refine lv_iload hx hb dX6_fits_77 (lv_at hl 0 rfl) ?_
            refine lv_iload_n hx hb dX6_fits_79 rfl (lv_at hl 1 rfl) ?_
            obtain ⟨x16, u17, he18, h⟩ := zz_b2E h
            refine zz_VI (q := (RX6, TX6, 2)) (As := [.int p1, .int x4, .int x1]) (rest := []) (wr := []) (wm := [(a_t, .inr (5, [.ref a_t_signs, .int t_length])), (a_t_signs, .inl (cB, 64, .inl t_signs))]) ⟨hx, hb, hml, hown, hts⟩ (ct_X6_fitsSpan l dC dI cI cJ cB cZ a_t a_t_signs t_length t_signs p1 x4 x1 x16 u17 he18) gX6_fits_X6_fitsSpan hd_X6_fitsSpan rfl rfl rfl ⟨Nat.le_of_ble_eq_true rfl, Nat.le_of_ble_eq_true rfl⟩ ⟨Nat.le_of_ble_eq_true rfl, Nat.le_of_ble_eq_true rfl⟩ rfl rfl (Nat.le_of_ble_eq_true rfl) dX6_fits_80 hl.1 rfl (ci := 5) rfl (q0 := 0) rfl hP hK hD hS hA [0, 1] [] [0, 1] rfl rfl (by decide) (by decide) (by decide) (by decide) rfl (fun H locs hP hD hS => ?_)
            obtain ⟨hv, h⟩ := zz_blE h
            exact zz_zret () hx hb hr hlocks dX6_fits_83 hv (Option.some.inj h) hP hK hD hS
          · have h := zz_if c15 h
            refine lv_aload_n hx hb dX6_fits_64 rfl (lv_at hl 2 rfl) ?_
            refine lv_iload_n hx hb dX6_fits_65 rfl (lv_at hl 3 rfl) ?_
            refine lv_iload hx hb dX6_fits_66 (lv_at hl 0 rfl) ?_
            refine lv_iload_n hx hb dX6_fits_68 rfl (lv_at hl 1 rfl) ?_
            obtain ⟨x19, u20, he21, h⟩ := zz_b2E h
            refine zz_VI (q := (RX6, TX6, 2)) (As := [.int p1, .int x4, .int x1]) (rest := []) (wr := []) (wm := [(a_t, .inr (5, [.ref a_t_signs, .int t_length])), (a_t_signs, .inl (cB, 64, .inl t_signs))]) ⟨hx, hb, hml, hown, hts⟩ (ct_X6_fitsWeekday l dC dI cI cJ cB cZ a_t a_t_signs t_length t_signs p1 x4 x1 x19 u20 he21) gX6_fits_X6_fitsWeekday hd_X6_fitsWeekday rfl rfl rfl ⟨Nat.le_of_ble_eq_true rfl, Nat.le_of_ble_eq_true rfl⟩ ⟨Nat.le_of_ble_eq_true rfl, Nat.le_of_ble_eq_true rfl⟩ rfl rfl (Nat.le_of_ble_eq_true rfl) dX6_fits_69 hl.1 rfl (ci := 5) rfl (q0 := 0) rfl hP hK hD hS hA [0, 1] [] [0, 1] rfl rfl (by decide) (by decide) (by decide) (by decide) rfl (fun H locs hP hD hS => ?_)
            refine lv_goto (tgt := 83) hx hb dX6_fits_72 (by decide) ?_
            obtain ⟨hv, h⟩ := zz_blE h
            exact zz_zret () hx hb hr hlocks dX6_fits_83 hv (Option.some.inj h) hP hK hD hS
        · have h := zz_if c11 h
          refine lv_iload_n hx hb dX6_fits_43 rfl (lv_at hl 1 rfl) ?_
          refine lv_iconst (v := 2) hx hb dX6_fits_44 (by decide) ?_
          refine lv_icmp_ge (tgt := 52) hx hb dX6_fits_45 (by decide) (fun c22 => ?_) (fun c22 => ?_)
          · have h := zz_if c22 h
            refine lv_iconst (v := 0) hx hb dX6_fits_52 (by decide) ?_
            exact zz_zret () hx hb hr hlocks dX6_fits_53 (by decide) (Option.some.inj h) hP hK hD hS
          · have h := zz_ifn c22 h
            refine lv_iconst (v := 1) hx hb dX6_fits_48 (by decide) ?_
            refine lv_goto (tgt := 53) hx hb dX6_fits_49 (by decide) ?_
            exact zz_zret () hx hb hr hlocks dX6_fits_53 (by decide) (Option.some.inj h) hP hK hD hS
      · have h := zz_if c7 h
        refine lv_iconst (v := 1) hx hb dX6_fits_29 (by decide) ?_
        exact zz_zret () hx hb hr hlocks dX6_fits_30 (by decide) (Option.some.inj h) hP hK hD hS
    · have h := zz_ifn c6 h
      refine lv_iconst (v := 0) hx hb dX6_fits_21 (by decide) ?_
      exact zz_zret () hx hb hr hlocks dX6_fits_22 (by decide) (Option.some.inj h) hP hK hD hS
theorem hd_X6_firstFault : yX6_firstFault.cls ≠ "java/lang/invoke/MethodHandle" ∧ yX6_firstFault.cls ≠ "java/lang/invoke/VarHandle" ∧ (parseMethodDescriptor yX6_firstFault.desc).map (fun d => d.parameters.length) = some 0 := by decide +kernel
set_option maxRecDepth 20000 in
theorem in_X6_firstFault_X6 : ∀ w ∈ u_ws RX6 TX6 2, w ∈ wsX6_firstFault := by decide +kernel
set_option maxRecDepth 20000 in
theorem lk_X6_firstFault_0 : Cond.fieldLink RX6 15 "TwoHousesOneChild$Text" "length" "I" ∈ wsX6_firstFault := by decide +kernel
set_option maxHeartbeats 4000000 in
set_option maxRecDepth 100000 in
theorem ct_X6_firstFault (l : Launch) (dC : Nat → ClassId) (dI : Nat → Nat → Nat) (cI cJ cB cZ : ClassId) (a_t a_t_signs : Nat) (t_length : Int32) (t_signs : (Nat → Int32)) (rr : Int32) (u0 : Unit) (h : fn_X6_firstFault t_length t_signs = some (rr, u0)) : zz_M l yX6_firstFault wsX6_firstFault ({ frames := 5, cells := 0, slots := 0, locals := 112 }) (dC, dI) (zz_T cI cJ cB cZ) [.ref a_t] [(a_t, .inr (5, [.ref a_t_signs, .int t_length])), (a_t_signs, .inl (cB, 64, .inl t_signs))] (zz_QI (dC, dI) (zz_T cI cJ cB cZ) (rr, u0) (fun (u : Unit) => [(a_t, .inr (5, [.ref a_t_signs, .int t_length])), (a_t_signs, .inl (cB, 64, .inl t_signs))])) := by
  unfold fn_X6_firstFault at h
  refine zz_of (by decide) rfl (Nat.le_of_ble_eq_true rfl) ?_
  intro p e s m below meth c A ls hx hb hr hml hts hown hlocks hA hS hP hK hD hl
  have hown : s.vm.findClass RX6 = some m.cls := hown
  have hl : lv_has ls 6 [(0, .ref a_t)] := hl
  refine lv_iconst (v := 0) hx hb dX6_firstFault_0 (by decide) ?_
  refine lv_istore_n (lv' := [(1, .int 0), (0, .ref a_t)]) hx hb dX6_firstFault_1 rfl hl (by decide) rfl (fun ls hl => ?_)
  refine lv_iconst (v := 0) hx hb dX6_firstFault_2 (by decide) ?_
  refine lv_istore_n (lv' := [(2, .int 0), (1, .int 0), (0, .ref a_t)]) hx hb dX6_firstFault_3 rfl hl (by decide) rfl (fun ls hl => ?_)
  obtain ⟨z66, hit66, hz66⟩ := zz_mtE h
  refine zz_cut (fun V => ∀ (x67 : Int32) (H : Heap) (locs : List Loc) (ls : Array Slot), fk_X6_firstFault_4 t_length x67 = some (rr, u0) → va_P (dC, dI) vwCl [(a_t, .inr (5, [.ref a_t_signs, .int t_length])), (a_t_signs, .inl (cB, 64, .inl t_signs))] H → va_D A [(a_t, .inr (5, [.ref a_t_signs, .int t_length])), (a_t_signs, .inl (cB, 64, .inl t_signs))] → va_S A s.heap H locs → lv_has ls 6 [(0, .ref a_t), (1, .int x67)] → V H locs (F0 m 98 ls [])) ?_ (fun hE66 => ?_)
  · intro x67 H locs ls h hP hD hS hl
    unfold fk_X6_firstFault_4 at h
    refine lv_iload_n hx hb dX6_firstFault_98 rfl (lv_at hl 1 rfl) ?_
    refine lv_aload_n hx hb dX6_firstFault_99 rfl (lv_at hl 0 rfl) ?_
    refine va_get (ci := 5) (v := .int t_length) (C := RX6) (T := TX6) (N := 2) hx hb hts in_X6_firstFault_X6 hown hK hP 0 rfl rfl 1 (by decide) (hts _ lk_X6_firstFault_0) (fun _ h9 => h9) rfl dX6_firstFault_100 ?_
    refine lv_icmp_ge (tgt := 110) hx hb dX6_firstFault_103 (by decide) (fun c68 => ?_) (fun c68 => ?_)
    · have h := zz_if c68 h
      refine lv_bipush (v := (-9)) hx hb dX6_firstFault_110 (by decide) ?_
      exact zz_iret () hx hb hr hlocks dX6_firstFault_112 (Option.some.inj h) hP hK hD hS
    · have h := zz_ifn c68 h
      refine lv_iload_n hx hb dX6_firstFault_106 rfl (lv_at hl 1 rfl) ?_
      refine lv_goto (tgt := 112) hx hb dX6_firstFault_107 (by decide) ?_
      exact zz_iret () hx hb hr hlocks dX6_firstFault_112 (Option.some.inj h) hP hK hD hS
  refine zz_cut (fun V => ∀ (n : Nat) (x65 : Int32) (x66 : Int32) (H : Heap) (locs : List Loc) (ls : Array Slot), zz_it (fun z => fb_X6_firstFault_4 t_length t_signs z.1 z.2) n (x65, x66) = some z66 → va_P (dC, dI) vwCl [(a_t, .inr (5, [.ref a_t_signs, .int t_length])), (a_t_signs, .inl (cB, 64, .inl t_signs))] H → va_D A [(a_t, .inr (5, [.ref a_t_signs, .int t_length])), (a_t_signs, .inl (cB, 64, .inl t_signs))] → va_S A s.heap H locs → lv_has ls 6 [(0, .ref a_t), (1, .int x65), (2, .int x66)] → V H locs (F0 m 4 ls [])) ?_ (fun hL66 => ?_)
  · intro n
    induction n with
    | zero => intro x65 x66 H locs ls hit66; exact (zz_it0 hit66).elim
    | succ n ih66 =>
      intro x65 x66 H locs ls hit66 hP hD hS hl
      obtain ⟨y66, hb66, hy66⟩ := zz_itE hit66
      have hb66 : fb_X6_firstFault_4 t_length t_signs x65 x66 = some y66 := hb66
      unfold fb_X6_firstFault_4 at hb66
      refine lv_iload_n hx hb dX6_firstFault_4 rfl (lv_at hl 2 rfl) ?_
      refine lv_bipush (v := 10) hx hb dX6_firstFault_5 (by decide) ?_
      refine lv_icmp_ge (tgt := 98) hx hb dX6_firstFault_7 (by decide) (fun c69 => ?_) (fun c69 => ?_)
      · have hb66 := zz_if c69 hb66
        obtain rfl := Option.some.inj hb66
        obtain rfl := Option.some.inj hy66
        exact hE66 x65 _ _ ls hz66 hP hD hS (lv_sub hl [0, 1] rfl)
      · have hb66 := zz_ifn c69 hb66
        refine lv_iload_n hx hb dX6_firstFault_10 rfl (lv_at hl 1 rfl) ?_
        refine lv_aload_n hx hb dX6_firstFault_11 rfl (lv_at hl 0 rfl) ?_
        refine va_get (ci := 5) (v := .int t_length) (C := RX6) (T := TX6) (N := 2) hx hb hts in_X6_firstFault_X6 hown hK hP 0 rfl rfl 1 (by decide) (hts _ lk_X6_firstFault_0) (fun _ h9 => h9) rfl dX6_firstFault_12 ?_
        refine lv_icmp_ge (tgt := 98) hx hb dX6_firstFault_15 (by decide) (fun c70 => ?_) (fun c70 => ?_)
        · have hb66 := zz_if c70 hb66
          obtain rfl := Option.some.inj hb66
          obtain rfl := Option.some.inj hy66
          exact hE66 x65 _ _ ls hz66 hP hD hS (lv_sub hl [0, 1] rfl)
        · have hb66 := zz_ifn c70 hb66
          refine lv_aload_n hx hb dX6_firstFault_18 rfl (lv_at hl 0 rfl) ?_
          refine lv_iload_n hx hb dX6_firstFault_19 rfl (lv_at hl 1 rfl) ?_
          obtain ⟨x71, u72, he73, hb66⟩ := zz_b2E hb66
          refine zz_VI (q := (RX6, TX6, 2)) (As := [.int x65]) (rest := []) (wr := []) (wm := [(a_t, .inr (5, [.ref a_t_signs, .int t_length])), (a_t_signs, .inl (cB, 64, .inl t_signs))]) ⟨hx, hb, hml, hown, hts⟩ (ct_X6_sizeOfRule l dC dI cI cJ cB cZ a_t a_t_signs t_length t_signs x65 x71 u72 he73) gX6_firstFault_X6_sizeOfRule hd_X6_sizeOfRule rfl rfl rfl ⟨Nat.le_of_ble_eq_true rfl, Nat.le_of_ble_eq_true rfl⟩ ⟨Nat.le_of_ble_eq_true rfl, Nat.le_of_ble_eq_true rfl⟩ rfl rfl (Nat.le_of_ble_eq_true rfl) dX6_firstFault_20 hl.1 rfl (ci := 5) rfl (q0 := 0) rfl hP hK hD hS hA [0, 1] [] [0, 1] rfl rfl (by decide) (by decide) (by decide) (by decide) rfl (fun H locs hP hD hS => ?_)
          refine lv_istore_n (lv' := [(3, .int x71), (0, .ref a_t), (1, .int x65), (2, .int x66)]) hx hb dX6_firstFault_23 rfl hl (by decide) rfl (fun ls hl => ?_)
          refine lv_iload_n hx hb dX6_firstFault_24 rfl (lv_at hl 0 rfl) ?_
          refine lv_if_ne (tgt := 30) hx hb dX6_firstFault_25 (by decide) (fun c74 => ?_) (fun c74 => ?_)
          · have hb66 := zz_ifn c74 hb66
            refine lv_iload_n hx hb dX6_firstFault_30 rfl (lv_at hl 2 rfl) ?_
            refine lv_iload_n hx hb dX6_firstFault_31 rfl (lv_at hl 0 rfl) ?_
            refine lv_iadd hx hb dX6_firstFault_32 ?_
            refine lv_topi (fun x75 ex75 => ?_)
            have hb66 := zz_nmE ex75 hb66
            refine lv_istore (lv' := [(4, .int x75), (3, .int x71), (0, .ref a_t), (1, .int x65), (2, .int x66)]) hx hb dX6_firstFault_33 hl (by decide) rfl (fun ls hl => ?_)
            refine lv_iload_n hx hb dX6_firstFault_35 rfl (lv_at hl 3 rfl) ?_
            refine lv_iconst (v := 1) hx hb dX6_firstFault_36 (by decide) ?_
            refine lv_iadd hx hb dX6_firstFault_37 ?_
            refine lv_topi (fun x76 ex76 => ?_)
            have hb66 := zz_nmE ex76 hb66
            refine lv_istore (lv' := [(5, .int x76), (4, .int x75), (3, .int x71), (0, .ref a_t), (1, .int x65), (2, .int x66)]) hx hb dX6_firstFault_38 hl (by decide) rfl (fun ls hl => ?_)
            obtain ⟨z91, hit91, hz91⟩ := zz_mtE hb66
            refine zz_cut (fun V => ∀  (H : Heap) (locs : List Loc) (ls : Array Slot), fk_X6_firstFault_40 t_length x66 x75  = some y66 → va_P (dC, dI) vwCl [(a_t, .inr (5, [.ref a_t_signs, .int t_length])), (a_t_signs, .inl (cB, 64, .inl t_signs))] H → va_D A [(a_t, .inr (5, [.ref a_t_signs, .int t_length])), (a_t_signs, .inl (cB, 64, .inl t_signs))] → va_S A s.heap H locs → lv_has ls 6 [(0, .ref a_t), (2, .int x66), (4, .int x75)] → V H locs (F0 m 75 ls [])) ?_ (fun hE91 => ?_)
            · intro  H locs ls hb66 hP hD hS hl
              unfold fk_X6_firstFault_40 at hb66
              refine lv_iload hx hb dX6_firstFault_75 (lv_at hl 2 rfl) ?_
              refine lv_aload_n hx hb dX6_firstFault_77 rfl (lv_at hl 0 rfl) ?_
              refine va_get (ci := 5) (v := .int t_length) (C := RX6) (T := TX6) (N := 2) hx hb hts in_X6_firstFault_X6 hown hK hP 0 rfl rfl 1 (by decide) (hts _ lk_X6_firstFault_0) (fun _ h9 => h9) rfl dX6_firstFault_78 ?_
              refine lv_icmp_le (tgt := 89) hx hb dX6_firstFault_81 (by decide) (fun c92 => ?_) (fun c92 => ?_)
              · have hb66 := zz_if c92 hb66
                refine lv_iload hx hb dX6_firstFault_89 (lv_at hl 2 rfl) ?_
                refine lv_istore_n (lv' := [(1, .int x75), (0, .ref a_t), (2, .int x66), (4, .int x75)]) hx hb dX6_firstFault_91 rfl hl (by decide) rfl (fun ls hl => ?_)
                obtain ⟨x93, ex93⟩ : ∃ z : Int32, z = x66 + 1 := ⟨_, rfl⟩
                have hb66 := zz_nmE ex93 hb66
                refine lv_iinc (v := x93) (lv' := [(2, .int x93), (1, .int x75), (0, .ref a_t), (4, .int x75)]) hx hb dX6_firstFault_92 hl (k := 2) rfl (by rw [ex93]; rfl) (by decide) rfl (fun ls hl => ?_)
                refine lv_goto (tgt := 4) hx hb dX6_firstFault_95 (by decide) ?_
                obtain rfl := Option.some.inj hb66
                exact ih66 x75 x93 _ _ ls hy66 hP hD hS (lv_sub hl [2, 1, 0] rfl)
              · have hb66 := zz_ifn c92 hb66
                refine lv_aload_n hx hb dX6_firstFault_84 rfl (lv_at hl 0 rfl) ?_
                refine va_get (ci := 5) (v := .int t_length) (C := RX6) (T := TX6) (N := 2) hx hb hts in_X6_firstFault_X6 hown hK hP 0 rfl rfl 1 (by decide) (hts _ lk_X6_firstFault_0) (fun _ h9 => h9) rfl dX6_firstFault_85 ?_
                obtain rfl := Option.some.inj hb66
                obtain rfl := Option.some.inj hy66
                exact zz_iret () hx hb hr hlocks dX6_firstFault_88 (Option.some.inj hz66) hP hK hD hS
            refine zz_cut (fun V => ∀ (n : Nat) (x91 : Int32) (H : Heap) (locs : List Loc) (ls : Array Slot), zz_it (fun z => fb_X6_firstFault_40 t_length t_signs x65 x75 z) n x91 = some z91 → va_P (dC, dI) vwCl [(a_t, .inr (5, [.ref a_t_signs, .int t_length])), (a_t_signs, .inl (cB, 64, .inl t_signs))] H → va_D A [(a_t, .inr (5, [.ref a_t_signs, .int t_length])), (a_t_signs, .inl (cB, 64, .inl t_signs))] → va_S A s.heap H locs → lv_has ls 6 [(0, .ref a_t), (1, .int x65), (2, .int x66), (4, .int x75), (5, .int x91)] → V H locs (F0 m 40 ls [])) ?_ (fun hL91 => ?_)
            · intro n
              induction n with
              | zero => intro x91 H locs ls hit91; exact (zz_it0 hit91).elim
              | succ n ih91 =>
                intro x91 H locs ls hit91 hP hD hS hl
                obtain ⟨y91, hb91, hy91⟩ := zz_itE hit91
                have hb91 : fb_X6_firstFault_40 t_length t_signs x65 x75 x91 = some y91 := hb91
                unfold fb_X6_firstFault_40 at hb91
                refine lv_iload hx hb dX6_firstFault_40 (lv_at hl 4 rfl) ?_
                refine lv_iload hx hb dX6_firstFault_42 (lv_at hl 3 rfl) ?_
                refine lv_icmp_ge (tgt := 75) hx hb dX6_firstFault_44 (by decide) (fun c94 => ?_) (fun c94 => ?_)
                · have hb91 := zz_if c94 hb91
                  obtain rfl := Option.some.inj hb91
                  obtain rfl := Option.some.inj hy91
                  exact hE91  _ _ ls hz91 hP hD hS (lv_sub hl [0, 2, 3] rfl)
                · have hb91 := zz_ifn c94 hb91
                  refine lv_iload hx hb dX6_firstFault_47 (lv_at hl 4 rfl) ?_
                  refine lv_aload_n hx hb dX6_firstFault_49 rfl (lv_at hl 0 rfl) ?_
                  refine va_get (ci := 5) (v := .int t_length) (C := RX6) (T := TX6) (N := 2) hx hb hts in_X6_firstFault_X6 hown hK hP 0 rfl rfl 1 (by decide) (hts _ lk_X6_firstFault_0) (fun _ h9 => h9) rfl dX6_firstFault_50 ?_
                  refine lv_icmp_ge (tgt := 75) hx hb dX6_firstFault_53 (by decide) (fun c95 => ?_) (fun c95 => ?_)
                  · have hb91 := zz_if c95 hb91
                    obtain rfl := Option.some.inj hb91
                    obtain rfl := Option.some.inj hy91
                    exact hE91  _ _ ls hz91 hP hD hS (lv_sub hl [0, 2, 3] rfl)
                  · have hb91 := zz_ifn c95 hb91
                    refine lv_aload_n hx hb dX6_firstFault_56 rfl (lv_at hl 0 rfl) ?_
                    refine lv_iload_n hx hb dX6_firstFault_57 rfl (lv_at hl 1 rfl) ?_
                    refine lv_iload hx hb dX6_firstFault_58 (lv_at hl 4 rfl) ?_
                    obtain ⟨x96, u97, he98, hb91⟩ := zz_b2E hb91
                    refine zz_VI (q := (RX6, TX6, 2)) (As := [.int x65, .int x91]) (rest := []) (wr := []) (wm := [(a_t, .inr (5, [.ref a_t_signs, .int t_length])), (a_t_signs, .inl (cB, 64, .inl t_signs))]) ⟨hx, hb, hml, hown, hts⟩ (ct_X6_fits l dC dI cI cJ cB cZ a_t a_t_signs t_length t_signs x65 x91 x96 u97 he98) gX6_firstFault_X6_fits hd_X6_fits rfl rfl rfl ⟨Nat.le_of_ble_eq_true rfl, Nat.le_of_ble_eq_true rfl⟩ ⟨Nat.le_of_ble_eq_true rfl, Nat.le_of_ble_eq_true rfl⟩ rfl rfl (Nat.le_of_ble_eq_true rfl) dX6_firstFault_60 hl.1 rfl (ci := 5) rfl (q0 := 0) rfl hP hK hD hS hA [0, 1] [] [0, 1] rfl rfl (by decide) (by decide) (by decide) (by decide) rfl (fun H locs hP hD hS => ?_)
                    refine lv_if_ne (tgt := 69) hx hb dX6_firstFault_63 (by decide) (fun c99 => ?_) (fun c99 => ?_)
                    · have hb91 := zz_ifn c99 hb91
                      obtain ⟨x100, ex100⟩ : ∃ z : Int32, z = x91 + 1 := ⟨_, rfl⟩
                      have hb91 := zz_nmE ex100 hb91
                      refine lv_iinc (v := x100) (lv' := [(5, .int x100), (0, .ref a_t), (1, .int x65), (2, .int x66), (4, .int x75)]) hx hb dX6_firstFault_69 hl (k := 4) rfl (by rw [ex100]; rfl) (by decide) rfl (fun ls hl => ?_)
                      refine lv_goto (tgt := 40) hx hb dX6_firstFault_72 (by decide) ?_
                      obtain rfl := Option.some.inj hb91
                      exact ih91 x100 _ _ ls hy91 hP hD hS (lv_sub hl [1, 2, 3, 4, 0] rfl)
                    · have hb91 := zz_if c99 hb91
                      refine lv_iload hx hb dX6_firstFault_66 (lv_at hl 4 rfl) ?_
                      obtain rfl := Option.some.inj hb91
                      obtain rfl := Option.some.inj hy91
                      obtain rfl := Option.some.inj hz91
                      obtain rfl := Option.some.inj hy66
                      exact zz_iret () hx hb hr hlocks dX6_firstFault_68 (Option.some.inj hz66) hP hK hD hS
            exact hL91 zz_fuel x76 _ _ ls hit91 hP hD hS (lv_sub hl [3, 4, 5, 1, 0] rfl)
          · have hb66 := zz_if c74 hb66
            refine lv_iload_n hx hb dX6_firstFault_28 rfl (lv_at hl 2 rfl) ?_
            obtain rfl := Option.some.inj hb66
            obtain rfl := Option.some.inj hy66
            exact zz_iret () hx hb hr hlocks dX6_firstFault_29 (Option.some.inj hz66) hP hK hD hS
  exact hL66 zz_fuel 0 0 _ _ ls hit66 hP hD hS (lv_sub hl [2, 1, 0] rfl)
theorem hd_X6_inWeeks : yX6_inWeeks.cls ≠ "java/lang/invoke/MethodHandle" ∧ yX6_inWeeks.cls ≠ "java/lang/invoke/VarHandle" ∧ (parseMethodDescriptor yX6_inWeeks.desc).map (fun d => d.parameters.length) = some 3 := by decide +kernel
set_option maxHeartbeats 4000000 in
set_option maxRecDepth 100000 in
theorem ct_X6_inWeeks (l : Launch) (dC : Nat → ClassId) (dI : Nat → Nat → Nat) (cI cJ cB cZ : ClassId) (p0 : Int32) (p1 : Int32) (p2 : Int32) (rr : Int64) (u0 : Unit) (h : fn_X6_inWeeks p0 p1 p2 = some (rr, u0)) : zz_M l yX6_inWeeks wsX6_inWeeks ({ frames := 0, cells := 0, slots := 0, locals := 0 }) (dC, dI) (zz_T cI cJ cB cZ) [.int p0, .int p1, .int p2] [] (zz_QL (dC, dI) (zz_T cI cJ cB cZ) (rr, u0) (fun (u : Unit) => [])) := by
  unfold fn_X6_inWeeks at h
  refine zz_of (by decide) rfl (Nat.le_of_ble_eq_true rfl) ?_
  intro p e s m below meth c A ls hx hb hr hml hts hown hlocks hA hS hP hK hD hl
  have hown : s.vm.findClass RX6 = some m.cls := hown
  have hl : lv_has ls 6 [(0, .int p0), (1, .int p1), (2, .int p2)] := hl
  refine lv_lconst (v := 0) hx hb dX6_inWeeks_0 (by decide) ?_
  refine lv_lstore_n (lv' := [(3, .long 0), (0, .int p0), (1, .int p1), (2, .int p2)]) hx hb dX6_inWeeks_1 rfl hl (by decide) rfl (fun ls hl => ?_)
  refine lv_iconst (v := 0) hx hb dX6_inWeeks_2 (by decide) ?_
  refine lv_istore (lv' := [(5, .int 0), (3, .long 0), (0, .int p0), (1, .int p1), (2, .int p2)]) hx hb dX6_inWeeks_3 hl (by decide) rfl (fun ls hl => ?_)
  obtain ⟨x17, hit16, h⟩ := zz_b1E h
  refine zz_cut (fun V => ∀ (H : Heap) (locs : List Loc) (ls : Array Slot), va_P (dC, dI) vwCl [] H → va_D A [] → va_S A s.heap H locs → lv_has ls 6 [(3, .long x17)] → V H locs (F0 m 42 ls [])) ?_ (fun hE16 => ?_)
  · intro H locs ls hP hD hS hl
    refine lv_lload_n hx hb dX6_inWeeks_42 rfl (lv_at hl 0 rfl) ?_
    exact zz_lret () hx hb hr hlocks dX6_inWeeks_43 (Option.some.inj h) hP hK hD hS
  refine zz_cut (fun V => ∀ (n : Nat) (x15 : Int64) (x16 : Int32) (H : Heap) (locs : List Loc) (ls : Array Slot), zz_it (fun z => fb_X6_inWeeks_5 p0 p1 p2 z.1 z.2) n (x15, x16) = some x17 → va_P (dC, dI) vwCl [] H → va_D A [] → va_S A s.heap H locs → lv_has ls 6 [(0, .int p0), (1, .int p1), (2, .int p2), (3, .long x15), (5, .int x16)] → V H locs (F0 m 5 ls [])) ?_ (fun hL16 => ?_)
  · intro n
    induction n with
    | zero => intro x15 x16 H locs ls hit16; exact (zz_it0 hit16).elim
    | succ n ih16 =>
      intro x15 x16 H locs ls hit16 hP hD hS hl
      obtain ⟨y16, hb16, hy16⟩ := zz_itE hit16
      have hb16 : fb_X6_inWeeks_5 p0 p1 p2 x15 x16 = some y16 := hb16
      unfold fb_X6_inWeeks_5 at hb16
      refine lv_iload hx hb dX6_inWeeks_5 (lv_at hl 4 rfl) ?_
      refine lv_bipush (v := 8) hx hb dX6_inWeeks_7 (by decide) ?_
      refine lv_icmp_ge (tgt := 42) hx hb dX6_inWeeks_9 (by decide) (fun c18 => ?_) (fun c18 => ?_)
      · have hb16 := zz_if c18 hb16
        obtain rfl := Option.some.inj hb16
        have hy16 := Option.some.inj hy16
        cases hy16
        exact hE16 _ _ ls hP hD hS (lv_sub hl [3] rfl)
      · have hb16 := zz_ifn c18 hb16
        refine lv_iload_n hx hb dX6_inWeeks_12 rfl (lv_at hl 1 rfl) ?_
        refine lv_if_le (tgt := 42) hx hb dX6_inWeeks_13 (by decide) (fun c19 => ?_) (fun c19 => ?_)
        · have hb16 := zz_if c19 hb16
          obtain rfl := Option.some.inj hb16
          have hy16 := Option.some.inj hy16
          cases hy16
          exact hE16 _ _ ls hP hD hS (lv_sub hl [3] rfl)
        · have hb16 := zz_ifn c19 hb16
          refine lv_iload hx hb dX6_inWeeks_16 (lv_at hl 4 rfl) ?_
          refine lv_iload_n hx hb dX6_inWeeks_18 rfl (lv_at hl 1 rfl) ?_
          obtain ⟨hq20, hb16⟩ := zz_dvE hb16
          refine lv_irem hx hb dX6_inWeeks_19 hq20 ?_
          refine lv_iload_n hx hb dX6_inWeeks_20 rfl (lv_at hl 2 rfl) ?_
          refine lv_icmp_ne (tgt := 36) hx hb dX6_inWeeks_21 (by decide) (fun c21 => ?_) (fun c21 => ?_)
          · have hb16 := zz_ifn c21 hb16
            obtain ⟨x22, ex22⟩ : ∃ z : Int32, z = x16 + 1 := ⟨_, rfl⟩
            have hb16 := zz_nmE ex22 hb16
            refine lv_iinc (v := x22) (lv' := [(5, .int x22), (0, .int p0), (1, .int p1), (2, .int p2), (3, .long x15)]) hx hb dX6_inWeeks_36 hl (k := 4) rfl (by rw [ex22]; rfl) (by decide) rfl (fun ls hl => ?_)
            refine lv_goto (tgt := 5) hx hb dX6_inWeeks_39 (by decide) ?_
            obtain rfl := Option.some.inj hb16
            exact ih16 x15 x22 _ _ ls hy16 hP hD hS (lv_sub hl [1, 2, 3, 4, 0] rfl)
          · have hb16 := zz_if c21 hb16
            refine lv_lload_n hx hb dX6_inWeeks_24 rfl (lv_at hl 3 rfl) ?_
            refine lv_lconst (v := 1) hx hb dX6_inWeeks_25 (by decide) ?_
            refine lv_iload hx hb dX6_inWeeks_26 (lv_at hl 4 rfl) ?_
            refine lv_bipush (v := 7) hx hb dX6_inWeeks_28 (by decide) ?_
            refine lv_imul hx hb dX6_inWeeks_30 ?_
            refine lv_iload_n hx hb dX6_inWeeks_31 rfl (lv_at hl 0 rfl) ?_
            refine lv_iadd hx hb dX6_inWeeks_32 ?_
            refine lv_lshl (v := (1 : Int64) <<< (((x16 * 7) + p0).toInt64 &&& 63)) hx hb dX6_inWeeks_33 rfl ?_
            refine lv_lor hx hb dX6_inWeeks_34 ?_
            refine lv_topl (fun x23 ex23 => ?_)
            have hb16 := zz_nmE ex23 hb16
            refine lv_lstore_n (lv' := [(3, .long x23), (0, .int p0), (1, .int p1), (2, .int p2), (5, .int x16)]) hx hb dX6_inWeeks_35 rfl hl (by decide) rfl (fun ls hl => ?_)
            obtain ⟨x24, ex24⟩ : ∃ z : Int32, z = x16 + 1 := ⟨_, rfl⟩
            have hb16 := zz_nmE ex24 hb16
            refine lv_iinc (v := x24) (lv' := [(5, .int x24), (3, .long x23), (0, .int p0), (1, .int p1), (2, .int p2)]) hx hb dX6_inWeeks_36 hl (k := 4) rfl (by rw [ex24]; rfl) (by decide) rfl (fun ls hl => ?_)
            refine lv_goto (tgt := 5) hx hb dX6_inWeeks_39 (by decide) ?_
            obtain rfl := Option.some.inj hb16
            exact ih16 x23 x24 _ _ ls hy16 hP hD hS (lv_sub hl [2, 3, 4, 1, 0] rfl)
  exact hL16 zz_fuel 0 0 _ _ ls hit16 hP hD hS (lv_sub hl [2, 3, 4, 1, 0] rfl)
theorem hd_X6_tellRule : yX6_tellRule.cls ≠ "java/lang/invoke/MethodHandle" ∧ yX6_tellRule.cls ≠ "java/lang/invoke/VarHandle" ∧ (parseMethodDescriptor yX6_tellRule.desc).map (fun d => d.parameters.length) = some 2 := by decide +kernel
set_option maxRecDepth 20000 in
theorem lk_X6_tellRule_0 : Cond.constantLong RX6 52 (72057594037927935) ∈ wsX6_tellRule := by decide +kernel
set_option maxRecDepth 20000 in
theorem lk_X6_tellRule_1 : Cond.constantLong RX6 64 (-1) ∈ wsX6_tellRule := by decide +kernel
set_option maxHeartbeats 4000000 in
set_option maxRecDepth 100000 in
theorem ct_X6_tellRule (l : Launch) (dC : Nat → ClassId) (dI : Nat → Nat → Nat) (cI cJ cB cZ : ClassId) (a_r1 a_r1_numbers a_r1_ones a_r1_ranks a_r1_told a_r1_turnsByYear a_t a_t_signs : Nat) (r1_size : Int32) (r1_numbers : (Nat → Int32)) (r1_ones : (Nat → Int64)) (r1_ranks : (Nat → Int32)) (r1_told : (Nat → Int64)) (r1_turnsByYear : (Nat → Int32)) (t_length : Int32) (t_signs : (Nat → Int32)) (p2 : Int32) (o1 : Int32) (o2 : (Nat → Int32)) (o3 : (Nat → Int64)) (o4 : (Nat → Int32)) (o5 : (Nat → Int64)) (o6 : (Nat → Int32)) (h : fn_X6_tellRule r1_size r1_numbers r1_ones r1_ranks r1_told r1_turnsByYear t_length t_signs p2 = some (o1, o2, o3, o4, o5, o6)) : zz_M l yX6_tellRule wsX6_tellRule ({ frames := 3, cells := 0, slots := 0, locals := 63 }) (dC, dI) (zz_T cI cJ cB cZ) [.ref a_t, .ref a_r1, .int p2] [(a_r1, .inr (1, [.int r1_size, .ref a_r1_numbers, .ref a_r1_ranks, .ref a_r1_told, .ref a_r1_ones, .ref a_r1_turnsByYear])), (a_r1_numbers, .inl (cI, 10, .inl r1_numbers)), (a_r1_ones, .inl (cJ, 10, .inr (.inl r1_ones))), (a_r1_ranks, .inl (cI, 10, .inl r1_ranks)), (a_r1_told, .inl (cJ, 10, .inr (.inl r1_told))), (a_r1_turnsByYear, .inl (cZ, 10, .inl r1_turnsByYear)), (a_t, .inr (5, [.ref a_t_signs, .int t_length])), (a_t_signs, .inl (cB, 64, .inl t_signs))] (zz_QV (dC, dI) (zz_T cI cJ cB cZ) (o1, o2, o3, o4, o5, o6) (fun (u : Int32 × (Nat → Int32) × (Nat → Int64) × (Nat → Int32) × (Nat → Int64) × (Nat → Int32)) => [(a_r1, .inr (1, [.int u.1, .ref a_r1_numbers, .ref a_r1_ranks, .ref a_r1_told, .ref a_r1_ones, .ref a_r1_turnsByYear])), (a_r1_numbers, .inl (cI, 10, .inl u.2.1)), (a_r1_ones, .inl (cJ, 10, .inr (.inl u.2.2.1))), (a_r1_ranks, .inl (cI, 10, .inl u.2.2.2.1)), (a_r1_told, .inl (cJ, 10, .inr (.inl u.2.2.2.2.1))), (a_r1_turnsByYear, .inl (cZ, 10, .inl u.2.2.2.2.2)), (a_t, .inr (5, [.ref a_t_signs, .int t_length])), (a_t_signs, .inl (cB, 64, .inl t_signs))])) := by
  unfold fn_X6_tellRule at h
  refine zz_of (by decide) rfl (Nat.le_of_ble_eq_true rfl) ?_
  intro p e s m below meth c A ls hx hb hr hml hts hown hlocks hA hS hP hK hD hl
  have hown : s.vm.findClass RX6 = some m.cls := hown
  have hl : lv_has ls 11 [(0, .ref a_t), (1, .ref a_r1), (2, .int p2)] := hl
  refine lv_aload_n hx hb dX6_tellRule_0 rfl (lv_at hl 0 rfl) ?_
  refine lv_iload_n hx hb dX6_tellRule_1 rfl (lv_at hl 2 rfl) ?_
  obtain ⟨x1, u2, he3, h⟩ := zz_b2E h
  refine zz_VI (q := (RX6, TX6, 2)) (As := [.int p2]) (rest := []) (wr := [(a_r1, .inr (1, [.int r1_size, .ref a_r1_numbers, .ref a_r1_ranks, .ref a_r1_told, .ref a_r1_ones, .ref a_r1_turnsByYear])), (a_r1_numbers, .inl (cI, 10, .inl r1_numbers)), (a_r1_ones, .inl (cJ, 10, .inr (.inl r1_ones))), (a_r1_ranks, .inl (cI, 10, .inl r1_ranks)), (a_r1_told, .inl (cJ, 10, .inr (.inl r1_told))), (a_r1_turnsByYear, .inl (cZ, 10, .inl r1_turnsByYear))]) (wm := [(a_r1, .inr (1, [.int r1_size, .ref a_r1_numbers, .ref a_r1_ranks, .ref a_r1_told, .ref a_r1_ones, .ref a_r1_turnsByYear])), (a_r1_numbers, .inl (cI, 10, .inl r1_numbers)), (a_r1_ones, .inl (cJ, 10, .inr (.inl r1_ones))), (a_r1_ranks, .inl (cI, 10, .inl r1_ranks)), (a_r1_told, .inl (cJ, 10, .inr (.inl r1_told))), (a_r1_turnsByYear, .inl (cZ, 10, .inl r1_turnsByYear)), (a_t, .inr (5, [.ref a_t_signs, .int t_length])), (a_t_signs, .inl (cB, 64, .inl t_signs))]) ⟨hx, hb, hml, hown, hts⟩ (ct_X6_signAt l dC dI cI cJ cB cZ a_t a_t_signs t_length t_signs p2 x1 u2 he3) gX6_tellRule_X6_signAt hd_X6_signAt rfl rfl rfl ⟨Nat.le_of_ble_eq_true rfl, Nat.le_of_ble_eq_true rfl⟩ ⟨Nat.le_of_ble_eq_true rfl, Nat.le_of_ble_eq_true rfl⟩ rfl rfl (Nat.le_of_ble_eq_true rfl) dX6_tellRule_2 hl.1 rfl (ci := 5) rfl (q0 := 6) rfl hP hK hD hS hA [6, 7] [0, 1, 2, 3, 4, 5] [0, 1, 2, 3, 4, 5, 6, 7] rfl rfl (by decide) (by decide) (by decide) (by decide) rfl (fun H locs hP hD hS => ?_)
  refine lv_istore_n (lv' := [(3, .int x1), (0, .ref a_t), (1, .ref a_r1), (2, .int p2)]) hx hb dX6_tellRule_5 rfl hl (by decide) rfl (fun ls hl => ?_)
  refine lv_aload_n hx hb dX6_tellRule_6 rfl (lv_at hl 1 rfl) ?_
  refine lv_iload_n hx hb dX6_tellRule_7 rfl (lv_at hl 3 rfl) ?_
  refine lv_iconst (v := 1) hx hb dX6_tellRule_8 (by decide) ?_
  refine lv_iadd hx hb dX6_tellRule_9 ?_
  obtain ⟨x4, u5, he6, h⟩ := zz_b2E h
  refine zz_VI (q := (RX6, TX6, 2)) (As := [.int (p2 + 1)]) (rest := []) (wr := [(a_r1, .inr (1, [.int r1_size, .ref a_r1_numbers, .ref a_r1_ranks, .ref a_r1_told, .ref a_r1_ones, .ref a_r1_turnsByYear])), (a_r1_numbers, .inl (cI, 10, .inl r1_numbers)), (a_r1_ones, .inl (cJ, 10, .inr (.inl r1_ones))), (a_r1_ranks, .inl (cI, 10, .inl r1_ranks)), (a_r1_told, .inl (cJ, 10, .inr (.inl r1_told))), (a_r1_turnsByYear, .inl (cZ, 10, .inl r1_turnsByYear))]) (wm := [(a_r1, .inr (1, [.int r1_size, .ref a_r1_numbers, .ref a_r1_ranks, .ref a_r1_told, .ref a_r1_ones, .ref a_r1_turnsByYear])), (a_r1_numbers, .inl (cI, 10, .inl r1_numbers)), (a_r1_ones, .inl (cJ, 10, .inr (.inl r1_ones))), (a_r1_ranks, .inl (cI, 10, .inl r1_ranks)), (a_r1_told, .inl (cJ, 10, .inr (.inl r1_told))), (a_r1_turnsByYear, .inl (cZ, 10, .inl r1_turnsByYear)), (a_t, .inr (5, [.ref a_t_signs, .int t_length])), (a_t_signs, .inl (cB, 64, .inl t_signs))]) ⟨hx, hb, hml, hown, hts⟩ (ct_X6_figureAt l dC dI cI cJ cB cZ a_t a_t_signs t_length t_signs (p2 + 1) x4 u5 he6) gX6_tellRule_X6_figureAt hd_X6_figureAt rfl rfl rfl ⟨Nat.le_of_ble_eq_true rfl, Nat.le_of_ble_eq_true rfl⟩ ⟨Nat.le_of_ble_eq_true rfl, Nat.le_of_ble_eq_true rfl⟩ rfl rfl (Nat.le_of_ble_eq_true rfl) dX6_tellRule_10 hl.1 rfl (ci := 5) rfl (q0 := 6) rfl hP hK hD hS hA [6, 7] [0, 1, 2, 3, 4, 5] [0, 1, 2, 3, 4, 5, 6, 7] rfl rfl (by decide) (by decide) (by decide) (by decide) rfl (fun H locs hP hD hS => ?_)
  refine lv_istore (lv' := [(4, .int x4), (3, .int x1), (0, .ref a_t), (1, .ref a_r1), (2, .int p2)]) hx hb dX6_tellRule_13 hl (by decide) rfl (fun ls hl => ?_)
  refine lv_aload_n hx hb dX6_tellRule_15 rfl (lv_at hl 2 rfl) ?_
  refine lv_iload_n hx hb dX6_tellRule_16 rfl (lv_at hl 4 rfl) ?_
  refine lv_aload_n hx hb dX6_tellRule_17 rfl (lv_at hl 2 rfl) ?_
  refine lv_iload_n hx hb dX6_tellRule_18 rfl (lv_at hl 4 rfl) ?_
  obtain ⟨x7, u8, he9, h⟩ := zz_b2E h
  refine zz_VI (q := (RX6, TX6, 2)) (As := [.int p2]) (rest := [.int p2, .ref a_t]) (wr := [(a_r1, .inr (1, [.int r1_size, .ref a_r1_numbers, .ref a_r1_ranks, .ref a_r1_told, .ref a_r1_ones, .ref a_r1_turnsByYear])), (a_r1_numbers, .inl (cI, 10, .inl r1_numbers)), (a_r1_ones, .inl (cJ, 10, .inr (.inl r1_ones))), (a_r1_ranks, .inl (cI, 10, .inl r1_ranks)), (a_r1_told, .inl (cJ, 10, .inr (.inl r1_told))), (a_r1_turnsByYear, .inl (cZ, 10, .inl r1_turnsByYear))]) (wm := [(a_r1, .inr (1, [.int r1_size, .ref a_r1_numbers, .ref a_r1_ranks, .ref a_r1_told, .ref a_r1_ones, .ref a_r1_turnsByYear])), (a_r1_numbers, .inl (cI, 10, .inl r1_numbers)), (a_r1_ones, .inl (cJ, 10, .inr (.inl r1_ones))), (a_r1_ranks, .inl (cI, 10, .inl r1_ranks)), (a_r1_told, .inl (cJ, 10, .inr (.inl r1_told))), (a_r1_turnsByYear, .inl (cZ, 10, .inl r1_turnsByYear)), (a_t, .inr (5, [.ref a_t_signs, .int t_length])), (a_t_signs, .inl (cB, 64, .inl t_signs))]) ⟨hx, hb, hml, hown, hts⟩ (ct_X6_sizeOfRule l dC dI cI cJ cB cZ a_t a_t_signs t_length t_signs p2 x7 u8 he9) gX6_tellRule_X6_sizeOfRule hd_X6_sizeOfRule rfl rfl rfl ⟨Nat.le_of_ble_eq_true rfl, Nat.le_of_ble_eq_true rfl⟩ ⟨Nat.le_of_ble_eq_true rfl, Nat.le_of_ble_eq_true rfl⟩ rfl rfl (Nat.le_of_ble_eq_true rfl) dX6_tellRule_19 hl.1 rfl (ci := 5) rfl (q0 := 6) rfl hP hK hD hS hA [6, 7] [0, 1, 2, 3, 4, 5] [0, 1, 2, 3, 4, 5, 6, 7] rfl rfl (by decide) (by decide) (by decide) (by decide) rfl (fun H locs hP hD hS => ?_)
  refine lv_iadd hx hb dX6_tellRule_22 ?_
  refine lv_iconst (v := 1) hx hb dX6_tellRule_23 (by decide) ?_
  refine lv_isub hx hb dX6_tellRule_24 ?_
  obtain ⟨x10, u11, he12, h⟩ := zz_b2E h
  refine zz_VI (q := (RX6, TX6, 2)) (As := [.int ((p2 + x7) - 1)]) (rest := []) (wr := [(a_r1, .inr (1, [.int r1_size, .ref a_r1_numbers, .ref a_r1_ranks, .ref a_r1_told, .ref a_r1_ones, .ref a_r1_turnsByYear])), (a_r1_numbers, .inl (cI, 10, .inl r1_numbers)), (a_r1_ones, .inl (cJ, 10, .inr (.inl r1_ones))), (a_r1_ranks, .inl (cI, 10, .inl r1_ranks)), (a_r1_told, .inl (cJ, 10, .inr (.inl r1_told))), (a_r1_turnsByYear, .inl (cZ, 10, .inl r1_turnsByYear))]) (wm := [(a_r1, .inr (1, [.int r1_size, .ref a_r1_numbers, .ref a_r1_ranks, .ref a_r1_told, .ref a_r1_ones, .ref a_r1_turnsByYear])), (a_r1_numbers, .inl (cI, 10, .inl r1_numbers)), (a_r1_ones, .inl (cJ, 10, .inr (.inl r1_ones))), (a_r1_ranks, .inl (cI, 10, .inl r1_ranks)), (a_r1_told, .inl (cJ, 10, .inr (.inl r1_told))), (a_r1_turnsByYear, .inl (cZ, 10, .inl r1_turnsByYear)), (a_t, .inr (5, [.ref a_t_signs, .int t_length])), (a_t_signs, .inl (cB, 64, .inl t_signs))]) ⟨hx, hb, hml, hown, hts⟩ (ct_X6_figureAt l dC dI cI cJ cB cZ a_t a_t_signs t_length t_signs ((p2 + x7) - 1) x10 u11 he12) gX6_tellRule_X6_figureAt hd_X6_figureAt rfl rfl rfl ⟨Nat.le_of_ble_eq_true rfl, Nat.le_of_ble_eq_true rfl⟩ ⟨Nat.le_of_ble_eq_true rfl, Nat.le_of_ble_eq_true rfl⟩ rfl rfl (Nat.le_of_ble_eq_true rfl) dX6_tellRule_25 hl.1 rfl (ci := 5) rfl (q0 := 6) rfl hP hK hD hS hA [6, 7] [0, 1, 2, 3, 4, 5] [0, 1, 2, 3, 4, 5, 6, 7] rfl rfl (by decide) (by decide) (by decide) (by decide) rfl (fun H locs hP hD hS => ?_)
  refine lv_istore (lv' := [(5, .int x10), (4, .int x4), (3, .int x1), (0, .ref a_t), (1, .ref a_r1), (2, .int p2)]) hx hb dX6_tellRule_28 hl (by decide) rfl (fun ls hl => ?_)
  refine lv_ldc2 (v := 72057594037927935) hx hb hown (hts _ lk_X6_tellRule_0) dX6_tellRule_30 ?_
  refine lv_lstore (lv' := [(6, .long 72057594037927935), (5, .int x10), (4, .int x4), (3, .int x1), (0, .ref a_t), (1, .ref a_r1), (2, .int p2)]) hx hb dX6_tellRule_33 hl (by decide) rfl (fun ls hl => ?_)
  refine lv_iload_n hx hb dX6_tellRule_35 rfl (lv_at hl 3 rfl) ?_
  refine lv_bipush (v := 87) hx hb dX6_tellRule_36 (by decide) ?_
  obtain ⟨x36, hj37, h⟩ := zz_b1E h
  refine zz_cut (fun V => ∀ (H : Heap) (locs : List Loc) (ls : Array Slot), va_P (dC, dI) vwCl [(a_r1, .inr (1, [.int r1_size, .ref a_r1_numbers, .ref a_r1_ranks, .ref a_r1_told, .ref a_r1_ones, .ref a_r1_turnsByYear])), (a_r1_numbers, .inl (cI, 10, .inl r1_numbers)), (a_r1_ones, .inl (cJ, 10, .inr (.inl r1_ones))), (a_r1_ranks, .inl (cI, 10, .inl r1_ranks)), (a_r1_told, .inl (cJ, 10, .inr (.inl r1_told))), (a_r1_turnsByYear, .inl (cZ, 10, .inl r1_turnsByYear)), (a_t, .inr (5, [.ref a_t_signs, .int t_length])), (a_t_signs, .inl (cB, 64, .inl t_signs))] H → va_D A [(a_r1, .inr (1, [.int r1_size, .ref a_r1_numbers, .ref a_r1_ranks, .ref a_r1_told, .ref a_r1_ones, .ref a_r1_turnsByYear])), (a_r1_numbers, .inl (cI, 10, .inl r1_numbers)), (a_r1_ones, .inl (cJ, 10, .inr (.inl r1_ones))), (a_r1_ranks, .inl (cI, 10, .inl r1_ranks)), (a_r1_told, .inl (cJ, 10, .inr (.inl r1_told))), (a_r1_turnsByYear, .inl (cZ, 10, .inl r1_turnsByYear)), (a_t, .inr (5, [.ref a_t_signs, .int t_length])), (a_t_signs, .inl (cB, 64, .inl t_signs))] → va_S A s.heap H locs → lv_has ls 11 [(0, .ref a_t), (1, .ref a_r1), (2, .int p2), (3, .int x1), (4, .int x4), (5, .int x10), (6, .long x36)] → V H locs (F0 m 95 ls [])) ?_ (fun hJ37 => ?_)
  · intro H locs ls hP hD hS hl
    refine lv_lload hx hb dX6_tellRule_95 (lv_at hl 6 rfl) ?_
    refine lv_lstore (lv' := [(8, .long x36), (0, .ref a_t), (1, .ref a_r1), (2, .int p2), (3, .int x1), (4, .int x4), (5, .int x10), (6, .long x36)]) hx hb dX6_tellRule_97 hl (by decide) rfl (fun ls hl => ?_)
    refine lv_iload_n hx hb dX6_tellRule_99 rfl (lv_at hl 4 rfl) ?_
    refine lv_bipush (v := 72) hx hb dX6_tellRule_100 (by decide) ?_
    obtain ⟨x49, hj50, h⟩ := zz_b1E h
    refine zz_cut (fun V => ∀ (H : Heap) (locs : List Loc) (ls : Array Slot), va_P (dC, dI) vwCl [(a_r1, .inr (1, [.int r1_size, .ref a_r1_numbers, .ref a_r1_ranks, .ref a_r1_told, .ref a_r1_ones, .ref a_r1_turnsByYear])), (a_r1_numbers, .inl (cI, 10, .inl r1_numbers)), (a_r1_ones, .inl (cJ, 10, .inr (.inl r1_ones))), (a_r1_ranks, .inl (cI, 10, .inl r1_ranks)), (a_r1_told, .inl (cJ, 10, .inr (.inl r1_told))), (a_r1_turnsByYear, .inl (cZ, 10, .inl r1_turnsByYear)), (a_t, .inr (5, [.ref a_t_signs, .int t_length])), (a_t_signs, .inl (cB, 64, .inl t_signs))] H → va_D A [(a_r1, .inr (1, [.int r1_size, .ref a_r1_numbers, .ref a_r1_ranks, .ref a_r1_told, .ref a_r1_ones, .ref a_r1_turnsByYear])), (a_r1_numbers, .inl (cI, 10, .inl r1_numbers)), (a_r1_ones, .inl (cJ, 10, .inr (.inl r1_ones))), (a_r1_ranks, .inl (cI, 10, .inl r1_ranks)), (a_r1_told, .inl (cJ, 10, .inr (.inl r1_told))), (a_r1_turnsByYear, .inl (cZ, 10, .inl r1_turnsByYear)), (a_t, .inr (5, [.ref a_t_signs, .int t_length])), (a_t_signs, .inl (cB, 64, .inl t_signs))] → va_S A s.heap H locs → lv_has ls 11 [(1, .ref a_r1), (3, .int x1), (4, .int x4), (5, .int x10), (6, .long x36), (8, .long x49)] → V H locs (F0 m 136 ls [])) ?_ (fun hJ50 => ?_)
    · intro H locs ls hP hD hS hl
      refine lv_aload_n hx hb dX6_tellRule_136 rfl (lv_at hl 0 rfl) ?_
      refine lv_iload hx hb dX6_tellRule_137 (lv_at hl 2 rfl) ?_
      refine lv_lload hx hb dX6_tellRule_139 (lv_at hl 4 rfl) ?_
      refine lv_iload hx hb dX6_tellRule_141 (lv_at hl 3 rfl) ?_
      refine lv_iconst (v := 1) hx hb dX6_tellRule_143 (by decide) ?_
      obtain ⟨x52, hj53, h⟩ := zz_b1E h
      refine zz_cut (fun V => ∀ (H : Heap) (locs : List Loc) (ls : Array Slot), va_P (dC, dI) vwCl [(a_r1, .inr (1, [.int r1_size, .ref a_r1_numbers, .ref a_r1_ranks, .ref a_r1_told, .ref a_r1_ones, .ref a_r1_turnsByYear])), (a_r1_numbers, .inl (cI, 10, .inl r1_numbers)), (a_r1_ones, .inl (cJ, 10, .inr (.inl r1_ones))), (a_r1_ranks, .inl (cI, 10, .inl r1_ranks)), (a_r1_told, .inl (cJ, 10, .inr (.inl r1_told))), (a_r1_turnsByYear, .inl (cZ, 10, .inl r1_turnsByYear)), (a_t, .inr (5, [.ref a_t_signs, .int t_length])), (a_t_signs, .inl (cB, 64, .inl t_signs))] H → va_D A [(a_r1, .inr (1, [.int r1_size, .ref a_r1_numbers, .ref a_r1_ranks, .ref a_r1_told, .ref a_r1_ones, .ref a_r1_turnsByYear])), (a_r1_numbers, .inl (cI, 10, .inl r1_numbers)), (a_r1_ones, .inl (cJ, 10, .inr (.inl r1_ones))), (a_r1_ranks, .inl (cI, 10, .inl r1_ranks)), (a_r1_told, .inl (cJ, 10, .inr (.inl r1_told))), (a_r1_turnsByYear, .inl (cZ, 10, .inl r1_turnsByYear)), (a_t, .inr (5, [.ref a_t_signs, .int t_length])), (a_t_signs, .inl (cB, 64, .inl t_signs))] → va_S A s.heap H locs → lv_has ls 11 [(3, .int x1)] → V H locs (F0 m 161 ls [.long x52, .long x36, .int x4, .ref a_r1])) ?_ (fun hJ53 => ?_)
      · intro H locs ls hP hD hS hl
        refine lv_iload_n hx hb dX6_tellRule_161 rfl (lv_at hl 0 rfl) ?_
        refine lv_bipush (v := 89) hx hb dX6_tellRule_162 (by decide) ?_
        obtain ⟨x55, hj56, h⟩ := zz_b1E h
        refine zz_cut (fun V => ∀ (H : Heap) (locs : List Loc) (ls : Array Slot), va_P (dC, dI) vwCl [(a_r1, .inr (1, [.int r1_size, .ref a_r1_numbers, .ref a_r1_ranks, .ref a_r1_told, .ref a_r1_ones, .ref a_r1_turnsByYear])), (a_r1_numbers, .inl (cI, 10, .inl r1_numbers)), (a_r1_ones, .inl (cJ, 10, .inr (.inl r1_ones))), (a_r1_ranks, .inl (cI, 10, .inl r1_ranks)), (a_r1_told, .inl (cJ, 10, .inr (.inl r1_told))), (a_r1_turnsByYear, .inl (cZ, 10, .inl r1_turnsByYear)), (a_t, .inr (5, [.ref a_t_signs, .int t_length])), (a_t_signs, .inl (cB, 64, .inl t_signs))] H → va_D A [(a_r1, .inr (1, [.int r1_size, .ref a_r1_numbers, .ref a_r1_ranks, .ref a_r1_told, .ref a_r1_ones, .ref a_r1_turnsByYear])), (a_r1_numbers, .inl (cI, 10, .inl r1_numbers)), (a_r1_ones, .inl (cJ, 10, .inr (.inl r1_ones))), (a_r1_ranks, .inl (cI, 10, .inl r1_ranks)), (a_r1_told, .inl (cJ, 10, .inr (.inl r1_told))), (a_r1_turnsByYear, .inl (cZ, 10, .inl r1_turnsByYear)), (a_t, .inr (5, [.ref a_t_signs, .int t_length])), (a_t_signs, .inl (cB, 64, .inl t_signs))] → va_S A s.heap H locs → lv_has ls 11 [] → V H locs (F0 m 172 ls [.int x55, .long x52, .long x36, .int x4, .ref a_r1])) ?_ (fun hJ56 => ?_)
        · intro H locs ls hP hD hS hl
          obtain ⟨x57, g58, g59, g60, g61, g62, he63, h⟩ := zz_b6E h
          refine zz_VV (q := (RX2, TX2, 6)) (As := [.int x4, .long x36, .long x52, .int x55]) (rest := []) (wr := [(a_t, .inr (5, [.ref a_t_signs, .int t_length])), (a_t_signs, .inl (cB, 64, .inl t_signs))]) (wm := [(a_r1, .inr (1, [.int x57, .ref a_r1_numbers, .ref a_r1_ranks, .ref a_r1_told, .ref a_r1_ones, .ref a_r1_turnsByYear])), (a_r1_numbers, .inl (cI, 10, .inl g58)), (a_r1_ones, .inl (cJ, 10, .inr (.inl g59))), (a_r1_ranks, .inl (cI, 10, .inl g60)), (a_r1_told, .inl (cJ, 10, .inr (.inl g61))), (a_r1_turnsByYear, .inl (cZ, 10, .inl g62)), (a_t, .inr (5, [.ref a_t_signs, .int t_length])), (a_t_signs, .inl (cB, 64, .inl t_signs))]) ⟨hx, hb, hml, hown, hts⟩ (ct_X2_addRule l dC dI cI cJ cB cZ a_r1 a_r1_numbers a_r1_ones a_r1_ranks a_r1_told a_r1_turnsByYear r1_size r1_numbers r1_ones r1_ranks r1_told r1_turnsByYear x4 x36 x52 x55 x57 g58 g59 g60 g61 g62 he63) gX6_tellRule_X2_addRule hd_X2_addRule rfl rfl rfl ⟨Nat.le_of_ble_eq_true rfl, Nat.le_of_ble_eq_true rfl⟩ ⟨Nat.le_of_ble_eq_true rfl, Nat.le_of_ble_eq_true rfl⟩ rfl rfl (Nat.le_of_ble_eq_true rfl) dX6_tellRule_172 hl.1 rfl (ci := 1) rfl (q0 := 0) rfl hP hK hD hS hA [0, 1, 2, 3, 4, 5] [6, 7] [2, 3, 4, 5, 6, 7, 0, 1] rfl rfl (by decide) (by decide) (by decide) (by decide) rfl (fun H locs hP hD hS => ?_)
          exact zz_vret (x57, g58, g59, g60, g61, g62) hx hb hr hlocks dX6_tellRule_175 (Option.some.inj h) hP hK hD hS
        refine lv_icmp_ne (tgt := 171) hx hb dX6_tellRule_164 (by decide) (fun c54 => ?_) (fun c54 => ?_)
        · have hj56 := zz_ifn c54 hj56
          refine lv_iconst (v := 0) hx hb dX6_tellRule_171 (by decide) ?_
          cases hj56
          exact hJ56 _ _ ls hP hD hS (lv_sub hl [] rfl)
        · have hj56 := zz_if c54 hj56
          refine lv_iconst (v := 1) hx hb dX6_tellRule_167 (by decide) ?_
          refine lv_goto (tgt := 172) hx hb dX6_tellRule_168 (by decide) ?_
          cases hj56
          exact hJ56 _ _ ls hP hD hS (lv_sub hl [] rfl)
      refine lv_icmp_ne (tgt := 152) hx hb dX6_tellRule_144 (by decide) (fun c51 => ?_) (fun c51 => ?_)
      · have hj53 := zz_ifn c51 hj53
        refine lv_lload hx hb dX6_tellRule_152 (lv_at hl 4 rfl) ?_
        refine lv_lload hx hb dX6_tellRule_154 (lv_at hl 5 rfl) ?_
        refine lv_ldc2 (v := (-1)) hx hb hown (hts _ lk_X6_tellRule_1) dX6_tellRule_156 ?_
        refine lv_lxor hx hb dX6_tellRule_159 ?_
        refine lv_land hx hb dX6_tellRule_160 ?_
        cases hj53
        exact hJ53 _ _ ls hP hD hS (lv_sub hl [1] rfl)
      · have hj53 := zz_if c51 hj53
        refine lv_lload hx hb dX6_tellRule_147 (lv_at hl 5 rfl) ?_
        refine lv_goto (tgt := 161) hx hb dX6_tellRule_149 (by decide) ?_
        cases hj53
        exact hJ53 _ _ ls hP hD hS (lv_sub hl [1] rfl)
    refine lv_icmp_ne (tgt := 136) hx hb dX6_tellRule_102 (by decide) (fun c38 => ?_) (fun c38 => ?_)
    · have hj50 := zz_ifn c38 hj50
      cases hj50
      exact hJ50 _ _ ls hP hD hS (lv_sub hl [2, 4, 5, 6, 7, 0] rfl)
    · have hj50 := zz_if c38 hj50
      refine lv_aload_n hx hb dX6_tellRule_105 rfl (lv_at hl 1 rfl) ?_
      refine lv_iload_n hx hb dX6_tellRule_106 rfl (lv_at hl 3 rfl) ?_
      refine lv_iconst (v := 2) hx hb dX6_tellRule_107 (by decide) ?_
      refine lv_iadd hx hb dX6_tellRule_108 ?_
      obtain ⟨x64, u65, he66, hj50⟩ := zz_b2E hj50
      refine zz_VI (q := (RX6, TX6, 2)) (As := [.int (p2 + 2)]) (rest := []) (wr := [(a_r1, .inr (1, [.int r1_size, .ref a_r1_numbers, .ref a_r1_ranks, .ref a_r1_told, .ref a_r1_ones, .ref a_r1_turnsByYear])), (a_r1_numbers, .inl (cI, 10, .inl r1_numbers)), (a_r1_ones, .inl (cJ, 10, .inr (.inl r1_ones))), (a_r1_ranks, .inl (cI, 10, .inl r1_ranks)), (a_r1_told, .inl (cJ, 10, .inr (.inl r1_told))), (a_r1_turnsByYear, .inl (cZ, 10, .inl r1_turnsByYear))]) (wm := [(a_r1, .inr (1, [.int r1_size, .ref a_r1_numbers, .ref a_r1_ranks, .ref a_r1_told, .ref a_r1_ones, .ref a_r1_turnsByYear])), (a_r1_numbers, .inl (cI, 10, .inl r1_numbers)), (a_r1_ones, .inl (cJ, 10, .inr (.inl r1_ones))), (a_r1_ranks, .inl (cI, 10, .inl r1_ranks)), (a_r1_told, .inl (cJ, 10, .inr (.inl r1_told))), (a_r1_turnsByYear, .inl (cZ, 10, .inl r1_turnsByYear)), (a_t, .inr (5, [.ref a_t_signs, .int t_length])), (a_t_signs, .inl (cB, 64, .inl t_signs))]) ⟨hx, hb, hml, hown, hts⟩ (ct_X6_nightAt l dC dI cI cJ cB cZ a_t a_t_signs t_length t_signs (p2 + 2) x64 u65 he66) gX6_tellRule_X6_nightAt hd_X6_nightAt rfl rfl rfl ⟨Nat.le_of_ble_eq_true rfl, Nat.le_of_ble_eq_true rfl⟩ ⟨Nat.le_of_ble_eq_true rfl, Nat.le_of_ble_eq_true rfl⟩ rfl rfl (Nat.le_of_ble_eq_true rfl) dX6_tellRule_109 hl.1 rfl (ci := 5) rfl (q0 := 6) rfl hP hK hD hS hA [6, 7] [0, 1, 2, 3, 4, 5] [0, 1, 2, 3, 4, 5, 6, 7] rfl rfl (by decide) (by decide) (by decide) (by decide) rfl (fun H locs hP hD hS => ?_)
      refine lv_istore (lv' := [(10, .int x64), (8, .long x36), (0, .ref a_t), (1, .ref a_r1), (2, .int p2), (3, .int x1), (4, .int x4), (5, .int x10), (6, .long x36)]) hx hb dX6_tellRule_112 hl (by decide) rfl (fun ls hl => ?_)
      refine lv_iload hx hb dX6_tellRule_114 (lv_at hl 0 rfl) ?_
      refine lv_iload hx hb dX6_tellRule_116 (lv_at hl 0 rfl) ?_
      refine lv_aload_n hx hb dX6_tellRule_118 rfl (lv_at hl 2 rfl) ?_
      refine lv_iload_n hx hb dX6_tellRule_119 rfl (lv_at hl 4 rfl) ?_
      refine lv_iconst (v := 4) hx hb dX6_tellRule_120 (by decide) ?_
      refine lv_iadd hx hb dX6_tellRule_121 ?_
      obtain ⟨x67, u68, he69, hj50⟩ := zz_b2E hj50
      refine zz_VI (q := (RX6, TX6, 2)) (As := [.int (p2 + 4)]) (rest := [.int x64, .int x64]) (wr := [(a_r1, .inr (1, [.int r1_size, .ref a_r1_numbers, .ref a_r1_ranks, .ref a_r1_told, .ref a_r1_ones, .ref a_r1_turnsByYear])), (a_r1_numbers, .inl (cI, 10, .inl r1_numbers)), (a_r1_ones, .inl (cJ, 10, .inr (.inl r1_ones))), (a_r1_ranks, .inl (cI, 10, .inl r1_ranks)), (a_r1_told, .inl (cJ, 10, .inr (.inl r1_told))), (a_r1_turnsByYear, .inl (cZ, 10, .inl r1_turnsByYear))]) (wm := [(a_r1, .inr (1, [.int r1_size, .ref a_r1_numbers, .ref a_r1_ranks, .ref a_r1_told, .ref a_r1_ones, .ref a_r1_turnsByYear])), (a_r1_numbers, .inl (cI, 10, .inl r1_numbers)), (a_r1_ones, .inl (cJ, 10, .inr (.inl r1_ones))), (a_r1_ranks, .inl (cI, 10, .inl r1_ranks)), (a_r1_told, .inl (cJ, 10, .inr (.inl r1_told))), (a_r1_turnsByYear, .inl (cZ, 10, .inl r1_turnsByYear)), (a_t, .inr (5, [.ref a_t_signs, .int t_length])), (a_t_signs, .inl (cB, 64, .inl t_signs))]) ⟨hx, hb, hml, hown, hts⟩ (ct_X6_nightAt l dC dI cI cJ cB cZ a_t a_t_signs t_length t_signs (p2 + 4) x67 u68 he69) gX6_tellRule_X6_nightAt hd_X6_nightAt rfl rfl rfl ⟨Nat.le_of_ble_eq_true rfl, Nat.le_of_ble_eq_true rfl⟩ ⟨Nat.le_of_ble_eq_true rfl, Nat.le_of_ble_eq_true rfl⟩ rfl rfl (Nat.le_of_ble_eq_true rfl) dX6_tellRule_122 hl.1 rfl (ci := 5) rfl (q0 := 6) rfl hP hK hD hS hA [6, 7] [0, 1, 2, 3, 4, 5] [0, 1, 2, 3, 4, 5, 6, 7] rfl rfl (by decide) (by decide) (by decide) (by decide) rfl (fun H locs hP hD hS => ?_)
      refine lv_iload hx hb dX6_tellRule_125 (lv_at hl 0 rfl) ?_
      refine lv_isub hx hb dX6_tellRule_127 ?_
      refine lv_iconst (v := 2) hx hb dX6_tellRule_128 (by decide) ?_
      refine lv_idiv hx hb dX6_tellRule_129 (by decide) ?_
      refine lv_iadd hx hb dX6_tellRule_130 ?_
      obtain ⟨x71, u72, he73, hj50⟩ := zz_b2E hj50
      refine zz_PL (As := [.int x64, .int (x64 + ((x67 - x64) / 2))]) (rest := []) ⟨hx, hb, hml, hown, hts⟩ (ct_X1_span l dC dI cI cJ cB cZ x64 (x64 + ((x67 - x64) / 2)) x71 u72 he73) gX6_tellRule_X1_span hd_X1_span rfl rfl rfl ⟨Nat.le_of_ble_eq_true rfl, Nat.le_of_ble_eq_true rfl⟩ ⟨Nat.le_of_ble_eq_true rfl, Nat.le_of_ble_eq_true rfl⟩ rfl rfl (Nat.le_of_ble_eq_true rfl) dX6_tellRule_131 hl.1 hP hK hS hA (fun H locs hP hS => ?_)
      refine lv_lstore (lv' := [(8, .long x71), (10, .int x64), (0, .ref a_t), (1, .ref a_r1), (2, .int p2), (3, .int x1), (4, .int x4), (5, .int x10), (6, .long x36)]) hx hb dX6_tellRule_134 hl (by decide) rfl (fun ls hl => ?_)
      cases hj50
      exact hJ50 _ _ ls hP hD hS (lv_sub hl [3, 5, 6, 7, 8, 0] rfl)
  refine lv_icmp_ne (tgt := 70) hx hb dX6_tellRule_38 (by decide) (fun c13 => ?_) (fun c13 => ?_)
  · have hj37 := zz_ifn c13 hj37
    refine lv_iload_n hx hb dX6_tellRule_70 rfl (lv_at hl 3 rfl) ?_
    refine lv_bipush (v := 69) hx hb dX6_tellRule_71 (by decide) ?_
    refine lv_icmp_eq (tgt := 95) hx hb dX6_tellRule_73 (by decide) (fun c74 => ?_) (fun c74 => ?_)
    · have hj37 := zz_if c74 hj37
      cases hj37
      exact hJ37 _ _ ls hP hD hS (lv_sub hl [4, 5, 6, 3, 2, 1, 0] rfl)
    · have hj37 := zz_ifn c74 hj37
      refine lv_aload_n hx hb dX6_tellRule_76 rfl (lv_at hl 4 rfl) ?_
      refine lv_iload_n hx hb dX6_tellRule_77 rfl (lv_at hl 6 rfl) ?_
      refine lv_iconst (v := 2) hx hb dX6_tellRule_78 (by decide) ?_
      refine lv_iadd hx hb dX6_tellRule_79 ?_
      obtain ⟨x75, u76, he77, hj37⟩ := zz_b2E hj37
      refine zz_VI (q := (RX6, TX6, 2)) (As := [.int (p2 + 2)]) (rest := []) (wr := [(a_r1, .inr (1, [.int r1_size, .ref a_r1_numbers, .ref a_r1_ranks, .ref a_r1_told, .ref a_r1_ones, .ref a_r1_turnsByYear])), (a_r1_numbers, .inl (cI, 10, .inl r1_numbers)), (a_r1_ones, .inl (cJ, 10, .inr (.inl r1_ones))), (a_r1_ranks, .inl (cI, 10, .inl r1_ranks)), (a_r1_told, .inl (cJ, 10, .inr (.inl r1_told))), (a_r1_turnsByYear, .inl (cZ, 10, .inl r1_turnsByYear))]) (wm := [(a_r1, .inr (1, [.int r1_size, .ref a_r1_numbers, .ref a_r1_ranks, .ref a_r1_told, .ref a_r1_ones, .ref a_r1_turnsByYear])), (a_r1_numbers, .inl (cI, 10, .inl r1_numbers)), (a_r1_ones, .inl (cJ, 10, .inr (.inl r1_ones))), (a_r1_ranks, .inl (cI, 10, .inl r1_ranks)), (a_r1_told, .inl (cJ, 10, .inr (.inl r1_told))), (a_r1_turnsByYear, .inl (cZ, 10, .inl r1_turnsByYear)), (a_t, .inr (5, [.ref a_t_signs, .int t_length])), (a_t_signs, .inl (cB, 64, .inl t_signs))]) ⟨hx, hb, hml, hown, hts⟩ (ct_X6_nightAt l dC dI cI cJ cB cZ a_t a_t_signs t_length t_signs (p2 + 2) x75 u76 he77) gX6_tellRule_X6_nightAt hd_X6_nightAt rfl rfl rfl ⟨Nat.le_of_ble_eq_true rfl, Nat.le_of_ble_eq_true rfl⟩ ⟨Nat.le_of_ble_eq_true rfl, Nat.le_of_ble_eq_true rfl⟩ rfl rfl (Nat.le_of_ble_eq_true rfl) dX6_tellRule_80 hl.1 rfl (ci := 5) rfl (q0 := 6) rfl hP hK hD hS hA [6, 7] [0, 1, 2, 3, 4, 5] [0, 1, 2, 3, 4, 5, 6, 7] rfl rfl (by decide) (by decide) (by decide) (by decide) rfl (fun H locs hP hD hS => ?_)
      refine lv_aload_n hx hb dX6_tellRule_83 rfl (lv_at hl 4 rfl) ?_
      refine lv_iload_n hx hb dX6_tellRule_84 rfl (lv_at hl 6 rfl) ?_
      refine lv_iconst (v := 4) hx hb dX6_tellRule_85 (by decide) ?_
      refine lv_iadd hx hb dX6_tellRule_86 ?_
      obtain ⟨x78, u79, he80, hj37⟩ := zz_b2E hj37
      refine zz_VI (q := (RX6, TX6, 2)) (As := [.int (p2 + 4)]) (rest := [.int x75]) (wr := [(a_r1, .inr (1, [.int r1_size, .ref a_r1_numbers, .ref a_r1_ranks, .ref a_r1_told, .ref a_r1_ones, .ref a_r1_turnsByYear])), (a_r1_numbers, .inl (cI, 10, .inl r1_numbers)), (a_r1_ones, .inl (cJ, 10, .inr (.inl r1_ones))), (a_r1_ranks, .inl (cI, 10, .inl r1_ranks)), (a_r1_told, .inl (cJ, 10, .inr (.inl r1_told))), (a_r1_turnsByYear, .inl (cZ, 10, .inl r1_turnsByYear))]) (wm := [(a_r1, .inr (1, [.int r1_size, .ref a_r1_numbers, .ref a_r1_ranks, .ref a_r1_told, .ref a_r1_ones, .ref a_r1_turnsByYear])), (a_r1_numbers, .inl (cI, 10, .inl r1_numbers)), (a_r1_ones, .inl (cJ, 10, .inr (.inl r1_ones))), (a_r1_ranks, .inl (cI, 10, .inl r1_ranks)), (a_r1_told, .inl (cJ, 10, .inr (.inl r1_told))), (a_r1_turnsByYear, .inl (cZ, 10, .inl r1_turnsByYear)), (a_t, .inr (5, [.ref a_t_signs, .int t_length])), (a_t_signs, .inl (cB, 64, .inl t_signs))]) ⟨hx, hb, hml, hown, hts⟩ (ct_X6_nightAt l dC dI cI cJ cB cZ a_t a_t_signs t_length t_signs (p2 + 4) x78 u79 he80) gX6_tellRule_X6_nightAt hd_X6_nightAt rfl rfl rfl ⟨Nat.le_of_ble_eq_true rfl, Nat.le_of_ble_eq_true rfl⟩ ⟨Nat.le_of_ble_eq_true rfl, Nat.le_of_ble_eq_true rfl⟩ rfl rfl (Nat.le_of_ble_eq_true rfl) dX6_tellRule_87 hl.1 rfl (ci := 5) rfl (q0 := 6) rfl hP hK hD hS hA [6, 7] [0, 1, 2, 3, 4, 5] [0, 1, 2, 3, 4, 5, 6, 7] rfl rfl (by decide) (by decide) (by decide) (by decide) rfl (fun H locs hP hD hS => ?_)
      obtain ⟨x81, u82, he83, hj37⟩ := zz_b2E hj37
      refine zz_PL (As := [.int x75, .int x78]) (rest := []) ⟨hx, hb, hml, hown, hts⟩ (ct_X1_span l dC dI cI cJ cB cZ x75 x78 x81 u82 he83) gX6_tellRule_X1_span hd_X1_span rfl rfl rfl ⟨Nat.le_of_ble_eq_true rfl, Nat.le_of_ble_eq_true rfl⟩ ⟨Nat.le_of_ble_eq_true rfl, Nat.le_of_ble_eq_true rfl⟩ rfl rfl (Nat.le_of_ble_eq_true rfl) dX6_tellRule_90 hl.1 hP hK hS hA (fun H locs hP hS => ?_)
      refine lv_lstore (lv' := [(6, .long x81), (5, .int x10), (4, .int x4), (3, .int x1), (0, .ref a_t), (1, .ref a_r1), (2, .int p2)]) hx hb dX6_tellRule_93 hl (by decide) rfl (fun ls hl => ?_)
      cases hj37
      exact hJ37 _ _ ls hP hD hS (lv_sub hl [4, 5, 6, 3, 2, 1, 0] rfl)
  · have hj37 := zz_if c13 hj37
    refine lv_aload_n hx hb dX6_tellRule_41 rfl (lv_at hl 4 rfl) ?_
    refine lv_iload_n hx hb dX6_tellRule_42 rfl (lv_at hl 6 rfl) ?_
    refine lv_iconst (v := 2) hx hb dX6_tellRule_43 (by decide) ?_
    refine lv_iadd hx hb dX6_tellRule_44 ?_
    obtain ⟨x84, u85, he86, hj37⟩ := zz_b2E hj37
    refine zz_VI (q := (RX6, TX6, 2)) (As := [.int (p2 + 2)]) (rest := []) (wr := [(a_r1, .inr (1, [.int r1_size, .ref a_r1_numbers, .ref a_r1_ranks, .ref a_r1_told, .ref a_r1_ones, .ref a_r1_turnsByYear])), (a_r1_numbers, .inl (cI, 10, .inl r1_numbers)), (a_r1_ones, .inl (cJ, 10, .inr (.inl r1_ones))), (a_r1_ranks, .inl (cI, 10, .inl r1_ranks)), (a_r1_told, .inl (cJ, 10, .inr (.inl r1_told))), (a_r1_turnsByYear, .inl (cZ, 10, .inl r1_turnsByYear))]) (wm := [(a_r1, .inr (1, [.int r1_size, .ref a_r1_numbers, .ref a_r1_ranks, .ref a_r1_told, .ref a_r1_ones, .ref a_r1_turnsByYear])), (a_r1_numbers, .inl (cI, 10, .inl r1_numbers)), (a_r1_ones, .inl (cJ, 10, .inr (.inl r1_ones))), (a_r1_ranks, .inl (cI, 10, .inl r1_ranks)), (a_r1_told, .inl (cJ, 10, .inr (.inl r1_told))), (a_r1_turnsByYear, .inl (cZ, 10, .inl r1_turnsByYear)), (a_t, .inr (5, [.ref a_t_signs, .int t_length])), (a_t_signs, .inl (cB, 64, .inl t_signs))]) ⟨hx, hb, hml, hown, hts⟩ (ct_X6_figureAt l dC dI cI cJ cB cZ a_t a_t_signs t_length t_signs (p2 + 2) x84 u85 he86) gX6_tellRule_X6_figureAt hd_X6_figureAt rfl rfl rfl ⟨Nat.le_of_ble_eq_true rfl, Nat.le_of_ble_eq_true rfl⟩ ⟨Nat.le_of_ble_eq_true rfl, Nat.le_of_ble_eq_true rfl⟩ rfl rfl (Nat.le_of_ble_eq_true rfl) dX6_tellRule_45 hl.1 rfl (ci := 5) rfl (q0 := 6) rfl hP hK hD hS hA [6, 7] [0, 1, 2, 3, 4, 5] [0, 1, 2, 3, 4, 5, 6, 7] rfl rfl (by decide) (by decide) (by decide) (by decide) rfl (fun H locs hP hD hS => ?_)
    refine lv_aload_n hx hb dX6_tellRule_48 rfl (lv_at hl 4 rfl) ?_
    refine lv_iload_n hx hb dX6_tellRule_49 rfl (lv_at hl 6 rfl) ?_
    refine lv_iconst (v := 3) hx hb dX6_tellRule_50 (by decide) ?_
    refine lv_iadd hx hb dX6_tellRule_51 ?_
    obtain ⟨x87, u88, he89, hj37⟩ := zz_b2E hj37
    refine zz_VI (q := (RX6, TX6, 2)) (As := [.int (p2 + 3)]) (rest := [.int x84]) (wr := [(a_r1, .inr (1, [.int r1_size, .ref a_r1_numbers, .ref a_r1_ranks, .ref a_r1_told, .ref a_r1_ones, .ref a_r1_turnsByYear])), (a_r1_numbers, .inl (cI, 10, .inl r1_numbers)), (a_r1_ones, .inl (cJ, 10, .inr (.inl r1_ones))), (a_r1_ranks, .inl (cI, 10, .inl r1_ranks)), (a_r1_told, .inl (cJ, 10, .inr (.inl r1_told))), (a_r1_turnsByYear, .inl (cZ, 10, .inl r1_turnsByYear))]) (wm := [(a_r1, .inr (1, [.int r1_size, .ref a_r1_numbers, .ref a_r1_ranks, .ref a_r1_told, .ref a_r1_ones, .ref a_r1_turnsByYear])), (a_r1_numbers, .inl (cI, 10, .inl r1_numbers)), (a_r1_ones, .inl (cJ, 10, .inr (.inl r1_ones))), (a_r1_ranks, .inl (cI, 10, .inl r1_ranks)), (a_r1_told, .inl (cJ, 10, .inr (.inl r1_told))), (a_r1_turnsByYear, .inl (cZ, 10, .inl r1_turnsByYear)), (a_t, .inr (5, [.ref a_t_signs, .int t_length])), (a_t_signs, .inl (cB, 64, .inl t_signs))]) ⟨hx, hb, hml, hown, hts⟩ (ct_X6_figureAt l dC dI cI cJ cB cZ a_t a_t_signs t_length t_signs (p2 + 3) x87 u88 he89) gX6_tellRule_X6_figureAt hd_X6_figureAt rfl rfl rfl ⟨Nat.le_of_ble_eq_true rfl, Nat.le_of_ble_eq_true rfl⟩ ⟨Nat.le_of_ble_eq_true rfl, Nat.le_of_ble_eq_true rfl⟩ rfl rfl (Nat.le_of_ble_eq_true rfl) dX6_tellRule_52 hl.1 rfl (ci := 5) rfl (q0 := 6) rfl hP hK hD hS hA [6, 7] [0, 1, 2, 3, 4, 5] [0, 1, 2, 3, 4, 5, 6, 7] rfl rfl (by decide) (by decide) (by decide) (by decide) rfl (fun H locs hP hD hS => ?_)
    refine lv_aload_n hx hb dX6_tellRule_55 rfl (lv_at hl 4 rfl) ?_
    refine lv_iload_n hx hb dX6_tellRule_56 rfl (lv_at hl 6 rfl) ?_
    refine lv_iconst (v := 4) hx hb dX6_tellRule_57 (by decide) ?_
    refine lv_iadd hx hb dX6_tellRule_58 ?_
    obtain ⟨x90, u91, he92, hj37⟩ := zz_b2E hj37
    refine zz_VI (q := (RX6, TX6, 2)) (As := [.int (p2 + 4)]) (rest := [.int x87, .int x84]) (wr := [(a_r1, .inr (1, [.int r1_size, .ref a_r1_numbers, .ref a_r1_ranks, .ref a_r1_told, .ref a_r1_ones, .ref a_r1_turnsByYear])), (a_r1_numbers, .inl (cI, 10, .inl r1_numbers)), (a_r1_ones, .inl (cJ, 10, .inr (.inl r1_ones))), (a_r1_ranks, .inl (cI, 10, .inl r1_ranks)), (a_r1_told, .inl (cJ, 10, .inr (.inl r1_told))), (a_r1_turnsByYear, .inl (cZ, 10, .inl r1_turnsByYear))]) (wm := [(a_r1, .inr (1, [.int r1_size, .ref a_r1_numbers, .ref a_r1_ranks, .ref a_r1_told, .ref a_r1_ones, .ref a_r1_turnsByYear])), (a_r1_numbers, .inl (cI, 10, .inl r1_numbers)), (a_r1_ones, .inl (cJ, 10, .inr (.inl r1_ones))), (a_r1_ranks, .inl (cI, 10, .inl r1_ranks)), (a_r1_told, .inl (cJ, 10, .inr (.inl r1_told))), (a_r1_turnsByYear, .inl (cZ, 10, .inl r1_turnsByYear)), (a_t, .inr (5, [.ref a_t_signs, .int t_length])), (a_t_signs, .inl (cB, 64, .inl t_signs))]) ⟨hx, hb, hml, hown, hts⟩ (ct_X6_figureAt l dC dI cI cJ cB cZ a_t a_t_signs t_length t_signs (p2 + 4) x90 u91 he92) gX6_tellRule_X6_figureAt hd_X6_figureAt rfl rfl rfl ⟨Nat.le_of_ble_eq_true rfl, Nat.le_of_ble_eq_true rfl⟩ ⟨Nat.le_of_ble_eq_true rfl, Nat.le_of_ble_eq_true rfl⟩ rfl rfl (Nat.le_of_ble_eq_true rfl) dX6_tellRule_59 hl.1 rfl (ci := 5) rfl (q0 := 6) rfl hP hK hD hS hA [6, 7] [0, 1, 2, 3, 4, 5] [0, 1, 2, 3, 4, 5, 6, 7] rfl rfl (by decide) (by decide) (by decide) (by decide) rfl (fun H locs hP hD hS => ?_)
    obtain ⟨x93, u94, he95, hj37⟩ := zz_b2E hj37
    refine zz_PL (As := [.int x84, .int x87, .int x90]) (rest := []) ⟨hx, hb, hml, hown, hts⟩ (ct_X6_inWeeks l dC dI cI cJ cB cZ x84 x87 x90 x93 u94 he95) gX6_tellRule_X6_inWeeks hd_X6_inWeeks rfl rfl rfl ⟨Nat.le_of_ble_eq_true rfl, Nat.le_of_ble_eq_true rfl⟩ ⟨Nat.le_of_ble_eq_true rfl, Nat.le_of_ble_eq_true rfl⟩ rfl rfl (Nat.le_of_ble_eq_true rfl) dX6_tellRule_62 hl.1 hP hK hS hA (fun H locs hP hS => ?_)
    refine lv_lstore (lv' := [(6, .long x93), (5, .int x10), (4, .int x4), (3, .int x1), (0, .ref a_t), (1, .ref a_r1), (2, .int p2)]) hx hb dX6_tellRule_65 hl (by decide) rfl (fun ls hl => ?_)
    refine lv_goto (tgt := 95) hx hb dX6_tellRule_67 (by decide) ?_
    cases hj37
    exact hJ37 _ _ ls hP hD hS (lv_sub hl [4, 5, 6, 3, 2, 1, 0] rfl)
