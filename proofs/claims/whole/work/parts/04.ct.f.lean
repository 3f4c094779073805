theorem hd_X8_swap : yX8_swap.cls ≠ "java/lang/invoke/MethodHandle" ∧ yX8_swap.cls ≠ "java/lang/invoke/VarHandle" ∧ (parseMethodDescriptor yX8_swap.desc).map (fun d => d.parameters.length) = some 2 := by decide +kernel
set_option maxRecDepth 20000 in
theorem in_X8_swap_X8 : ∀ w ∈ u_ws RX8 TX8 10, w ∈ wsX8_swap := by decide +kernel
set_option maxRecDepth 20000 in
theorem in_X8_swap_X5 : ∀ w ∈ u_ws RX5 TX5 5, w ∈ wsX8_swap := by decide +kernel
set_option maxRecDepth 20000 in
theorem lk_X8_swap_0 : Cond.fieldLink RX8 19 "TwoHousesOneChild" "now" "LTwoHousesOneChild$Standing;" ∈ wsX8_swap := by decide +kernel
set_option maxRecDepth 20000 in
theorem lk_X8_swap_1 : Cond.fieldLink RX8 136 "TwoHousesOneChild$Standing" "plan" "J" ∈ wsX8_swap := by decide +kernel
set_option maxRecDepth 20000 in
theorem lk_X8_swap_2 : Cond.fieldLink RX8 32 "TwoHousesOneChild" "wishes" "LTwoHousesOneChild$Wishes;" ∈ wsX8_swap := by decide +kernel
set_option maxHeartbeats 4000000 in
set_option maxRecDepth 100000 in
theorem ct_X8_swap (l : Launch) (dC : Nat → ClassId) (dI : Nat → Nat → Nat) (cI cJ cB cZ : ClassId) (a_t a_t_now a_t_wishes a_t_wishes_against a_t_text a_t_slotZero a_t_slotOne a_t_planner a_t_mending a_t_reading a_t_otherReading a_t_now_paper a_t_now_timesLate a_t_now_paid : Nat) (t_theYear : Int32) (t_now_plan : Int64) (t_now_isKept : Int32) (t_wishes_longest : Int32) (t_wishes_perLong : Int32) (t_wishes_perHanding : Int32) (t_wishes_wants : Int32) (t_wishes_against : (Nat → Int32)) (p1 : Int32) (p2 : Int32) (rr : Int32) (o1 : Int64) (h : fn_X8_swap t_now_plan t_wishes_longest t_wishes_perLong t_wishes_perHanding t_wishes_wants t_wishes_against p1 p2 = some (rr, o1)) : zz_M l yX8_swap wsX8_swap ({ frames := 3, cells := 0, slots := 0, locals := 72 }) (dC, dI) (zz_T cI cJ cB cZ) [.ref a_t, .int p1, .int p2] [(a_t, .inr (7, [.ref a_t_text, .ref a_t_now, .ref a_t_slotZero, .ref a_t_slotOne, .ref a_t_wishes, .ref a_t_planner, .ref a_t_mending, .ref a_t_reading, .ref a_t_otherReading, .int t_theYear])), (a_t_now, .inr (4, [.ref a_t_now_paper, .long t_now_plan, .ref a_t_now_timesLate, .ref a_t_now_paid, .int t_now_isKept])), (a_t_wishes, .inr (6, [.int t_wishes_longest, .int t_wishes_perLong, .int t_wishes_perHanding, .int t_wishes_wants, .ref a_t_wishes_against])), (a_t_wishes_against, .inl (cI, 112, .inl t_wishes_against))] (zz_QI (dC, dI) (zz_T cI cJ cB cZ) (rr, o1) (fun (u : Int64) => [(a_t, .inr (7, [.ref a_t_text, .ref a_t_now, .ref a_t_slotZero, .ref a_t_slotOne, .ref a_t_wishes, .ref a_t_planner, .ref a_t_mending, .ref a_t_reading, .ref a_t_otherReading, .int t_theYear])), (a_t_now, .inr (4, [.ref a_t_now_paper, .long u, .ref a_t_now_timesLate, .ref a_t_now_paid, .int t_now_isKept])), (a_t_wishes, .inr (6, [.int t_wishes_longest, .int t_wishes_perLong, .int t_wishes_perHanding, .int t_wishes_wants, .ref a_t_wishes_against])), (a_t_wishes_against, .inl (cI, 112, .inl t_wishes_against))])) := by
  unfold fn_X8_swap at h
  refine zz_of (by decide) rfl (Nat.le_of_ble_eq_true rfl) ?_
  intro p e s m below meth c A ls hx hb hr hml hts hown hlocks hA hS hP hK hD hl
  have hown : s.vm.findClass RX8 = some m.cls := hown
  have hl : lv_has ls 4 [(0, .ref a_t), (1, .int p1), (2, .int p2)] := hl
  refine lv_iload_n hx hb dX8_swap_0 rfl (lv_at hl 1 rfl) ?_
  obtain ⟨x1, u2, he3, h⟩ := zz_b2E h
  refine zz_PI (As := [.int p1]) (rest := []) ⟨hx, hb, hml, hown, hts⟩ (ct_X8_isNight l dC dI cI cJ cB cZ p1 x1 u2 he3) gX8_swap_X8_isNight hd_X8_isNight rfl rfl rfl ⟨Nat.le_of_ble_eq_true rfl, Nat.le_of_ble_eq_true rfl⟩ ⟨Nat.le_of_ble_eq_true rfl, Nat.le_of_ble_eq_true rfl⟩ rfl rfl (Nat.le_of_ble_eq_true rfl) dX8_swap_1 hl.1 hP hK hS hA (fun H locs hP hS => ?_)
  refine lv_if_eq (tgt := 14) hx hb dX8_swap_4 (by decide) (fun c4 => ?_) (fun c4 => ?_)
  · have h := zz_if c4 h
    refine lv_iconst (v := (-1)) hx hb dX8_swap_14 (by decide) ?_
    exact zz_iret t_now_plan hx hb hr hlocks dX8_swap_15 (Option.some.inj h) hP hK hD hS
  · have h := zz_ifn c4 h
    refine lv_iload_n hx hb dX8_swap_7 rfl (lv_at hl 2 rfl) ?_
    obtain ⟨x5, u6, he7, h⟩ := zz_b2E h
    refine zz_PI (As := [.int p2]) (rest := []) ⟨hx, hb, hml, hown, hts⟩ (ct_X8_isNight l dC dI cI cJ cB cZ p2 x5 u6 he7) gX8_swap_X8_isNight hd_X8_isNight rfl rfl rfl ⟨Nat.le_of_ble_eq_true rfl, Nat.le_of_ble_eq_true rfl⟩ ⟨Nat.le_of_ble_eq_true rfl, Nat.le_of_ble_eq_true rfl⟩ rfl rfl (Nat.le_of_ble_eq_true rfl) dX8_swap_8 hl.1 hP hK hS hA (fun H locs hP hS => ?_)
    refine lv_if_ne (tgt := 16) hx hb dX8_swap_11 (by decide) (fun c8 => ?_) (fun c8 => ?_)
    · have h := zz_ifn c8 h
      refine lv_aload_n hx hb dX8_swap_16 rfl (lv_at hl 0 rfl) ?_
      refine va_get (ci := 7) (v := .ref a_t_now) (C := RX8) (T := TX8) (N := 10) hx hb hts in_X8_swap_X8 hown hK hP 0 rfl rfl 1 (by decide) (hts _ lk_X8_swap_0) (fun _ h9 => h9) rfl dX8_swap_17 ?_
      refine va_get (ci := 4) (v := .long t_now_plan) (C := RX5) (T := TX5) (N := 5) hx hb hts in_X8_swap_X5 hown hK hP 1 rfl rfl 1 (by decide) (hts _ lk_X8_swap_1) (fun _ h9 => h9) rfl dX8_swap_20 ?_
      refine lv_iload_n hx hb dX8_swap_23 rfl (lv_at hl 1 rfl) ?_
      obtain ⟨x9, u10, he11, h⟩ := zz_b2E h
      refine zz_PI (As := [.long t_now_plan, .int p1]) (rest := []) ⟨hx, hb, hml, hown, hts⟩ (ct_X1_houseAt l dC dI cI cJ cB cZ t_now_plan p1 x9 u10 he11) gX8_swap_X1_houseAt hd_X1_houseAt rfl rfl rfl ⟨Nat.le_of_ble_eq_true rfl, Nat.le_of_ble_eq_true rfl⟩ ⟨Nat.le_of_ble_eq_true rfl, Nat.le_of_ble_eq_true rfl⟩ rfl rfl (Nat.le_of_ble_eq_true rfl) dX8_swap_24 hl.1 hP hK hS hA (fun H locs hP hS => ?_)
      refine lv_aload_n hx hb dX8_swap_27 rfl (lv_at hl 0 rfl) ?_
      refine va_get (ci := 7) (v := .ref a_t_now) (C := RX8) (T := TX8) (N := 10) hx hb hts in_X8_swap_X8 hown hK hP 0 rfl rfl 1 (by decide) (hts _ lk_X8_swap_0) (fun _ h9 => h9) rfl dX8_swap_28 ?_
      refine va_get (ci := 4) (v := .long t_now_plan) (C := RX5) (T := TX5) (N := 5) hx hb hts in_X8_swap_X5 hown hK hP 1 rfl rfl 1 (by decide) (hts _ lk_X8_swap_1) (fun _ h9 => h9) rfl dX8_swap_31 ?_
      refine lv_iload_n hx hb dX8_swap_34 rfl (lv_at hl 2 rfl) ?_
      obtain ⟨x12, u13, he14, h⟩ := zz_b2E h
      refine zz_PI (As := [.long t_now_plan, .int p2]) (rest := [.int x9]) ⟨hx, hb, hml, hown, hts⟩ (ct_X1_houseAt l dC dI cI cJ cB cZ t_now_plan p2 x12 u13 he14) gX8_swap_X1_houseAt hd_X1_houseAt rfl rfl rfl ⟨Nat.le_of_ble_eq_true rfl, Nat.le_of_ble_eq_true rfl⟩ ⟨Nat.le_of_ble_eq_true rfl, Nat.le_of_ble_eq_true rfl⟩ rfl rfl (Nat.le_of_ble_eq_true rfl) dX8_swap_35 hl.1 hP hK hS hA (fun H locs hP hS => ?_)
      refine lv_icmp_ne (tgt := 44) hx hb dX8_swap_38 (by decide) (fun c15 => ?_) (fun c15 => ?_)
      · have h := zz_ifn c15 h
        refine lv_aload_n hx hb dX8_swap_44 rfl (lv_at hl 0 rfl) ?_
        refine va_get (ci := 7) (v := .ref a_t_wishes) (C := RX8) (T := TX8) (N := 10) hx hb hts in_X8_swap_X8 hown hK hP 0 rfl rfl 4 (by decide) (hts _ lk_X8_swap_2) (fun _ h9 => h9) rfl dX8_swap_45 ?_
        refine lv_aload_n hx hb dX8_swap_48 rfl (lv_at hl 0 rfl) ?_
        refine va_get (ci := 7) (v := .ref a_t_now) (C := RX8) (T := TX8) (N := 10) hx hb hts in_X8_swap_X8 hown hK hP 0 rfl rfl 1 (by decide) (hts _ lk_X8_swap_0) (fun _ h9 => h9) rfl dX8_swap_49 ?_
        refine va_get (ci := 4) (v := .long t_now_plan) (C := RX5) (T := TX5) (N := 5) hx hb hts in_X8_swap_X5 hown hK hP 1 rfl rfl 1 (by decide) (hts _ lk_X8_swap_1) (fun _ h9 => h9) rfl dX8_swap_52 ?_
        obtain ⟨x16, u17, he18, h⟩ := zz_b2E h
        refine zz_VI (q := (RX7, TX7, 5)) (As := [.long t_now_plan]) (rest := []) (wr := [(a_t, .inr (7, [.ref a_t_text, .ref a_t_now, .ref a_t_slotZero, .ref a_t_slotOne, .ref a_t_wishes, .ref a_t_planner, .ref a_t_mending, .ref a_t_reading, .ref a_t_otherReading, .int t_theYear])), (a_t_now, .inr (4, [.ref a_t_now_paper, .long t_now_plan, .ref a_t_now_timesLate, .ref a_t_now_paid, .int t_now_isKept]))]) (wm := [(a_t, .inr (7, [.ref a_t_text, .ref a_t_now, .ref a_t_slotZero, .ref a_t_slotOne, .ref a_t_wishes, .ref a_t_planner, .ref a_t_mending, .ref a_t_reading, .ref a_t_otherReading, .int t_theYear])), (a_t_now, .inr (4, [.ref a_t_now_paper, .long t_now_plan, .ref a_t_now_timesLate, .ref a_t_now_paid, .int t_now_isKept])), (a_t_wishes, .inr (6, [.int t_wishes_longest, .int t_wishes_perLong, .int t_wishes_perHanding, .int t_wishes_wants, .ref a_t_wishes_against])), (a_t_wishes_against, .inl (cI, 112, .inl t_wishes_against))]) ⟨hx, hb, hml, hown, hts⟩ (ct_X7_costOf l dC dI cI cJ cB cZ a_t_wishes a_t_wishes_against t_wishes_longest t_wishes_perLong t_wishes_perHanding t_wishes_wants t_wishes_against t_now_plan x16 u17 he18) gX8_swap_X7_costOf hd_X7_costOf rfl rfl rfl ⟨Nat.le_of_ble_eq_true rfl, Nat.le_of_ble_eq_true rfl⟩ ⟨Nat.le_of_ble_eq_true rfl, Nat.le_of_ble_eq_true rfl⟩ rfl rfl (Nat.le_of_ble_eq_true rfl) dX8_swap_55 hl.1 rfl (ci := 6) rfl (q0 := 2) rfl hP hK hD hS hA [2, 3] [0, 1] [0, 1, 2, 3] rfl rfl (by decide) (by decide) (by decide) (by decide) rfl (fun H locs hP hD hS => ?_)
        refine lv_istore_n (lv' := [(3, .int x16), (0, .ref a_t), (1, .int p1), (2, .int p2)]) hx hb dX8_swap_58 rfl hl (by decide) rfl (fun ls hl => ?_)
        refine lv_aload_n hx hb dX8_swap_59 rfl (lv_at hl 1 rfl) ?_
        refine va_get (ci := 7) (v := .ref a_t_now) (C := RX8) (T := TX8) (N := 10) hx hb hts in_X8_swap_X8 hown hK hP 0 rfl rfl 1 (by decide) (hts _ lk_X8_swap_0) (fun _ h9 => h9) rfl dX8_swap_60 ?_
        refine lv_aload_n hx hb dX8_swap_63 rfl (lv_at hl 1 rfl) ?_
        refine va_get (ci := 7) (v := .ref a_t_now) (C := RX8) (T := TX8) (N := 10) hx hb hts in_X8_swap_X8 hown hK hP 0 rfl rfl 1 (by decide) (hts _ lk_X8_swap_0) (fun _ h9 => h9) rfl dX8_swap_64 ?_
        refine va_get (ci := 4) (v := .long t_now_plan) (C := RX5) (T := TX5) (N := 5) hx hb hts in_X8_swap_X5 hown hK hP 1 rfl rfl 1 (by decide) (hts _ lk_X8_swap_1) (fun _ h9 => h9) rfl dX8_swap_67 ?_
        refine lv_iload_n hx hb dX8_swap_70 rfl (lv_at hl 2 rfl) ?_
        refine lv_iload_n hx hb dX8_swap_71 rfl (lv_at hl 3 rfl) ?_
        obtain ⟨x19, u20, he21, h⟩ := zz_b2E h
        refine zz_PL (As := [.long t_now_plan, .int p1, .int p2]) (rest := [.ref a_t_now]) ⟨hx, hb, hml, hown, hts⟩ (ct_X1_turned l dC dI cI cJ cB cZ t_now_plan p1 p2 x19 u20 he21) gX8_swap_X1_turned hd_X1_turned rfl rfl rfl ⟨Nat.le_of_ble_eq_true rfl, Nat.le_of_ble_eq_true rfl⟩ ⟨Nat.le_of_ble_eq_true rfl, Nat.le_of_ble_eq_true rfl⟩ rfl rfl (Nat.le_of_ble_eq_true rfl) dX8_swap_72 hl.1 hP hK hS hA (fun H locs hP hS => ?_)
        refine va_put (ci := 4) (v := .long x19) (ty := .long) (C := RX5) (T := TX5) (N := 5) hx hb hts in_X8_swap_X5 tyX5 tyX5_ok nmX5 hown hK hP hD hS 1 rfl rfl 1 (by decide) (hts _ lk_X8_swap_1) (fun _ h9 => h9) rfl (by decide +kernel) rfl rfl (Nat.le_of_ble_eq_true rfl) dX8_swap_75 (fun H locs hP hD hS => ?_)
        have hP : va_P (dC, dI) vwCl [(a_t, .inr (7, [.ref a_t_text, .ref a_t_now, .ref a_t_slotZero, .ref a_t_slotOne, .ref a_t_wishes, .ref a_t_planner, .ref a_t_mending, .ref a_t_reading, .ref a_t_otherReading, .int t_theYear])), (a_t_now, .inr (4, [.ref a_t_now_paper, .long x19, .ref a_t_now_timesLate, .ref a_t_now_paid, .int t_now_isKept])), (a_t_wishes, .inr (6, [.int t_wishes_longest, .int t_wishes_perLong, .int t_wishes_perHanding, .int t_wishes_wants, .ref a_t_wishes_against])), (a_t_wishes_against, .inl (cI, 112, .inl t_wishes_against))] H := hP
        have hD : va_D A [(a_t, .inr (7, [.ref a_t_text, .ref a_t_now, .ref a_t_slotZero, .ref a_t_slotOne, .ref a_t_wishes, .ref a_t_planner, .ref a_t_mending, .ref a_t_reading, .ref a_t_otherReading, .int t_theYear])), (a_t_now, .inr (4, [.ref a_t_now_paper, .long x19, .ref a_t_now_timesLate, .ref a_t_now_paid, .int t_now_isKept])), (a_t_wishes, .inr (6, [.int t_wishes_longest, .int t_wishes_perLong, .int t_wishes_perHanding, .int t_wishes_wants, .ref a_t_wishes_against])), (a_t_wishes_against, .inl (cI, 112, .inl t_wishes_against))] := hD
        refine lv_aload_n hx hb dX8_swap_78 rfl (lv_at hl 1 rfl) ?_
        refine va_get (ci := 7) (v := .ref a_t_wishes) (C := RX8) (T := TX8) (N := 10) hx hb hts in_X8_swap_X8 hown hK hP 0 rfl rfl 4 (by decide) (hts _ lk_X8_swap_2) (fun _ h9 => h9) rfl dX8_swap_79 ?_
        refine lv_aload_n hx hb dX8_swap_82 rfl (lv_at hl 1 rfl) ?_
        refine va_get (ci := 7) (v := .ref a_t_now) (C := RX8) (T := TX8) (N := 10) hx hb hts in_X8_swap_X8 hown hK hP 0 rfl rfl 1 (by decide) (hts _ lk_X8_swap_0) (fun _ h9 => h9) rfl dX8_swap_83 ?_
        refine va_get (ci := 4) (v := .long x19) (C := RX5) (T := TX5) (N := 5) hx hb hts in_X8_swap_X5 hown hK hP 1 rfl rfl 1 (by decide) (hts _ lk_X8_swap_1) (fun _ h9 => h9) rfl dX8_swap_86 ?_
        obtain ⟨x22, u23, he24, h⟩ := zz_b2E h
        refine zz_VI (q := (RX7, TX7, 5)) (As := [.long x19]) (rest := []) (wr := [(a_t, .inr (7, [.ref a_t_text, .ref a_t_now, .ref a_t_slotZero, .ref a_t_slotOne, .ref a_t_wishes, .ref a_t_planner, .ref a_t_mending, .ref a_t_reading, .ref a_t_otherReading, .int t_theYear])), (a_t_now, .inr (4, [.ref a_t_now_paper, .long x19, .ref a_t_now_timesLate, .ref a_t_now_paid, .int t_now_isKept]))]) (wm := [(a_t, .inr (7, [.ref a_t_text, .ref a_t_now, .ref a_t_slotZero, .ref a_t_slotOne, .ref a_t_wishes, .ref a_t_planner, .ref a_t_mending, .ref a_t_reading, .ref a_t_otherReading, .int t_theYear])), (a_t_now, .inr (4, [.ref a_t_now_paper, .long x19, .ref a_t_now_timesLate, .ref a_t_now_paid, .int t_now_isKept])), (a_t_wishes, .inr (6, [.int t_wishes_longest, .int t_wishes_perLong, .int t_wishes_perHanding, .int t_wishes_wants, .ref a_t_wishes_against])), (a_t_wishes_against, .inl (cI, 112, .inl t_wishes_against))]) ⟨hx, hb, hml, hown, hts⟩ (ct_X7_costOf l dC dI cI cJ cB cZ a_t_wishes a_t_wishes_against t_wishes_longest t_wishes_perLong t_wishes_perHanding t_wishes_wants t_wishes_against x19 x22 u23 he24) gX8_swap_X7_costOf hd_X7_costOf rfl rfl rfl ⟨Nat.le_of_ble_eq_true rfl, Nat.le_of_ble_eq_true rfl⟩ ⟨Nat.le_of_ble_eq_true rfl, Nat.le_of_ble_eq_true rfl⟩ rfl rfl (Nat.le_of_ble_eq_true rfl) dX8_swap_89 hl.1 rfl (ci := 6) rfl (q0 := 2) rfl hP hK hD hS hA [2, 3] [0, 1] [0, 1, 2, 3] rfl rfl (by decide) (by decide) (by decide) (by decide) rfl (fun H locs hP hD hS => ?_)
        refine lv_iload_n hx hb dX8_swap_92 rfl (lv_at hl 0 rfl) ?_
        refine lv_isub hx hb dX8_swap_93 ?_
        refine lv_sipush (v := 1000) hx hb dX8_swap_94 (by decide) ?_
        refine lv_iadd hx hb dX8_swap_97 ?_
        exact zz_iret x19 hx hb hr hlocks dX8_swap_98 (Option.some.inj h) hP hK hD hS
      · have h := zz_if c15 h
        refine lv_bipush (v := (-3)) hx hb dX8_swap_41 (by decide) ?_
        exact zz_iret t_now_plan hx hb hr hlocks dX8_swap_43 (Option.some.inj h) hP hK hD hS
    · have h := zz_if c8 h
      refine lv_iconst (v := (-1)) hx hb dX8_swap_14 (by decide) ?_
      exact zz_iret t_now_plan hx hb hr hlocks dX8_swap_15 (Option.some.inj h) hP hK hD hS
theorem hd_X8_owedAmong : yX8_owedAmong.cls ≠ "java/lang/invoke/MethodHandle" ∧ yX8_owedAmong.cls ≠ "java/lang/invoke/VarHandle" ∧ (parseMethodDescriptor yX8_owedAmong.desc).map (fun d => d.parameters.length) = some 1 := by decide +kernel
set_option maxRecDepth 20000 in
theorem in_X8_owedAmong_X4 : ∀ w ∈ u_ws RX4 TX4 3, w ∈ wsX8_owedAmong := by decide +kernel
set_option maxRecDepth 20000 in
theorem in_X8_owedAmong_X8 : ∀ w ∈ u_ws RX8 TX8 10, w ∈ wsX8_owedAmong := by decide +kernel
set_option maxRecDepth 20000 in
theorem in_X8_owedAmong_X5 : ∀ w ∈ u_ws RX5 TX5 5, w ∈ wsX8_owedAmong := by decide +kernel
set_option maxRecDepth 20000 in
theorem lk_X8_owedAmong_0 : Cond.fieldLink RX8 226 "TwoHousesOneChild$Reading" "one" "J" ∈ wsX8_owedAmong := by decide +kernel
set_option maxRecDepth 20000 in
theorem lk_X8_owedAmong_1 : Cond.fieldLink RX8 19 "TwoHousesOneChild" "now" "LTwoHousesOneChild$Standing;" ∈ wsX8_owedAmong := by decide +kernel
set_option maxRecDepth 20000 in
theorem lk_X8_owedAmong_2 : Cond.fieldLink RX8 136 "TwoHousesOneChild$Standing" "plan" "J" ∈ wsX8_owedAmong := by decide +kernel
set_option maxRecDepth 20000 in
theorem lk_X8_owedAmong_3 : Cond.constantLong RX8 235 (-1) ∈ wsX8_owedAmong := by decide +kernel
set_option maxRecDepth 20000 in
theorem lk_X8_owedAmong_4 : Cond.fieldLink RX8 232 "TwoHousesOneChild$Reading" "zero" "J" ∈ wsX8_owedAmong := by decide +kernel
set_option maxHeartbeats 4000000 in
set_option maxRecDepth 100000 in
theorem ct_X8_owedAmong (l : Launch) (dC : Nat → ClassId) (dI : Nat → Nat → Nat) (cI cJ cB cZ : ClassId) (a_t a_t_now a_t_now_paper a_t_now_paper_numbers a_t_now_paper_ones a_t_now_paper_ranks a_t_now_paper_told a_t_now_paper_turnsByYear a_t_reading a_t_text a_t_slotZero a_t_slotOne a_t_wishes a_t_planner a_t_mending a_t_otherReading a_t_now_timesLate a_t_now_paid : Nat) (t_theYear : Int32) (t_now_plan : Int64) (t_now_isKept : Int32) (t_now_paper_size : Int32) (t_now_paper_numbers : (Nat → Int32)) (t_now_paper_ones : (Nat → Int64)) (t_now_paper_ranks : (Nat → Int32)) (t_now_paper_told : (Nat → Int64)) (t_now_paper_turnsByYear : (Nat → Int32)) (t_reading_zero : Int64) (t_reading_one : Int64) (t_reading_fights : Int64) (p1 : Int64) (rr : Int32) (o1 : Int64) (o2 : Int64) (o3 : Int64) (h : fn_X8_owedAmong t_theYear t_now_plan t_now_paper_size t_now_paper_numbers t_now_paper_ones t_now_paper_ranks t_now_paper_told t_now_paper_turnsByYear p1 = some (rr, o1, o2, o3)) : zz_M l yX8_owedAmong wsX8_owedAmong ({ frames := 4, cells := 0, slots := 0, locals := 98 }) (dC, dI) (zz_T cI cJ cB cZ) [.ref a_t, .long p1] [(a_t, .inr (7, [.ref a_t_text, .ref a_t_now, .ref a_t_slotZero, .ref a_t_slotOne, .ref a_t_wishes, .ref a_t_planner, .ref a_t_mending, .ref a_t_reading, .ref a_t_otherReading, .int t_theYear])), (a_t_now, .inr (4, [.ref a_t_now_paper, .long t_now_plan, .ref a_t_now_timesLate, .ref a_t_now_paid, .int t_now_isKept])), (a_t_now_paper, .inr (1, [.int t_now_paper_size, .ref a_t_now_paper_numbers, .ref a_t_now_paper_ranks, .ref a_t_now_paper_told, .ref a_t_now_paper_ones, .ref a_t_now_paper_turnsByYear])), (a_t_now_paper_numbers, .inl (cI, 10, .inl t_now_paper_numbers)), (a_t_now_paper_ones, .inl (cJ, 10, .inr (.inl t_now_paper_ones))), (a_t_now_paper_ranks, .inl (cI, 10, .inl t_now_paper_ranks)), (a_t_now_paper_told, .inl (cJ, 10, .inr (.inl t_now_paper_told))), (a_t_now_paper_turnsByYear, .inl (cZ, 10, .inl t_now_paper_turnsByYear)), (a_t_reading, .inr (3, [.long t_reading_zero, .long t_reading_one, .long t_reading_fights]))] (zz_QI (dC, dI) (zz_T cI cJ cB cZ) (rr, o1, o2, o3) (fun (u : Int64 × Int64 × Int64) => [(a_t, .inr (7, [.ref a_t_text, .ref a_t_now, .ref a_t_slotZero, .ref a_t_slotOne, .ref a_t_wishes, .ref a_t_planner, .ref a_t_mending, .ref a_t_reading, .ref a_t_otherReading, .int t_theYear])), (a_t_now, .inr (4, [.ref a_t_now_paper, .long t_now_plan, .ref a_t_now_timesLate, .ref a_t_now_paid, .int t_now_isKept])), (a_t_now_paper, .inr (1, [.int t_now_paper_size, .ref a_t_now_paper_numbers, .ref a_t_now_paper_ranks, .ref a_t_now_paper_told, .ref a_t_now_paper_ones, .ref a_t_now_paper_turnsByYear])), (a_t_now_paper_numbers, .inl (cI, 10, .inl t_now_paper_numbers)), (a_t_now_paper_ones, .inl (cJ, 10, .inr (.inl t_now_paper_ones))), (a_t_now_paper_ranks, .inl (cI, 10, .inl t_now_paper_ranks)), (a_t_now_paper_told, .inl (cJ, 10, .inr (.inl t_now_paper_told))), (a_t_now_paper_turnsByYear, .inl (cZ, 10, .inl t_now_paper_turnsByYear)), (a_t_reading, .inr (3, [.long u.1, .long u.2.1, .long u.2.2]))])) := by
  unfold fn_X8_owedAmong at h
  refine zz_of (by decide) rfl (Nat.le_of_ble_eq_true rfl) ?_
  intro p e s m below meth c A ls hx hb hr hml hts hown hlocks hA hS hP hK hD hl
  have hown : s.vm.findClass RX8 = some m.cls := hown
  have hl : lv_has ls 6 [(0, .ref a_t), (1, .long p1)] := hl
  refine lv_aload_n hx hb dX8_owedAmong_0 rfl (lv_at hl 0 rfl) ?_
  obtain ⟨x1, x2, x3, he4, h⟩ := zz_b3E h
  refine zz_VR (q := (RX8, TX8, 10)) (As := []) (rest := []) (wr := []) (wm := [(a_t, .inr (7, [.ref a_t_text, .ref a_t_now, .ref a_t_slotZero, .ref a_t_slotOne, .ref a_t_wishes, .ref a_t_planner, .ref a_t_mending, .ref a_t_reading, .ref a_t_otherReading, .int t_theYear])), (a_t_now, .inr (4, [.ref a_t_now_paper, .long t_now_plan, .ref a_t_now_timesLate, .ref a_t_now_paid, .int t_now_isKept])), (a_t_now_paper, .inr (1, [.int t_now_paper_size, .ref a_t_now_paper_numbers, .ref a_t_now_paper_ranks, .ref a_t_now_paper_told, .ref a_t_now_paper_ones, .ref a_t_now_paper_turnsByYear])), (a_t_now_paper_numbers, .inl (cI, 10, .inl t_now_paper_numbers)), (a_t_now_paper_ones, .inl (cJ, 10, .inr (.inl t_now_paper_ones))), (a_t_now_paper_ranks, .inl (cI, 10, .inl t_now_paper_ranks)), (a_t_now_paper_told, .inl (cJ, 10, .inr (.inl t_now_paper_told))), (a_t_now_paper_turnsByYear, .inl (cZ, 10, .inl t_now_paper_turnsByYear)), (a_t_reading, .inr (3, [.long x1, .long x2, .long x3]))]) ⟨hx, hb, hml, hown, hts⟩ (ct_X8_readPaper l dC dI cI cJ cB cZ a_t a_t_now a_t_now_paper a_t_now_paper_numbers a_t_now_paper_ones a_t_now_paper_ranks a_t_now_paper_told a_t_now_paper_turnsByYear a_t_reading a_t_text a_t_slotZero a_t_slotOne a_t_wishes a_t_planner a_t_mending a_t_otherReading a_t_now_timesLate a_t_now_paid t_theYear t_now_plan t_now_isKept t_now_paper_size t_now_paper_numbers t_now_paper_ones t_now_paper_ranks t_now_paper_told t_now_paper_turnsByYear t_reading_zero t_reading_one t_reading_fights x1 x2 x3 he4) gX8_owedAmong_X8_readPaper hd_X8_readPaper rfl rfl rfl ⟨Nat.le_of_ble_eq_true rfl, Nat.le_of_ble_eq_true rfl⟩ ⟨Nat.le_of_ble_eq_true rfl, Nat.le_of_ble_eq_true rfl⟩ rfl rfl (Nat.le_of_ble_eq_true rfl) dX8_owedAmong_1 hl.1 rfl (ci := 7) rfl (q0 := 0) rfl hP hK hD hS hA [0, 1, 2, 3, 4, 5, 6, 7, 8] [] [0, 1, 2, 3, 4, 5, 6, 7, 8] rfl rfl (by decide) (by decide) (by decide) (by decide) rfl (fun H locs hP hD hS => ?_)
  refine lv_astore_n (lv' := [(3, .ref a_t_reading), (0, .ref a_t), (1, .long p1)]) hx hb dX8_owedAmong_4 rfl hl (by decide) rfl (fun ls hl => ?_)
  refine lv_aload_n hx hb dX8_owedAmong_5 rfl (lv_at hl 0 rfl) ?_
  refine va_get (ci := 3) (v := .long x2) (C := RX4) (T := TX4) (N := 3) hx hb hts in_X8_owedAmong_X4 hown hK hP 8 rfl rfl 1 (by decide) (hts _ lk_X8_owedAmong_0) (fun _ h9 => h9) rfl dX8_owedAmong_6 ?_
  refine lv_aload_n hx hb dX8_owedAmong_9 rfl (lv_at hl 1 rfl) ?_
  refine va_get (ci := 7) (v := .ref a_t_now) (C := RX8) (T := TX8) (N := 10) hx hb hts in_X8_owedAmong_X8 hown hK hP 0 rfl rfl 1 (by decide) (hts _ lk_X8_owedAmong_1) (fun _ h9 => h9) rfl dX8_owedAmong_10 ?_
  refine va_get (ci := 4) (v := .long t_now_plan) (C := RX5) (T := TX5) (N := 5) hx hb hts in_X8_owedAmong_X5 hown hK hP 1 rfl rfl 1 (by decide) (hts _ lk_X8_owedAmong_2) (fun _ h9 => h9) rfl dX8_owedAmong_13 ?_
  refine lv_ldc2 (v := (-1)) hx hb hown (hts _ lk_X8_owedAmong_3) dX8_owedAmong_16 ?_
  refine lv_lxor hx hb dX8_owedAmong_19 ?_
  refine lv_land hx hb dX8_owedAmong_20 ?_
  refine lv_lload_n hx hb dX8_owedAmong_21 rfl (lv_at hl 2 rfl) ?_
  refine lv_land hx hb dX8_owedAmong_22 ?_
  obtain ⟨x5, u6, he7, h⟩ := zz_b2E h
  refine zz_PI (As := [.long ((x2 &&& (t_now_plan ^^^ (-1))) &&& p1)]) (rest := []) ⟨hx, hb, hml, hown, hts⟩ (ct_J13_bitCount_95d88 l dC dI cI cJ cB cZ ((x2 &&& (t_now_plan ^^^ (-1))) &&& p1) x5 u6 he7) gX8_owedAmong_J13_bitCount_95d88 hd_J13_bitCount_95d88 rfl rfl rfl ⟨Nat.le_of_ble_eq_true rfl, Nat.le_of_ble_eq_true rfl⟩ ⟨Nat.le_of_ble_eq_true rfl, Nat.le_of_ble_eq_true rfl⟩ rfl rfl (Nat.le_of_ble_eq_true rfl) dX8_owedAmong_23 hl.1 hP hK hS hA (fun H locs hP hS => ?_)
  refine lv_istore (lv' := [(4, .int x5), (3, .ref a_t_reading), (0, .ref a_t), (1, .long p1)]) hx hb dX8_owedAmong_26 hl (by decide) rfl (fun ls hl => ?_)
  refine lv_aload_n hx hb dX8_owedAmong_28 rfl (lv_at hl 1 rfl) ?_
  refine va_get (ci := 3) (v := .long x1) (C := RX4) (T := TX4) (N := 3) hx hb hts in_X8_owedAmong_X4 hown hK hP 8 rfl rfl 0 (by decide) (hts _ lk_X8_owedAmong_4) (fun _ h9 => h9) rfl dX8_owedAmong_29 ?_
  refine lv_aload_n hx hb dX8_owedAmong_32 rfl (lv_at hl 2 rfl) ?_
  refine va_get (ci := 7) (v := .ref a_t_now) (C := RX8) (T := TX8) (N := 10) hx hb hts in_X8_owedAmong_X8 hown hK hP 0 rfl rfl 1 (by decide) (hts _ lk_X8_owedAmong_1) (fun _ h9 => h9) rfl dX8_owedAmong_33 ?_
  refine va_get (ci := 4) (v := .long t_now_plan) (C := RX5) (T := TX5) (N := 5) hx hb hts in_X8_owedAmong_X5 hown hK hP 1 rfl rfl 1 (by decide) (hts _ lk_X8_owedAmong_2) (fun _ h9 => h9) rfl dX8_owedAmong_36 ?_
  refine lv_land hx hb dX8_owedAmong_39 ?_
  refine lv_lload_n hx hb dX8_owedAmong_40 rfl (lv_at hl 3 rfl) ?_
  refine lv_land hx hb dX8_owedAmong_41 ?_
  obtain ⟨x8, u9, he10, h⟩ := zz_b2E h
  refine zz_PI (As := [.long ((x1 &&& t_now_plan) &&& p1)]) (rest := []) ⟨hx, hb, hml, hown, hts⟩ (ct_J13_bitCount_95d88 l dC dI cI cJ cB cZ ((x1 &&& t_now_plan) &&& p1) x8 u9 he10) gX8_owedAmong_J13_bitCount_95d88 hd_J13_bitCount_95d88 rfl rfl rfl ⟨Nat.le_of_ble_eq_true rfl, Nat.le_of_ble_eq_true rfl⟩ ⟨Nat.le_of_ble_eq_true rfl, Nat.le_of_ble_eq_true rfl⟩ rfl rfl (Nat.le_of_ble_eq_true rfl) dX8_owedAmong_42 hl.1 hP hK hS hA (fun H locs hP hS => ?_)
  refine lv_istore (lv' := [(5, .int x8), (4, .int x5), (3, .ref a_t_reading), (0, .ref a_t), (1, .long p1)]) hx hb dX8_owedAmong_45 hl (by decide) rfl (fun ls hl => ?_)
  refine lv_iload hx hb dX8_owedAmong_47 (lv_at hl 1 rfl) ?_
  refine lv_iload hx hb dX8_owedAmong_49 (lv_at hl 0 rfl) ?_
  refine lv_isub hx hb dX8_owedAmong_51 ?_
  exact zz_iret (x1, x2, x3) hx hb hr hlocks dX8_owedAmong_52 (Option.some.inj h) hP hK hD hS
theorem hd_X8_owed : yX8_owed.cls ≠ "java/lang/invoke/MethodHandle" ∧ yX8_owed.cls ≠ "java/lang/invoke/VarHandle" ∧ (parseMethodDescriptor yX8_owed.desc).map (fun d => d.parameters.length) = some 1 := by decide +kernel
set_option maxHeartbeats 4000000 in
set_option maxRecDepth 100000 in
theorem ct_X8_owed (l : Launch) (dC : Nat → ClassId) (dI : Nat → Nat → Nat) (cI cJ cB cZ : ClassId) (a_t a_t_now a_t_now_paper a_t_now_paper_numbers a_t_now_paper_ones a_t_now_paper_ranks a_t_now_paper_told a_t_now_paper_turnsByYear a_t_reading a_t_text a_t_slotZero a_t_slotOne a_t_wishes a_t_planner a_t_mending a_t_otherReading a_t_now_timesLate a_t_now_paid : Nat) (t_theYear : Int32) (t_now_plan : Int64) (t_now_isKept : Int32) (t_now_paper_size : Int32) (t_now_paper_numbers : (Nat → Int32)) (t_now_paper_ones : (Nat → Int64)) (t_now_paper_ranks : (Nat → Int32)) (t_now_paper_told : (Nat → Int64)) (t_now_paper_turnsByYear : (Nat → Int32)) (t_reading_zero : Int64) (t_reading_one : Int64) (t_reading_fights : Int64) (p1 : Int32) (rr : Int32) (o1 : Int64) (o2 : Int64) (o3 : Int64) (h : fn_X8_owed t_theYear t_now_plan t_now_paper_size t_now_paper_numbers t_now_paper_ones t_now_paper_ranks t_now_paper_told t_now_paper_turnsByYear t_reading_zero t_reading_one t_reading_fights p1 = some (rr, o1, o2, o3)) : zz_M l yX8_owed wsX8_owed ({ frames := 5, cells := 0, slots := 0, locals := 123 }) (dC, dI) (zz_T cI cJ cB cZ) [.ref a_t, .int p1] [(a_t, .inr (7, [.ref a_t_text, .ref a_t_now, .ref a_t_slotZero, .ref a_t_slotOne, .ref a_t_wishes, .ref a_t_planner, .ref a_t_mending, .ref a_t_reading, .ref a_t_otherReading, .int t_theYear])), (a_t_now, .inr (4, [.ref a_t_now_paper, .long t_now_plan, .ref a_t_now_timesLate, .ref a_t_now_paid, .int t_now_isKept])), (a_t_now_paper, .inr (1, [.int t_now_paper_size, .ref a_t_now_paper_numbers, .ref a_t_now_paper_ranks, .ref a_t_now_paper_told, .ref a_t_now_paper_ones, .ref a_t_now_paper_turnsByYear])), (a_t_now_paper_numbers, .inl (cI, 10, .inl t_now_paper_numbers)), (a_t_now_paper_ones, .inl (cJ, 10, .inr (.inl t_now_paper_ones))), (a_t_now_paper_ranks, .inl (cI, 10, .inl t_now_paper_ranks)), (a_t_now_paper_told, .inl (cJ, 10, .inr (.inl t_now_paper_told))), (a_t_now_paper_turnsByYear, .inl (cZ, 10, .inl t_now_paper_turnsByYear)), (a_t_reading, .inr (3, [.long t_reading_zero, .long t_reading_one, .long t_reading_fights]))] (zz_QI (dC, dI) (zz_T cI cJ cB cZ) (rr, o1, o2, o3) (fun (u : Int64 × Int64 × Int64) => [(a_t, .inr (7, [.ref a_t_text, .ref a_t_now, .ref a_t_slotZero, .ref a_t_slotOne, .ref a_t_wishes, .ref a_t_planner, .ref a_t_mending, .ref a_t_reading, .ref a_t_otherReading, .int t_theYear])), (a_t_now, .inr (4, [.ref a_t_now_paper, .long t_now_plan, .ref a_t_now_timesLate, .ref a_t_now_paid, .int t_now_isKept])), (a_t_now_paper, .inr (1, [.int t_now_paper_size, .ref a_t_now_paper_numbers, .ref a_t_now_paper_ranks, .ref a_t_now_paper_told, .ref a_t_now_paper_ones, .ref a_t_now_paper_turnsByYear])), (a_t_now_paper_numbers, .inl (cI, 10, .inl t_now_paper_numbers)), (a_t_now_paper_ones, .inl (cJ, 10, .inr (.inl t_now_paper_ones))), (a_t_now_paper_ranks, .inl (cI, 10, .inl t_now_paper_ranks)), (a_t_now_paper_told, .inl (cJ, 10, .inr (.inl t_now_paper_told))), (a_t_now_paper_turnsByYear, .inl (cZ, 10, .inl t_now_paper_turnsByYear)), (a_t_reading, .inr (3, [.long u.1, .long u.2.1, .long u.2.2]))])) := by
  unfold fn_X8_owed at h
  refine zz_of (by decide) rfl (Nat.le_of_ble_eq_true rfl) ?_
  intro p e s m below meth c A ls hx hb hr hml hts hown hlocks hA hS hP hK hD hl
  have hown : s.vm.findClass RX8 = some m.cls := hown
  have hl : lv_has ls 2 [(0, .ref a_t), (1, .int p1)] := hl
  refine lv_iload_n hx hb dX8_owed_0 rfl (lv_at hl 1 rfl) ?_
  obtain ⟨x1, u2, he3, h⟩ := zz_b2E h
  refine zz_PI (As := [.int p1]) (rest := []) ⟨hx, hb, hml, hown, hts⟩ (ct_X8_isNight l dC dI cI cJ cB cZ p1 x1 u2 he3) gX8_owed_X8_isNight hd_X8_isNight rfl rfl rfl ⟨Nat.le_of_ble_eq_true rfl, Nat.le_of_ble_eq_true rfl⟩ ⟨Nat.le_of_ble_eq_true rfl, Nat.le_of_ble_eq_true rfl⟩ rfl rfl (Nat.le_of_ble_eq_true rfl) dX8_owed_1 hl.1 hP hK hS hA (fun H locs hP hS => ?_)
  refine lv_if_eq (tgt := 21) hx hb dX8_owed_4 (by decide) (fun c4 => ?_) (fun c4 => ?_)
  · have h := zz_if c4 h
    refine lv_iconst (v := (-1)) hx hb dX8_owed_21 (by decide) ?_
    exact zz_iret (t_reading_zero, t_reading_one, t_reading_fights) hx hb hr hlocks dX8_owed_22 (Option.some.inj h) hP hK hD hS
  · have h := zz_ifn c4 h
    refine lv_aload_n hx hb dX8_owed_7 rfl (lv_at hl 0 rfl) ?_
    refine lv_iload_n hx hb dX8_owed_8 rfl (lv_at hl 1 rfl) ?_
    obtain ⟨x5, u6, he7, h⟩ := zz_b2E h
    refine zz_PL (As := [.int p1]) (rest := [.ref a_t]) ⟨hx, hb, hml, hown, hts⟩ (ct_X1_upTo l dC dI cI cJ cB cZ p1 x5 u6 he7) gX8_owed_X1_upTo hd_X1_upTo rfl rfl rfl ⟨Nat.le_of_ble_eq_true rfl, Nat.le_of_ble_eq_true rfl⟩ ⟨Nat.le_of_ble_eq_true rfl, Nat.le_of_ble_eq_true rfl⟩ rfl rfl (Nat.le_of_ble_eq_true rfl) dX8_owed_9 hl.1 hP hK hS hA (fun H locs hP hS => ?_)
    obtain ⟨x8, x9, x10, x11, he12, h⟩ := zz_b4E h
    refine zz_VI (q := (RX8, TX8, 10)) (As := [.long x5]) (rest := []) (wr := []) (wm := [(a_t, .inr (7, [.ref a_t_text, .ref a_t_now, .ref a_t_slotZero, .ref a_t_slotOne, .ref a_t_wishes, .ref a_t_planner, .ref a_t_mending, .ref a_t_reading, .ref a_t_otherReading, .int t_theYear])), (a_t_now, .inr (4, [.ref a_t_now_paper, .long t_now_plan, .ref a_t_now_timesLate, .ref a_t_now_paid, .int t_now_isKept])), (a_t_now_paper, .inr (1, [.int t_now_paper_size, .ref a_t_now_paper_numbers, .ref a_t_now_paper_ranks, .ref a_t_now_paper_told, .ref a_t_now_paper_ones, .ref a_t_now_paper_turnsByYear])), (a_t_now_paper_numbers, .inl (cI, 10, .inl t_now_paper_numbers)), (a_t_now_paper_ones, .inl (cJ, 10, .inr (.inl t_now_paper_ones))), (a_t_now_paper_ranks, .inl (cI, 10, .inl t_now_paper_ranks)), (a_t_now_paper_told, .inl (cJ, 10, .inr (.inl t_now_paper_told))), (a_t_now_paper_turnsByYear, .inl (cZ, 10, .inl t_now_paper_turnsByYear)), (a_t_reading, .inr (3, [.long x9, .long x10, .long x11]))]) ⟨hx, hb, hml, hown, hts⟩ (ct_X8_owedAmong l dC dI cI cJ cB cZ a_t a_t_now a_t_now_paper a_t_now_paper_numbers a_t_now_paper_ones a_t_now_paper_ranks a_t_now_paper_told a_t_now_paper_turnsByYear a_t_reading a_t_text a_t_slotZero a_t_slotOne a_t_wishes a_t_planner a_t_mending a_t_otherReading a_t_now_timesLate a_t_now_paid t_theYear t_now_plan t_now_isKept t_now_paper_size t_now_paper_numbers t_now_paper_ones t_now_paper_ranks t_now_paper_told t_now_paper_turnsByYear t_reading_zero t_reading_one t_reading_fights x5 x8 x9 x10 x11 he12) gX8_owed_X8_owedAmong hd_X8_owedAmong rfl rfl rfl ⟨Nat.le_of_ble_eq_true rfl, Nat.le_of_ble_eq_true rfl⟩ ⟨Nat.le_of_ble_eq_true rfl, Nat.le_of_ble_eq_true rfl⟩ rfl rfl (Nat.le_of_ble_eq_true rfl) dX8_owed_12 hl.1 rfl (ci := 7) rfl (q0 := 0) rfl hP hK hD hS hA [0, 1, 2, 3, 4, 5, 6, 7, 8] [] [0, 1, 2, 3, 4, 5, 6, 7, 8] rfl rfl (by decide) (by decide) (by decide) (by decide) rfl (fun H locs hP hD hS => ?_)
    refine lv_bipush (v := 100) hx hb dX8_owed_15 (by decide) ?_
    refine lv_iadd hx hb dX8_owed_17 ?_
    refine lv_goto (tgt := 22) hx hb dX8_owed_18 (by decide) ?_
    exact zz_iret (x9, x10, x11) hx hb hr hlocks dX8_owed_22 (Option.some.inj h) hP hK hD hS
theorem hd_X8_even : yX8_even.cls ≠ "java/lang/invoke/MethodHandle" ∧ yX8_even.cls ≠ "java/lang/invoke/VarHandle" ∧ (parseMethodDescriptor yX8_even.desc).map (fun d => d.parameters.length) = some 0 := by decide +kernel
set_option maxHeartbeats 4000000 in
set_option maxRecDepth 100000 in
theorem ct_X8_even (l : Launch) (dC : Nat → ClassId) (dI : Nat → Nat → Nat) (cI cJ cB cZ : ClassId) (a_t a_t_now a_t_now_paper a_t_now_paper_numbers a_t_now_paper_ones a_t_now_paper_ranks a_t_now_paper_told a_t_now_paper_turnsByYear a_t_reading a_t_text a_t_slotZero a_t_slotOne a_t_wishes a_t_planner a_t_mending a_t_otherReading a_t_now_timesLate a_t_now_paid : Nat) (t_theYear : Int32) (t_now_plan : Int64) (t_now_isKept : Int32) (t_now_paper_size : Int32) (t_now_paper_numbers : (Nat → Int32)) (t_now_paper_ones : (Nat → Int64)) (t_now_paper_ranks : (Nat → Int32)) (t_now_paper_told : (Nat → Int64)) (t_now_paper_turnsByYear : (Nat → Int32)) (t_reading_zero : Int64) (t_reading_one : Int64) (t_reading_fights : Int64) (rr : Int32) (o1 : Int64) (o2 : Int64) (o3 : Int64) (h : fn_X8_even t_theYear t_now_plan t_now_paper_size t_now_paper_numbers t_now_paper_ones t_now_paper_ranks t_now_paper_told t_now_paper_turnsByYear t_reading_zero t_reading_one t_reading_fights = some (rr, o1, o2, o3)) : zz_M l yX8_even wsX8_even ({ frames := 5, cells := 0, slots := 0, locals := 123 }) (dC, dI) (zz_T cI cJ cB cZ) [.ref a_t] [(a_t, .inr (7, [.ref a_t_text, .ref a_t_now, .ref a_t_slotZero, .ref a_t_slotOne, .ref a_t_wishes, .ref a_t_planner, .ref a_t_mending, .ref a_t_reading, .ref a_t_otherReading, .int t_theYear])), (a_t_now, .inr (4, [.ref a_t_now_paper, .long t_now_plan, .ref a_t_now_timesLate, .ref a_t_now_paid, .int t_now_isKept])), (a_t_now_paper, .inr (1, [.int t_now_paper_size, .ref a_t_now_paper_numbers, .ref a_t_now_paper_ranks, .ref a_t_now_paper_told, .ref a_t_now_paper_ones, .ref a_t_now_paper_turnsByYear])), (a_t_now_paper_numbers, .inl (cI, 10, .inl t_now_paper_numbers)), (a_t_now_paper_ones, .inl (cJ, 10, .inr (.inl t_now_paper_ones))), (a_t_now_paper_ranks, .inl (cI, 10, .inl t_now_paper_ranks)), (a_t_now_paper_told, .inl (cJ, 10, .inr (.inl t_now_paper_told))), (a_t_now_paper_turnsByYear, .inl (cZ, 10, .inl t_now_paper_turnsByYear)), (a_t_reading, .inr (3, [.long t_reading_zero, .long t_reading_one, .long t_reading_fights]))] (zz_QI (dC, dI) (zz_T cI cJ cB cZ) (rr, o1, o2, o3) (fun (u : Int64 × Int64 × Int64) => [(a_t, .inr (7, [.ref a_t_text, .ref a_t_now, .ref a_t_slotZero, .ref a_t_slotOne, .ref a_t_wishes, .ref a_t_planner, .ref a_t_mending, .ref a_t_reading, .ref a_t_otherReading, .int t_theYear])), (a_t_now, .inr (4, [.ref a_t_now_paper, .long t_now_plan, .ref a_t_now_timesLate, .ref a_t_now_paid, .int t_now_isKept])), (a_t_now_paper, .inr (1, [.int t_now_paper_size, .ref a_t_now_paper_numbers, .ref a_t_now_paper_ranks, .ref a_t_now_paper_told, .ref a_t_now_paper_ones, .ref a_t_now_paper_turnsByYear])), (a_t_now_paper_numbers, .inl (cI, 10, .inl t_now_paper_numbers)), (a_t_now_paper_ones, .inl (cJ, 10, .inr (.inl t_now_paper_ones))), (a_t_now_paper_ranks, .inl (cI, 10, .inl t_now_paper_ranks)), (a_t_now_paper_told, .inl (cJ, 10, .inr (.inl t_now_paper_told))), (a_t_now_paper_turnsByYear, .inl (cZ, 10, .inl t_now_paper_turnsByYear)), (a_t_reading, .inr (3, [.long u.1, .long u.2.1, .long u.2.2]))])) := by
  unfold fn_X8_even at h
  refine zz_of (by decide) rfl (Nat.le_of_ble_eq_true rfl) ?_
  intro p e s m below meth c A ls hx hb hr hml hts hown hlocks hA hS hP hK hD hl
  have hown : s.vm.findClass RX8 = some m.cls := hown
  have hl : lv_has ls 3 [(0, .ref a_t)] := hl
  refine lv_bipush (v := (-9)) hx hb dX8_even_0 (by decide) ?_
  refine lv_istore_n (lv' := [(1, .int (-9)), (0, .ref a_t)]) hx hb dX8_even_2 rfl hl (by decide) rfl (fun ls hl => ?_)
  refine lv_bipush (v := 55) hx hb dX8_even_3 (by decide) ?_
  refine lv_istore_n (lv' := [(2, .int 55), (1, .int (-9)), (0, .ref a_t)]) hx hb dX8_even_5 rfl hl (by decide) rfl (fun ls hl => ?_)
  obtain ⟨z28, hit28, hz28⟩ := zz_mtE h
  refine zz_cut (fun V => ∀ (x29 : Int32) (x30 : Int64) (x31 : Int64) (x32 : Int64) (H : Heap) (locs : List Loc) (ls : Array Slot), fk_X8_even_6 x29 x30 x31 x32 = some (rr, o1, o2, o3) → va_P (dC, dI) vwCl [(a_t, .inr (7, [.ref a_t_text, .ref a_t_now, .ref a_t_slotZero, .ref a_t_slotOne, .ref a_t_wishes, .ref a_t_planner, .ref a_t_mending, .ref a_t_reading, .ref a_t_otherReading, .int t_theYear])), (a_t_now, .inr (4, [.ref a_t_now_paper, .long t_now_plan, .ref a_t_now_timesLate, .ref a_t_now_paid, .int t_now_isKept])), (a_t_now_paper, .inr (1, [.int t_now_paper_size, .ref a_t_now_paper_numbers, .ref a_t_now_paper_ranks, .ref a_t_now_paper_told, .ref a_t_now_paper_ones, .ref a_t_now_paper_turnsByYear])), (a_t_now_paper_numbers, .inl (cI, 10, .inl t_now_paper_numbers)), (a_t_now_paper_ones, .inl (cJ, 10, .inr (.inl t_now_paper_ones))), (a_t_now_paper_ranks, .inl (cI, 10, .inl t_now_paper_ranks)), (a_t_now_paper_told, .inl (cJ, 10, .inr (.inl t_now_paper_told))), (a_t_now_paper_turnsByYear, .inl (cZ, 10, .inl t_now_paper_turnsByYear)), (a_t_reading, .inr (3, [.long x30, .long x31, .long x32]))] H → va_D A [(a_t, .inr (7, [.ref a_t_text, .ref a_t_now, .ref a_t_slotZero, .ref a_t_slotOne, .ref a_t_wishes, .ref a_t_planner, .ref a_t_mending, .ref a_t_reading, .ref a_t_otherReading, .int t_theYear])), (a_t_now, .inr (4, [.ref a_t_now_paper, .long t_now_plan, .ref a_t_now_timesLate, .ref a_t_now_paid, .int t_now_isKept])), (a_t_now_paper, .inr (1, [.int t_now_paper_size, .ref a_t_now_paper_numbers, .ref a_t_now_paper_ranks, .ref a_t_now_paper_told, .ref a_t_now_paper_ones, .ref a_t_now_paper_turnsByYear])), (a_t_now_paper_numbers, .inl (cI, 10, .inl t_now_paper_numbers)), (a_t_now_paper_ones, .inl (cJ, 10, .inr (.inl t_now_paper_ones))), (a_t_now_paper_ranks, .inl (cI, 10, .inl t_now_paper_ranks)), (a_t_now_paper_told, .inl (cJ, 10, .inr (.inl t_now_paper_told))), (a_t_now_paper_turnsByYear, .inl (cZ, 10, .inl t_now_paper_turnsByYear)), (a_t_reading, .inr (3, [.long x30, .long x31, .long x32]))] → va_S A s.heap H locs → lv_has ls 3 [(1, .int x29)] → V H locs (F0 m 31 ls [])) ?_ (fun hE28 => ?_)
  · intro x29 x30 x31 x32 H locs ls h hP hD hS hl
    unfold fk_X8_even_6 at h
    refine lv_iload_n hx hb dX8_even_31 rfl (lv_at hl 0 rfl) ?_
    exact zz_iret (x30, x31, x32) hx hb hr hlocks dX8_even_32 (Option.some.inj h) hP hK hD hS
  refine zz_cut (fun V => ∀ (n : Nat) (x24 : Int32) (x25 : Int32) (x26 : Int64) (x27 : Int64) (x28 : Int64) (H : Heap) (locs : List Loc) (ls : Array Slot), zz_it (fun z => fb_X8_even_6 t_theYear t_now_plan t_now_paper_size t_now_paper_numbers t_now_paper_ones t_now_paper_ranks t_now_paper_told t_now_paper_turnsByYear z.1 z.2.1 z.2.2.1 z.2.2.2.1 z.2.2.2.2) n (x24, x25, x26, x27, x28) = some z28 → va_P (dC, dI) vwCl [(a_t, .inr (7, [.ref a_t_text, .ref a_t_now, .ref a_t_slotZero, .ref a_t_slotOne, .ref a_t_wishes, .ref a_t_planner, .ref a_t_mending, .ref a_t_reading, .ref a_t_otherReading, .int t_theYear])), (a_t_now, .inr (4, [.ref a_t_now_paper, .long t_now_plan, .ref a_t_now_timesLate, .ref a_t_now_paid, .int t_now_isKept])), (a_t_now_paper, .inr (1, [.int t_now_paper_size, .ref a_t_now_paper_numbers, .ref a_t_now_paper_ranks, .ref a_t_now_paper_told, .ref a_t_now_paper_ones, .ref a_t_now_paper_turnsByYear])), (a_t_now_paper_numbers, .inl (cI, 10, .inl t_now_paper_numbers)), (a_t_now_paper_ones, .inl (cJ, 10, .inr (.inl t_now_paper_ones))), (a_t_now_paper_ranks, .inl (cI, 10, .inl t_now_paper_ranks)), (a_t_now_paper_told, .inl (cJ, 10, .inr (.inl t_now_paper_told))), (a_t_now_paper_turnsByYear, .inl (cZ, 10, .inl t_now_paper_turnsByYear)), (a_t_reading, .inr (3, [.long x26, .long x27, .long x28]))] H → va_D A [(a_t, .inr (7, [.ref a_t_text, .ref a_t_now, .ref a_t_slotZero, .ref a_t_slotOne, .ref a_t_wishes, .ref a_t_planner, .ref a_t_mending, .ref a_t_reading, .ref a_t_otherReading, .int t_theYear])), (a_t_now, .inr (4, [.ref a_t_now_paper, .long t_now_plan, .ref a_t_now_timesLate, .ref a_t_now_paid, .int t_now_isKept])), (a_t_now_paper, .inr (1, [.int t_now_paper_size, .ref a_t_now_paper_numbers, .ref a_t_now_paper_ranks, .ref a_t_now_paper_told, .ref a_t_now_paper_ones, .ref a_t_now_paper_turnsByYear])), (a_t_now_paper_numbers, .inl (cI, 10, .inl t_now_paper_numbers)), (a_t_now_paper_ones, .inl (cJ, 10, .inr (.inl t_now_paper_ones))), (a_t_now_paper_ranks, .inl (cI, 10, .inl t_now_paper_ranks)), (a_t_now_paper_told, .inl (cJ, 10, .inr (.inl t_now_paper_told))), (a_t_now_paper_turnsByYear, .inl (cZ, 10, .inl t_now_paper_turnsByYear)), (a_t_reading, .inr (3, [.long x26, .long x27, .long x28]))] → va_S A s.heap H locs → lv_has ls 3 [(0, .ref a_t), (1, .int x24), (2, .int x25)] → V H locs (F0 m 6 ls [])) ?_ (fun hL28 => ?_)
  · intro n
    induction n with
    | zero => intro x24 x25 x26 x27 x28 H locs ls hit28; exact (zz_it0 hit28).elim
    | succ n ih28 =>
      intro x24 x25 x26 x27 x28 H locs ls hit28 hP hD hS hl
      obtain ⟨y28, hb28, hy28⟩ := zz_itE hit28
      have hb28 : fb_X8_even_6 t_theYear t_now_plan t_now_paper_size t_now_paper_numbers t_now_paper_ones t_now_paper_ranks t_now_paper_told t_now_paper_turnsByYear x24 x25 x26 x27 x28 = some y28 := hb28
      unfold fb_X8_even_6 at hb28
      refine lv_iload_n hx hb dX8_even_6 rfl (lv_at hl 2 rfl) ?_
      refine lv_if_lt (tgt := 31) hx hb dX8_even_7 (by decide) (fun c33 => ?_) (fun c33 => ?_)
      · have hb28 := zz_if c33 hb28
        obtain rfl := Option.some.inj hb28
        obtain rfl := Option.some.inj hy28
        exact hE28 x24 x26 x27 x28 _ _ ls hz28 hP hD hS (lv_sub hl [1] rfl)
      · have hb28 := zz_ifn c33 hb28
        refine lv_aload_n hx hb dX8_even_10 rfl (lv_at hl 0 rfl) ?_
        refine lv_iload_n hx hb dX8_even_11 rfl (lv_at hl 2 rfl) ?_
        obtain ⟨x34, u35, he36, hb28⟩ := zz_b2E hb28
        refine zz_PL (As := [.int x25]) (rest := [.ref a_t]) ⟨hx, hb, hml, hown, hts⟩ (ct_X1_upTo l dC dI cI cJ cB cZ x25 x34 u35 he36) gX8_even_X1_upTo hd_X1_upTo rfl rfl rfl ⟨Nat.le_of_ble_eq_true rfl, Nat.le_of_ble_eq_true rfl⟩ ⟨Nat.le_of_ble_eq_true rfl, Nat.le_of_ble_eq_true rfl⟩ rfl rfl (Nat.le_of_ble_eq_true rfl) dX8_even_12 hl.1 hP hK hS hA (fun H locs hP hS => ?_)
        obtain ⟨x37, x38, x39, x40, he41, hb28⟩ := zz_b4E hb28
        refine zz_VI (q := (RX8, TX8, 10)) (As := [.long x34]) (rest := []) (wr := []) (wm := [(a_t, .inr (7, [.ref a_t_text, .ref a_t_now, .ref a_t_slotZero, .ref a_t_slotOne, .ref a_t_wishes, .ref a_t_planner, .ref a_t_mending, .ref a_t_reading, .ref a_t_otherReading, .int t_theYear])), (a_t_now, .inr (4, [.ref a_t_now_paper, .long t_now_plan, .ref a_t_now_timesLate, .ref a_t_now_paid, .int t_now_isKept])), (a_t_now_paper, .inr (1, [.int t_now_paper_size, .ref a_t_now_paper_numbers, .ref a_t_now_paper_ranks, .ref a_t_now_paper_told, .ref a_t_now_paper_ones, .ref a_t_now_paper_turnsByYear])), (a_t_now_paper_numbers, .inl (cI, 10, .inl t_now_paper_numbers)), (a_t_now_paper_ones, .inl (cJ, 10, .inr (.inl t_now_paper_ones))), (a_t_now_paper_ranks, .inl (cI, 10, .inl t_now_paper_ranks)), (a_t_now_paper_told, .inl (cJ, 10, .inr (.inl t_now_paper_told))), (a_t_now_paper_turnsByYear, .inl (cZ, 10, .inl t_now_paper_turnsByYear)), (a_t_reading, .inr (3, [.long x38, .long x39, .long x40]))]) ⟨hx, hb, hml, hown, hts⟩ (ct_X8_owedAmong l dC dI cI cJ cB cZ a_t a_t_now a_t_now_paper a_t_now_paper_numbers a_t_now_paper_ones a_t_now_paper_ranks a_t_now_paper_told a_t_now_paper_turnsByYear a_t_reading a_t_text a_t_slotZero a_t_slotOne a_t_wishes a_t_planner a_t_mending a_t_otherReading a_t_now_timesLate a_t_now_paid t_theYear t_now_plan t_now_isKept t_now_paper_size t_now_paper_numbers t_now_paper_ones t_now_paper_ranks t_now_paper_told t_now_paper_turnsByYear x26 x27 x28 x34 x37 x38 x39 x40 he41) gX8_even_X8_owedAmong hd_X8_owedAmong rfl rfl rfl ⟨Nat.le_of_ble_eq_true rfl, Nat.le_of_ble_eq_true rfl⟩ ⟨Nat.le_of_ble_eq_true rfl, Nat.le_of_ble_eq_true rfl⟩ rfl rfl (Nat.le_of_ble_eq_true rfl) dX8_even_15 hl.1 rfl (ci := 7) rfl (q0 := 0) rfl hP hK hD hS hA [0, 1, 2, 3, 4, 5, 6, 7, 8] [] [0, 1, 2, 3, 4, 5, 6, 7, 8] rfl rfl (by decide) (by decide) (by decide) (by decide) rfl (fun H locs hP hD hS => ?_)
        refine lv_if_eq (tgt := 23) hx hb dX8_even_18 (by decide) (fun c42 => ?_) (fun c42 => ?_)
        · have hb28 := zz_if c42 hb28
          refine lv_iload_n hx hb dX8_even_23 rfl (lv_at hl 2 rfl) ?_
          refine lv_istore_n (lv' := [(1, .int x25), (0, .ref a_t), (2, .int x25)]) hx hb dX8_even_24 rfl hl (by decide) rfl (fun ls hl => ?_)
          obtain ⟨x43, ex43⟩ : ∃ z : Int32, z = x25 + (-1) := ⟨_, rfl⟩
          have hb28 := zz_nmE ex43 hb28
          refine lv_iinc (v := x43) (lv' := [(2, .int x43), (1, .int x25), (0, .ref a_t)]) hx hb dX8_even_25 hl (k := 2) rfl (by rw [ex43]; rfl) (by decide) rfl (fun ls hl => ?_)
          refine lv_goto (tgt := 6) hx hb dX8_even_28 (by decide) ?_
          obtain rfl := Option.some.inj hb28
          exact ih28 x25 x43 x38 x39 x40 _ _ ls hy28 hP hD hS (lv_sub hl [2, 1, 0] rfl)
        · have hb28 := zz_ifn c42 hb28
          refine lv_iload_n hx hb dX8_even_21 rfl (lv_at hl 1 rfl) ?_
          obtain rfl := Option.some.inj hb28
          obtain rfl := Option.some.inj hy28
          exact zz_iret (x38, x39, x40) hx hb hr hlocks dX8_even_22 (Option.some.inj hz28) hP hK hD hS
  exact hL28 zz_fuel (-9) 55 t_reading_zero t_reading_one t_reading_fights _ _ ls hit28 hP hD hS (lv_sub hl [2, 1, 0] rfl)
theorem hd_X8_cheapestReturn : yX8_cheapestReturn.cls ≠ "java/lang/invoke/MethodHandle" ∧ yX8_cheapestReturn.cls ≠ "java/lang/invoke/VarHandle" ∧ (parseMethodDescriptor yX8_cheapestReturn.desc).map (fun d => d.parameters.length) = some 2 := by decide +kernel
set_option maxRecDepth 20000 in
theorem in_X8_cheapestReturn_X8 : ∀ w ∈ u_ws RX8 TX8 10, w ∈ wsX8_cheapestReturn := by decide +kernel
set_option maxRecDepth 20000 in
theorem in_X8_cheapestReturn_X5 : ∀ w ∈ u_ws RX5 TX5 5, w ∈ wsX8_cheapestReturn := by decide +kernel
set_option maxRecDepth 20000 in
theorem lk_X8_cheapestReturn_0 : Cond.initialized "java/lang/Math" ∈ wsX8_cheapestReturn := by decide +kernel
set_option maxRecDepth 20000 in
theorem lk_X8_cheapestReturn_1 : Cond.methodLink RX8 262 Lib.Math.max.name ∈ wsX8_cheapestReturn := by decide +kernel
set_option maxRecDepth 20000 in
theorem lk_X8_cheapestReturn_2 : Cond.static Lib.Math.max.name ∈ wsX8_cheapestReturn := by decide +kernel
set_option maxRecDepth 20000 in
theorem lk_X8_cheapestReturn_3 : Cond.code Lib.Math.max.name Lib.Math.max.code 2 (some .int) ∈ wsX8_cheapestReturn := by decide +kernel
set_option maxRecDepth 20000 in
theorem lk_X8_cheapestReturn_4 : Cond.methodLink RX8 267 Lib.Math.min.name ∈ wsX8_cheapestReturn := by decide +kernel
set_option maxRecDepth 20000 in
theorem lk_X8_cheapestReturn_5 : Cond.static Lib.Math.min.name ∈ wsX8_cheapestReturn := by decide +kernel
set_option maxRecDepth 20000 in
theorem lk_X8_cheapestReturn_6 : Cond.code Lib.Math.min.name Lib.Math.min.code 2 (some .int) ∈ wsX8_cheapestReturn := by decide +kernel
set_option maxRecDepth 20000 in
theorem lk_X8_cheapestReturn_7 : Cond.fieldLink RX8 19 "TwoHousesOneChild" "now" "LTwoHousesOneChild$Standing;" ∈ wsX8_cheapestReturn := by decide +kernel
set_option maxRecDepth 20000 in
theorem lk_X8_cheapestReturn_8 : Cond.fieldLink RX8 136 "TwoHousesOneChild$Standing" "plan" "J" ∈ wsX8_cheapestReturn := by decide +kernel
set_option maxRecDepth 20000 in
theorem lk_X8_cheapestReturn_9 : Cond.fieldLink RX8 32 "TwoHousesOneChild" "wishes" "LTwoHousesOneChild$Wishes;" ∈ wsX8_cheapestReturn := by decide +kernel
set_option maxHeartbeats 4000000 in
set_option maxRecDepth 100000 in
theorem ct_X8_cheapestReturn (l : Launch) (dC : Nat → ClassId) (dI : Nat → Nat → Nat) (cI cJ cB cZ : ClassId) (a_t a_t_now a_t_wishes a_t_wishes_against a_t_text a_t_slotZero a_t_slotOne a_t_planner a_t_mending a_t_reading a_t_otherReading a_t_now_paper a_t_now_timesLate a_t_now_paid : Nat) (t_theYear : Int32) (t_now_plan : Int64) (t_now_isKept : Int32) (t_wishes_longest : Int32) (t_wishes_perLong : Int32) (t_wishes_perHanding : Int32) (t_wishes_wants : Int32) (t_wishes_against : (Nat → Int32)) (p1 : Int32) (p2 : Int32) (rr : Int32) (u0 : Unit) (h : fn_X8_cheapestReturn t_now_plan t_wishes_longest t_wishes_perLong t_wishes_perHanding t_wishes_wants t_wishes_against p1 p2 = some (rr, u0)) : zz_M l yX8_cheapestReturn wsX8_cheapestReturn ({ frames := 3, cells := 0, slots := 0, locals := 72 }) (dC, dI) (zz_T cI cJ cB cZ) [.ref a_t, .int p1, .int p2] [(a_t, .inr (7, [.ref a_t_text, .ref a_t_now, .ref a_t_slotZero, .ref a_t_slotOne, .ref a_t_wishes, .ref a_t_planner, .ref a_t_mending, .ref a_t_reading, .ref a_t_otherReading, .int t_theYear])), (a_t_now, .inr (4, [.ref a_t_now_paper, .long t_now_plan, .ref a_t_now_timesLate, .ref a_t_now_paid, .int t_now_isKept])), (a_t_wishes, .inr (6, [.int t_wishes_longest, .int t_wishes_perLong, .int t_wishes_perHanding, .int t_wishes_wants, .ref a_t_wishes_against])), (a_t_wishes_against, .inl (cI, 112, .inl t_wishes_against))] (zz_QI (dC, dI) (zz_T cI cJ cB cZ) (rr, u0) (fun (u : Unit) => [(a_t, .inr (7, [.ref a_t_text, .ref a_t_now, .ref a_t_slotZero, .ref a_t_slotOne, .ref a_t_wishes, .ref a_t_planner, .ref a_t_mending, .ref a_t_reading, .ref a_t_otherReading, .int t_theYear])), (a_t_now, .inr (4, [.ref a_t_now_paper, .long t_now_plan, .ref a_t_now_timesLate, .ref a_t_now_paid, .int t_now_isKept])), (a_t_wishes, .inr (6, [.int t_wishes_longest, .int t_wishes_perLong, .int t_wishes_perHanding, .int t_wishes_wants, .ref a_t_wishes_against])), (a_t_wishes_against, .inl (cI, 112, .inl t_wishes_against))])) := by
  unfold fn_X8_cheapestReturn at h
  refine zz_of (by decide) rfl (Nat.le_of_ble_eq_true rfl) ?_
  intro p e s m below meth c A ls hx hb hr hml hts hown hlocks hA hS hP hK hD hl
  have hown : s.vm.findClass RX8 = some m.cls := hown
  have hl : lv_has ls 9 [(0, .ref a_t), (1, .int p1), (2, .int p2)] := hl
  refine lv_iload_n hx hb dX8_cheapestReturn_0 rfl (lv_at hl 1 rfl) ?_
  refine lv_bipush (v := 14) hx hb dX8_cheapestReturn_1 (by decide) ?_
  refine lv_isub hx hb dX8_cheapestReturn_3 ?_
  refine lv_iconst (v := 0) hx hb dX8_cheapestReturn_4 (by decide) ?_
  refine va_mmax hx hb (hml.trans hl.1.symm) hown (hts _ lk_X8_cheapestReturn_1) (hts _ lk_X8_cheapestReturn_2) (hts _ lk_X8_cheapestReturn_0) (hts _ lk_X8_cheapestReturn_3) (Nat.le_of_ble_eq_true rfl) (Nat.le_of_ble_eq_true rfl) (Nat.le_of_ble_eq_true rfl) (Nat.le_of_ble_eq_true rfl) dX8_cheapestReturn_5 ?_
  refine lv_topi (fun x1 ex1 => ?_)
  have h := zz_nmE ex1 h
  refine lv_istore_n (lv' := [(3, .int x1), (0, .ref a_t), (1, .int p1), (2, .int p2)]) hx hb dX8_cheapestReturn_8 rfl hl (by decide) rfl (fun ls hl => ?_)
  refine lv_iload_n hx hb dX8_cheapestReturn_9 rfl (lv_at hl 2 rfl) ?_
  refine lv_bipush (v := 14) hx hb dX8_cheapestReturn_10 (by decide) ?_
  refine lv_iadd hx hb dX8_cheapestReturn_12 ?_
  refine lv_bipush (v := 55) hx hb dX8_cheapestReturn_13 (by decide) ?_
  refine va_mmin hx hb (hml.trans hl.1.symm) hown (hts _ lk_X8_cheapestReturn_4) (hts _ lk_X8_cheapestReturn_5) (hts _ lk_X8_cheapestReturn_0) (hts _ lk_X8_cheapestReturn_6) (Nat.le_of_ble_eq_true rfl) (Nat.le_of_ble_eq_true rfl) (Nat.le_of_ble_eq_true rfl) (Nat.le_of_ble_eq_true rfl) dX8_cheapestReturn_15 ?_
  refine lv_topi (fun x2 ex2 => ?_)
  have h := zz_nmE ex2 h
  refine lv_istore (lv' := [(4, .int x2), (3, .int x1), (0, .ref a_t), (1, .int p1), (2, .int p2)]) hx hb dX8_cheapestReturn_18 hl (by decide) rfl (fun ls hl => ?_)
  refine lv_bipush (v := (-9)) hx hb dX8_cheapestReturn_20 (by decide) ?_
  refine lv_istore (lv' := [(5, .int (-9)), (4, .int x2), (3, .int x1), (0, .ref a_t), (1, .int p1), (2, .int p2)]) hx hb dX8_cheapestReturn_22 hl (by decide) rfl (fun ls hl => ?_)
  refine lv_iconst (v := 0) hx hb dX8_cheapestReturn_24 (by decide) ?_
  refine lv_istore (lv' := [(6, .int 0), (5, .int (-9)), (4, .int x2), (3, .int x1), (0, .ref a_t), (1, .int p1), (2, .int p2)]) hx hb dX8_cheapestReturn_25 hl (by decide) rfl (fun ls hl => ?_)
  refine lv_iload_n hx hb dX8_cheapestReturn_27 rfl (lv_at hl 3 rfl) ?_
  refine lv_istore (lv' := [(7, .int x1), (6, .int 0), (5, .int (-9)), (4, .int x2), (3, .int x1), (0, .ref a_t), (1, .int p1), (2, .int p2)]) hx hb dX8_cheapestReturn_28 hl (by decide) rfl (fun ls hl => ?_)
  obtain ⟨x42, hit41, h⟩ := zz_b1E h
  refine zz_cut (fun V => ∀ (H : Heap) (locs : List Loc) (ls : Array Slot), va_P (dC, dI) vwCl [(a_t, .inr (7, [.ref a_t_text, .ref a_t_now, .ref a_t_slotZero, .ref a_t_slotOne, .ref a_t_wishes, .ref a_t_planner, .ref a_t_mending, .ref a_t_reading, .ref a_t_otherReading, .int t_theYear])), (a_t_now, .inr (4, [.ref a_t_now_paper, .long t_now_plan, .ref a_t_now_timesLate, .ref a_t_now_paid, .int t_now_isKept])), (a_t_wishes, .inr (6, [.int t_wishes_longest, .int t_wishes_perLong, .int t_wishes_perHanding, .int t_wishes_wants, .ref a_t_wishes_against])), (a_t_wishes_against, .inl (cI, 112, .inl t_wishes_against))] H → va_D A [(a_t, .inr (7, [.ref a_t_text, .ref a_t_now, .ref a_t_slotZero, .ref a_t_slotOne, .ref a_t_wishes, .ref a_t_planner, .ref a_t_mending, .ref a_t_reading, .ref a_t_otherReading, .int t_theYear])), (a_t_now, .inr (4, [.ref a_t_now_paper, .long t_now_plan, .ref a_t_now_timesLate, .ref a_t_now_paid, .int t_now_isKept])), (a_t_wishes, .inr (6, [.int t_wishes_longest, .int t_wishes_perLong, .int t_wishes_perHanding, .int t_wishes_wants, .ref a_t_wishes_against])), (a_t_wishes_against, .inl (cI, 112, .inl t_wishes_against))] → va_S A s.heap H locs → lv_has ls 9 [(5, .int x42)] → V H locs (F0 m 106 ls [])) ?_ (fun hE41 => ?_)
  · intro H locs ls hP hD hS hl
    refine lv_iload hx hb dX8_cheapestReturn_106 (lv_at hl 0 rfl) ?_
    exact zz_iret () hx hb hr hlocks dX8_cheapestReturn_108 (Option.some.inj h) hP hK hD hS
  refine zz_cut (fun V => ∀ (n : Nat) (x39 : Int32) (x40 : Int32) (x41 : Int32) (H : Heap) (locs : List Loc) (ls : Array Slot), zz_it (fun z => fb_X8_cheapestReturn_30 p1 p2 x2 t_now_plan t_wishes_longest t_wishes_perLong t_wishes_perHanding t_wishes_wants t_wishes_against z.1 z.2.1 z.2.2) n (x39, x40, x41) = some x42 → va_P (dC, dI) vwCl [(a_t, .inr (7, [.ref a_t_text, .ref a_t_now, .ref a_t_slotZero, .ref a_t_slotOne, .ref a_t_wishes, .ref a_t_planner, .ref a_t_mending, .ref a_t_reading, .ref a_t_otherReading, .int t_theYear])), (a_t_now, .inr (4, [.ref a_t_now_paper, .long t_now_plan, .ref a_t_now_timesLate, .ref a_t_now_paid, .int t_now_isKept])), (a_t_wishes, .inr (6, [.int t_wishes_longest, .int t_wishes_perLong, .int t_wishes_perHanding, .int t_wishes_wants, .ref a_t_wishes_against])), (a_t_wishes_against, .inl (cI, 112, .inl t_wishes_against))] H → va_D A [(a_t, .inr (7, [.ref a_t_text, .ref a_t_now, .ref a_t_slotZero, .ref a_t_slotOne, .ref a_t_wishes, .ref a_t_planner, .ref a_t_mending, .ref a_t_reading, .ref a_t_otherReading, .int t_theYear])), (a_t_now, .inr (4, [.ref a_t_now_paper, .long t_now_plan, .ref a_t_now_timesLate, .ref a_t_now_paid, .int t_now_isKept])), (a_t_wishes, .inr (6, [.int t_wishes_longest, .int t_wishes_perLong, .int t_wishes_perHanding, .int t_wishes_wants, .ref a_t_wishes_against])), (a_t_wishes_against, .inl (cI, 112, .inl t_wishes_against))] → va_S A s.heap H locs → lv_has ls 9 [(0, .ref a_t), (1, .int p1), (2, .int p2), (4, .int x2), (5, .int x39), (6, .int x40), (7, .int x41)] → V H locs (F0 m 30 ls [])) ?_ (fun hL41 => ?_)
  · intro n
    induction n with
    | zero => intro x39 x40 x41 H locs ls hit41; exact (zz_it0 hit41).elim
    | succ n ih41 =>
      intro x39 x40 x41 H locs ls hit41 hP hD hS hl
      obtain ⟨y41, hb41, hy41⟩ := zz_itE hit41
      have hb41 : fb_X8_cheapestReturn_30 p1 p2 x2 t_now_plan t_wishes_longest t_wishes_perLong t_wishes_perHanding t_wishes_wants t_wishes_against x39 x40 x41 = some y41 := hb41
      unfold fb_X8_cheapestReturn_30 at hb41
      refine lv_iload hx hb dX8_cheapestReturn_30 (lv_at hl 6 rfl) ?_
      refine lv_iload hx hb dX8_cheapestReturn_32 (lv_at hl 3 rfl) ?_
      refine lv_icmp_gt (tgt := 106) hx hb dX8_cheapestReturn_34 (by decide) (fun c43 => ?_) (fun c43 => ?_)
      · have hb41 := zz_if c43 hb41
        obtain rfl := Option.some.inj hb41
        have hy41 := Option.some.inj hy41
        cases hy41
        exact hE41 _ _ ls hP hD hS (lv_sub hl [4] rfl)
      · have hb41 := zz_ifn c43 hb41
        refine lv_aload_n hx hb dX8_cheapestReturn_37 rfl (lv_at hl 0 rfl) ?_
        refine va_get (ci := 7) (v := .ref a_t_now) (C := RX8) (T := TX8) (N := 10) hx hb hts in_X8_cheapestReturn_X8 hown hK hP 0 rfl rfl 1 (by decide) (hts _ lk_X8_cheapestReturn_7) (fun _ h9 => h9) rfl dX8_cheapestReturn_38 ?_
        refine va_get (ci := 4) (v := .long t_now_plan) (C := RX5) (T := TX5) (N := 5) hx hb hts in_X8_cheapestReturn_X5 hown hK hP 1 rfl rfl 1 (by decide) (hts _ lk_X8_cheapestReturn_8) (fun _ h9 => h9) rfl dX8_cheapestReturn_41 ?_
        refine lv_iload hx hb dX8_cheapestReturn_44 (lv_at hl 6 rfl) ?_
        obtain ⟨x44, u45, he46, hb41⟩ := zz_b2E hb41
        refine zz_PI (As := [.long t_now_plan, .int x41]) (rest := []) ⟨hx, hb, hml, hown, hts⟩ (ct_X1_houseAt l dC dI cI cJ cB cZ t_now_plan x41 x44 u45 he46) gX8_cheapestReturn_X1_houseAt hd_X1_houseAt rfl rfl rfl ⟨Nat.le_of_ble_eq_true rfl, Nat.le_of_ble_eq_true rfl⟩ ⟨Nat.le_of_ble_eq_true rfl, Nat.le_of_ble_eq_true rfl⟩ rfl rfl (Nat.le_of_ble_eq_true rfl) dX8_cheapestReturn_46 hl.1 hP hK hS hA (fun H locs hP hS => ?_)
        refine lv_iload_n hx hb dX8_cheapestReturn_49 rfl (lv_at hl 2 rfl) ?_
        refine lv_icmp_eq (tgt := 56) hx hb dX8_cheapestReturn_50 (by decide) (fun c47 => ?_) (fun c47 => ?_)
        · have hb41 := zz_if c47 hb41
          refine lv_aload_n hx hb dX8_cheapestReturn_56 rfl (lv_at hl 0 rfl) ?_
          refine va_get (ci := 7) (v := .ref a_t_wishes) (C := RX8) (T := TX8) (N := 10) hx hb hts in_X8_cheapestReturn_X8 hown hK hP 0 rfl rfl 4 (by decide) (hts _ lk_X8_cheapestReturn_9) (fun _ h9 => h9) rfl dX8_cheapestReturn_57 ?_
          refine lv_aload_n hx hb dX8_cheapestReturn_60 rfl (lv_at hl 0 rfl) ?_
          refine va_get (ci := 7) (v := .ref a_t_now) (C := RX8) (T := TX8) (N := 10) hx hb hts in_X8_cheapestReturn_X8 hown hK hP 0 rfl rfl 1 (by decide) (hts _ lk_X8_cheapestReturn_7) (fun _ h9 => h9) rfl dX8_cheapestReturn_61 ?_
          refine va_get (ci := 4) (v := .long t_now_plan) (C := RX5) (T := TX5) (N := 5) hx hb hts in_X8_cheapestReturn_X5 hown hK hP 1 rfl rfl 1 (by decide) (hts _ lk_X8_cheapestReturn_8) (fun _ h9 => h9) rfl dX8_cheapestReturn_64 ?_
          refine lv_iload_n hx hb dX8_cheapestReturn_67 rfl (lv_at hl 1 rfl) ?_
          refine lv_iload hx hb dX8_cheapestReturn_68 (lv_at hl 6 rfl) ?_
          obtain ⟨x48, u49, he50, hb41⟩ := zz_b2E hb41
          refine zz_PL (As := [.long t_now_plan, .int p1, .int x41]) (rest := [.ref a_t_wishes]) ⟨hx, hb, hml, hown, hts⟩ (ct_X1_turned l dC dI cI cJ cB cZ t_now_plan p1 x41 x48 u49 he50) gX8_cheapestReturn_X1_turned hd_X1_turned rfl rfl rfl ⟨Nat.le_of_ble_eq_true rfl, Nat.le_of_ble_eq_true rfl⟩ ⟨Nat.le_of_ble_eq_true rfl, Nat.le_of_ble_eq_true rfl⟩ rfl rfl (Nat.le_of_ble_eq_true rfl) dX8_cheapestReturn_70 hl.1 hP hK hS hA (fun H locs hP hS => ?_)
          obtain ⟨x51, u52, he53, hb41⟩ := zz_b2E hb41
          refine zz_VI (q := (RX7, TX7, 5)) (As := [.long x48]) (rest := []) (wr := [(a_t, .inr (7, [.ref a_t_text, .ref a_t_now, .ref a_t_slotZero, .ref a_t_slotOne, .ref a_t_wishes, .ref a_t_planner, .ref a_t_mending, .ref a_t_reading, .ref a_t_otherReading, .int t_theYear])), (a_t_now, .inr (4, [.ref a_t_now_paper, .long t_now_plan, .ref a_t_now_timesLate, .ref a_t_now_paid, .int t_now_isKept]))]) (wm := [(a_t, .inr (7, [.ref a_t_text, .ref a_t_now, .ref a_t_slotZero, .ref a_t_slotOne, .ref a_t_wishes, .ref a_t_planner, .ref a_t_mending, .ref a_t_reading, .ref a_t_otherReading, .int t_theYear])), (a_t_now, .inr (4, [.ref a_t_now_paper, .long t_now_plan, .ref a_t_now_timesLate, .ref a_t_now_paid, .int t_now_isKept])), (a_t_wishes, .inr (6, [.int t_wishes_longest, .int t_wishes_perLong, .int t_wishes_perHanding, .int t_wishes_wants, .ref a_t_wishes_against])), (a_t_wishes_against, .inl (cI, 112, .inl t_wishes_against))]) ⟨hx, hb, hml, hown, hts⟩ (ct_X7_costOf l dC dI cI cJ cB cZ a_t_wishes a_t_wishes_against t_wishes_longest t_wishes_perLong t_wishes_perHanding t_wishes_wants t_wishes_against x48 x51 u52 he53) gX8_cheapestReturn_X7_costOf hd_X7_costOf rfl rfl rfl ⟨Nat.le_of_ble_eq_true rfl, Nat.le_of_ble_eq_true rfl⟩ ⟨Nat.le_of_ble_eq_true rfl, Nat.le_of_ble_eq_true rfl⟩ rfl rfl (Nat.le_of_ble_eq_true rfl) dX8_cheapestReturn_73 hl.1 rfl (ci := 6) rfl (q0 := 2) rfl hP hK hD hS hA [2, 3] [0, 1] [0, 1, 2, 3] rfl rfl (by decide) (by decide) (by decide) (by decide) rfl (fun H locs hP hD hS => ?_)
          refine lv_istore (lv' := [(8, .int x51), (0, .ref a_t), (1, .int p1), (2, .int p2), (4, .int x2), (5, .int x39), (6, .int x40), (7, .int x41)]) hx hb dX8_cheapestReturn_76 hl (by decide) rfl (fun ls hl => ?_)
          refine lv_iload hx hb dX8_cheapestReturn_78 (lv_at hl 5 rfl) ?_
          refine lv_bipush (v := (-9)) hx hb dX8_cheapestReturn_80 (by decide) ?_
          refine lv_icmp_eq (tgt := 92) hx hb dX8_cheapestReturn_82 (by decide) (fun c54 => ?_) (fun c54 => ?_)
          · have hb41 := zz_if c54 hb41
            refine lv_iload hx hb dX8_cheapestReturn_92 (lv_at hl 7 rfl) ?_
            refine lv_istore (lv' := [(5, .int x41), (8, .int x51), (0, .ref a_t), (1, .int p1), (2, .int p2), (4, .int x2), (6, .int x40), (7, .int x41)]) hx hb dX8_cheapestReturn_94 hl (by decide) rfl (fun ls hl => ?_)
            refine lv_iload hx hb dX8_cheapestReturn_96 (lv_at hl 1 rfl) ?_
            refine lv_istore (lv' := [(6, .int x51), (5, .int x41), (8, .int x51), (0, .ref a_t), (1, .int p1), (2, .int p2), (4, .int x2), (7, .int x41)]) hx hb dX8_cheapestReturn_98 hl (by decide) rfl (fun ls hl => ?_)
            obtain ⟨x55, ex55⟩ : ∃ z : Int32, z = x41 + 1 := ⟨_, rfl⟩
            have hb41 := zz_nmE ex55 hb41
            refine lv_iinc (v := x55) (lv' := [(7, .int x55), (6, .int x51), (5, .int x41), (8, .int x51), (0, .ref a_t), (1, .int p1), (2, .int p2), (4, .int x2)]) hx hb dX8_cheapestReturn_100 hl (k := 7) rfl (by rw [ex55]; rfl) (by decide) rfl (fun ls hl => ?_)
            refine lv_goto (tgt := 30) hx hb dX8_cheapestReturn_103 (by decide) ?_
            obtain rfl := Option.some.inj hb41
            exact ih41 x41 x51 x55 _ _ ls hy41 hP hD hS (lv_sub hl [4, 5, 6, 7, 2, 1, 0] rfl)
          · have hb41 := zz_ifn c54 hb41
            refine lv_iload hx hb dX8_cheapestReturn_85 (lv_at hl 0 rfl) ?_
            refine lv_iload hx hb dX8_cheapestReturn_87 (lv_at hl 6 rfl) ?_
            refine lv_icmp_ge (tgt := 100) hx hb dX8_cheapestReturn_89 (by decide) (fun c56 => ?_) (fun c56 => ?_)
            · have hb41 := zz_if c56 hb41
              obtain ⟨x57, ex57⟩ : ∃ z : Int32, z = x41 + 1 := ⟨_, rfl⟩
              have hb41 := zz_nmE ex57 hb41
              refine lv_iinc (v := x57) (lv' := [(7, .int x57), (8, .int x51), (0, .ref a_t), (1, .int p1), (2, .int p2), (4, .int x2), (5, .int x39), (6, .int x40)]) hx hb dX8_cheapestReturn_100 hl (k := 7) rfl (by rw [ex57]; rfl) (by decide) rfl (fun ls hl => ?_)
              refine lv_goto (tgt := 30) hx hb dX8_cheapestReturn_103 (by decide) ?_
              obtain rfl := Option.some.inj hb41
              exact ih41 x39 x40 x57 _ _ ls hy41 hP hD hS (lv_sub hl [2, 3, 4, 5, 6, 7, 0] rfl)
            · have hb41 := zz_ifn c56 hb41
              refine lv_iload hx hb dX8_cheapestReturn_92 (lv_at hl 7 rfl) ?_
              refine lv_istore (lv' := [(5, .int x41), (8, .int x51), (0, .ref a_t), (1, .int p1), (2, .int p2), (4, .int x2), (6, .int x40), (7, .int x41)]) hx hb dX8_cheapestReturn_94 hl (by decide) rfl (fun ls hl => ?_)
              refine lv_iload hx hb dX8_cheapestReturn_96 (lv_at hl 1 rfl) ?_
              refine lv_istore (lv' := [(6, .int x51), (5, .int x41), (8, .int x51), (0, .ref a_t), (1, .int p1), (2, .int p2), (4, .int x2), (7, .int x41)]) hx hb dX8_cheapestReturn_98 hl (by decide) rfl (fun ls hl => ?_)
              obtain ⟨x58, ex58⟩ : ∃ z : Int32, z = x41 + 1 := ⟨_, rfl⟩
              have hb41 := zz_nmE ex58 hb41
              refine lv_iinc (v := x58) (lv' := [(7, .int x58), (6, .int x51), (5, .int x41), (8, .int x51), (0, .ref a_t), (1, .int p1), (2, .int p2), (4, .int x2)]) hx hb dX8_cheapestReturn_100 hl (k := 7) rfl (by rw [ex58]; rfl) (by decide) rfl (fun ls hl => ?_)
              refine lv_goto (tgt := 30) hx hb dX8_cheapestReturn_103 (by decide) ?_
              obtain rfl := Option.some.inj hb41
              exact ih41 x41 x51 x58 _ _ ls hy41 hP hD hS (lv_sub hl [4, 5, 6, 7, 2, 1, 0] rfl)
        · have hb41 := zz_ifn c47 hb41
          refine lv_goto (tgt := 100) hx hb dX8_cheapestReturn_53 (by decide) ?_
          obtain ⟨x59, ex59⟩ : ∃ z : Int32, z = x41 + 1 := ⟨_, rfl⟩
          have hb41 := zz_nmE ex59 hb41
          refine lv_iinc (v := x59) (lv' := [(7, .int x59), (0, .ref a_t), (1, .int p1), (2, .int p2), (4, .int x2), (5, .int x39), (6, .int x40)]) hx hb dX8_cheapestReturn_100 hl (k := 6) rfl (by rw [ex59]; rfl) (by decide) rfl (fun ls hl => ?_)
          refine lv_goto (tgt := 30) hx hb dX8_cheapestReturn_103 (by decide) ?_
          obtain rfl := Option.some.inj hb41
          exact ih41 x39 x40 x59 _ _ ls hy41 hP hD hS (lv_sub hl [1, 2, 3, 4, 5, 6, 0] rfl)
  exact hL41 zz_fuel (-9) 0 x1 _ _ ls hit41 hP hD hS (lv_sub hl [5, 6, 7, 3, 2, 1, 0] rfl)
theorem hd_X8_wedding : yX8_wedding.cls ≠ "java/lang/invoke/MethodHandle" ∧ yX8_wedding.cls ≠ "java/lang/invoke/VarHandle" ∧ (parseMethodDescriptor yX8_wedding.desc).map (fun d => d.parameters.length) = some 2 := by decide +kernel
set_option maxRecDepth 20000 in
theorem in_X8_wedding_X8 : ∀ w ∈ u_ws RX8 TX8 10, w ∈ wsX8_wedding := by decide +kernel
set_option maxRecDepth 20000 in
theorem in_X8_wedding_X5 : ∀ w ∈ u_ws RX5 TX5 5, w ∈ wsX8_wedding := by decide +kernel
set_option maxRecDepth 20000 in
theorem lk_X8_wedding_0 : Cond.fieldLink RX8 19 "TwoHousesOneChild" "now" "LTwoHousesOneChild$Standing;" ∈ wsX8_wedding := by decide +kernel
set_option maxRecDepth 20000 in
theorem lk_X8_wedding_1 : Cond.fieldLink RX8 136 "TwoHousesOneChild$Standing" "plan" "J" ∈ wsX8_wedding := by decide +kernel
set_option maxHeartbeats 4000000 in
set_option maxRecDepth 100000 in
theorem ct_X8_wedding (l : Launch) (dC : Nat → ClassId) (dI : Nat → Nat → Nat) (cI cJ cB cZ : ClassId) (a_t a_t_now a_t_wishes a_t_wishes_against a_t_text a_t_slotZero a_t_slotOne a_t_planner a_t_mending a_t_reading a_t_otherReading a_t_now_paper a_t_now_timesLate a_t_now_paid : Nat) (t_theYear : Int32) (t_now_plan : Int64) (t_now_isKept : Int32) (t_wishes_longest : Int32) (t_wishes_perLong : Int32) (t_wishes_perHanding : Int32) (t_wishes_wants : Int32) (t_wishes_against : (Nat → Int32)) (p1 : Int32) (p2 : Int32) (rr : Int32) (u0 : Unit) (h : fn_X8_wedding t_now_plan t_wishes_longest t_wishes_perLong t_wishes_perHanding t_wishes_wants t_wishes_against p1 p2 = some (rr, u0)) : zz_M l yX8_wedding wsX8_wedding ({ frames := 4, cells := 0, slots := 0, locals := 100 }) (dC, dI) (zz_T cI cJ cB cZ) [.ref a_t, .int p1, .int p2] [(a_t, .inr (7, [.ref a_t_text, .ref a_t_now, .ref a_t_slotZero, .ref a_t_slotOne, .ref a_t_wishes, .ref a_t_planner, .ref a_t_mending, .ref a_t_reading, .ref a_t_otherReading, .int t_theYear])), (a_t_now, .inr (4, [.ref a_t_now_paper, .long t_now_plan, .ref a_t_now_timesLate, .ref a_t_now_paid, .int t_now_isKept])), (a_t_wishes, .inr (6, [.int t_wishes_longest, .int t_wishes_perLong, .int t_wishes_perHanding, .int t_wishes_wants, .ref a_t_wishes_against])), (a_t_wishes_against, .inl (cI, 112, .inl t_wishes_against))] (zz_QI (dC, dI) (zz_T cI cJ cB cZ) (rr, u0) (fun (u : Unit) => [(a_t, .inr (7, [.ref a_t_text, .ref a_t_now, .ref a_t_slotZero, .ref a_t_slotOne, .ref a_t_wishes, .ref a_t_planner, .ref a_t_mending, .ref a_t_reading, .ref a_t_otherReading, .int t_theYear])), (a_t_now, .inr (4, [.ref a_t_now_paper, .long t_now_plan, .ref a_t_now_timesLate, .ref a_t_now_paid, .int t_now_isKept])), (a_t_wishes, .inr (6, [.int t_wishes_longest, .int t_wishes_perLong, .int t_wishes_perHanding, .int t_wishes_wants, .ref a_t_wishes_against])), (a_t_wishes_against, .inl (cI, 112, .inl t_wishes_against))])) := by
  unfold fn_X8_wedding at h
  refine zz_of (by decide) rfl (Nat.le_of_ble_eq_true rfl) ?_
  intro p e s m below meth c A ls hx hb hr hml hts hown hlocks hA hS hP hK hD hl
  have hown : s.vm.findClass RX8 = some m.cls := hown
  have hl : lv_has ls 3 [(0, .ref a_t), (1, .int p1), (2, .int p2)] := hl
  refine lv_iload_n hx hb dX8_wedding_0 rfl (lv_at hl 1 rfl) ?_
  obtain ⟨x1, u2, he3, h⟩ := zz_b2E h
  refine zz_PI (As := [.int p1]) (rest := []) ⟨hx, hb, hml, hown, hts⟩ (ct_X8_isNight l dC dI cI cJ cB cZ p1 x1 u2 he3) gX8_wedding_X8_isNight hd_X8_isNight rfl rfl rfl ⟨Nat.le_of_ble_eq_true rfl, Nat.le_of_ble_eq_true rfl⟩ ⟨Nat.le_of_ble_eq_true rfl, Nat.le_of_ble_eq_true rfl⟩ rfl rfl (Nat.le_of_ble_eq_true rfl) dX8_wedding_1 hl.1 hP hK hS hA (fun H locs hP hS => ?_)
  refine lv_if_eq (tgt := 14) hx hb dX8_wedding_4 (by decide) (fun c4 => ?_) (fun c4 => ?_)
  · have h := zz_if c4 h
    refine lv_iconst (v := (-1)) hx hb dX8_wedding_14 (by decide) ?_
    exact zz_iret () hx hb hr hlocks dX8_wedding_15 (Option.some.inj h) hP hK hD hS
  · have h := zz_ifn c4 h
    refine lv_iload_n hx hb dX8_wedding_7 rfl (lv_at hl 2 rfl) ?_
    obtain ⟨x5, u6, he7, h⟩ := zz_b2E h
    refine zz_PI (As := [.int p2]) (rest := []) ⟨hx, hb, hml, hown, hts⟩ (ct_X8_isHouse l dC dI cI cJ cB cZ p2 x5 u6 he7) gX8_wedding_X8_isHouse hd_X8_isHouse rfl rfl rfl ⟨Nat.le_of_ble_eq_true rfl, Nat.le_of_ble_eq_true rfl⟩ ⟨Nat.le_of_ble_eq_true rfl, Nat.le_of_ble_eq_true rfl⟩ rfl rfl (Nat.le_of_ble_eq_true rfl) dX8_wedding_8 hl.1 hP hK hS hA (fun H locs hP hS => ?_)
    refine lv_if_ne (tgt := 16) hx hb dX8_wedding_11 (by decide) (fun c8 => ?_) (fun c8 => ?_)
    · have h := zz_ifn c8 h
      refine lv_aload_n hx hb dX8_wedding_16 rfl (lv_at hl 0 rfl) ?_
      refine va_get (ci := 7) (v := .ref a_t_now) (C := RX8) (T := TX8) (N := 10) hx hb hts in_X8_wedding_X8 hown hK hP 0 rfl rfl 1 (by decide) (hts _ lk_X8_wedding_0) (fun _ h9 => h9) rfl dX8_wedding_17 ?_
      refine va_get (ci := 4) (v := .long t_now_plan) (C := RX5) (T := TX5) (N := 5) hx hb hts in_X8_wedding_X5 hown hK hP 1 rfl rfl 1 (by decide) (hts _ lk_X8_wedding_1) (fun _ h9 => h9) rfl dX8_wedding_20 ?_
      refine lv_iload_n hx hb dX8_wedding_23 rfl (lv_at hl 1 rfl) ?_
      obtain ⟨x9, u10, he11, h⟩ := zz_b2E h
      refine zz_PI (As := [.long t_now_plan, .int p1]) (rest := []) ⟨hx, hb, hml, hown, hts⟩ (ct_X1_houseAt l dC dI cI cJ cB cZ t_now_plan p1 x9 u10 he11) gX8_wedding_X1_houseAt hd_X1_houseAt rfl rfl rfl ⟨Nat.le_of_ble_eq_true rfl, Nat.le_of_ble_eq_true rfl⟩ ⟨Nat.le_of_ble_eq_true rfl, Nat.le_of_ble_eq_true rfl⟩ rfl rfl (Nat.le_of_ble_eq_true rfl) dX8_wedding_24 hl.1 hP hK hS hA (fun H locs hP hS => ?_)
      refine lv_iload_n hx hb dX8_wedding_27 rfl (lv_at hl 2 rfl) ?_
      refine lv_icmp_ne (tgt := 34) hx hb dX8_wedding_28 (by decide) (fun c12 => ?_) (fun c12 => ?_)
      · have h := zz_ifn c12 h
        refine lv_aload_n hx hb dX8_wedding_34 rfl (lv_at hl 0 rfl) ?_
        refine lv_iload_n hx hb dX8_wedding_35 rfl (lv_at hl 1 rfl) ?_
        refine lv_iload_n hx hb dX8_wedding_36 rfl (lv_at hl 2 rfl) ?_
        obtain ⟨x13, u14, he15, h⟩ := zz_b2E h
        refine zz_VI (q := (RX8, TX8, 10)) (As := [.int p1, .int p2]) (rest := []) (wr := []) (wm := [(a_t, .inr (7, [.ref a_t_text, .ref a_t_now, .ref a_t_slotZero, .ref a_t_slotOne, .ref a_t_wishes, .ref a_t_planner, .ref a_t_mending, .ref a_t_reading, .ref a_t_otherReading, .int t_theYear])), (a_t_now, .inr (4, [.ref a_t_now_paper, .long t_now_plan, .ref a_t_now_timesLate, .ref a_t_now_paid, .int t_now_isKept])), (a_t_wishes, .inr (6, [.int t_wishes_longest, .int t_wishes_perLong, .int t_wishes_perHanding, .int t_wishes_wants, .ref a_t_wishes_against])), (a_t_wishes_against, .inl (cI, 112, .inl t_wishes_against))]) ⟨hx, hb, hml, hown, hts⟩ (ct_X8_cheapestReturn l dC dI cI cJ cB cZ a_t a_t_now a_t_wishes a_t_wishes_against a_t_text a_t_slotZero a_t_slotOne a_t_planner a_t_mending a_t_reading a_t_otherReading a_t_now_paper a_t_now_timesLate a_t_now_paid t_theYear t_now_plan t_now_isKept t_wishes_longest t_wishes_perLong t_wishes_perHanding t_wishes_wants t_wishes_against p1 p2 x13 u14 he15) gX8_wedding_X8_cheapestReturn hd_X8_cheapestReturn rfl rfl rfl ⟨Nat.le_of_ble_eq_true rfl, Nat.le_of_ble_eq_true rfl⟩ ⟨Nat.le_of_ble_eq_true rfl, Nat.le_of_ble_eq_true rfl⟩ rfl rfl (Nat.le_of_ble_eq_true rfl) dX8_wedding_37 hl.1 rfl (ci := 7) rfl (q0 := 0) rfl hP hK hD hS hA [0, 1, 2, 3] [] [0, 1, 2, 3] rfl rfl (by decide) (by decide) (by decide) (by decide) rfl (fun H locs hP hD hS => ?_)
        exact zz_iret () hx hb hr hlocks dX8_wedding_40 (Option.some.inj h) hP hK hD hS
      · have h := zz_if c12 h
        refine lv_bipush (v := (-9)) hx hb dX8_wedding_31 (by decide) ?_
        exact zz_iret () hx hb hr hlocks dX8_wedding_33 (Option.some.inj h) hP hK hD hS
    · have h := zz_if c8 h
      refine lv_iconst (v := (-1)) hx hb dX8_wedding_14 (by decide) ?_
      exact zz_iret () hx hb hr hlocks dX8_wedding_15 (Option.some.inj h) hP hK hD hS
theorem hd_X8_loseNext : yX8_loseNext.cls ≠ "java/lang/invoke/MethodHandle" ∧ yX8_loseNext.cls ≠ "java/lang/invoke/VarHandle" ∧ (parseMethodDescriptor yX8_loseNext.desc).map (fun d => d.parameters.length) = some 2 := by decide +kernel
set_option maxRecDepth 20000 in
theorem in_X8_loseNext_X8 : ∀ w ∈ u_ws RX8 TX8 10, w ∈ wsX8_loseNext := by decide +kernel
set_option maxRecDepth 20000 in
theorem lk_X8_loseNext_0 : Cond.constantLong RX8 235 (-1) ∈ wsX8_loseNext := by decide +kernel
set_option maxRecDepth 20000 in
theorem lk_X8_loseNext_1 : Cond.fieldLink RX8 19 "TwoHousesOneChild" "now" "LTwoHousesOneChild$Standing;" ∈ wsX8_loseNext := by decide +kernel
set_option maxHeartbeats 4000000 in
set_option maxRecDepth 100000 in
theorem ct_X8_loseNext (l : Launch) (dC : Nat → ClassId) (dI : Nat → Nat → Nat) (cI cJ cB cZ : ClassId) (a_t a_t_now a_t_now_paper a_t_now_paper_numbers a_t_now_paper_ones a_t_now_paper_ranks a_t_now_paper_told a_t_now_paper_turnsByYear a_t_reading a_t_text a_t_slotZero a_t_slotOne a_t_wishes a_t_planner a_t_mending a_t_otherReading a_t_now_timesLate a_t_now_paid : Nat) (t_theYear : Int32) (t_now_plan : Int64) (t_now_isKept : Int32) (t_now_paper_size : Int32) (t_now_paper_numbers : (Nat → Int32)) (t_now_paper_ones : (Nat → Int64)) (t_now_paper_ranks : (Nat → Int32)) (t_now_paper_told : (Nat → Int64)) (t_now_paper_turnsByYear : (Nat → Int32)) (t_reading_zero : Int64) (t_reading_one : Int64) (t_reading_fights : Int64) (p1 : Int32) (p2 : Int32) (rr : Int32) (o1 : Int64) (o2 : Int64) (o3 : Int64) (o4 : Int64) (h : fn_X8_loseNext t_theYear t_now_plan t_now_paper_size t_now_paper_numbers t_now_paper_ones t_now_paper_ranks t_now_paper_told t_now_paper_turnsByYear p1 p2 = some (rr, o1, o2, o3, o4)) : zz_M l yX8_loseNext wsX8_loseNext ({ frames := 4, cells := 0, slots := 0, locals := 98 }) (dC, dI) (zz_T cI cJ cB cZ) [.ref a_t, .int p1, .int p2] [(a_t, .inr (7, [.ref a_t_text, .ref a_t_now, .ref a_t_slotZero, .ref a_t_slotOne, .ref a_t_wishes, .ref a_t_planner, .ref a_t_mending, .ref a_t_reading, .ref a_t_otherReading, .int t_theYear])), (a_t_now, .inr (4, [.ref a_t_now_paper, .long t_now_plan, .ref a_t_now_timesLate, .ref a_t_now_paid, .int t_now_isKept])), (a_t_now_paper, .inr (1, [.int t_now_paper_size, .ref a_t_now_paper_numbers, .ref a_t_now_paper_ranks, .ref a_t_now_paper_told, .ref a_t_now_paper_ones, .ref a_t_now_paper_turnsByYear])), (a_t_now_paper_numbers, .inl (cI, 10, .inl t_now_paper_numbers)), (a_t_now_paper_ones, .inl (cJ, 10, .inr (.inl t_now_paper_ones))), (a_t_now_paper_ranks, .inl (cI, 10, .inl t_now_paper_ranks)), (a_t_now_paper_told, .inl (cJ, 10, .inr (.inl t_now_paper_told))), (a_t_now_paper_turnsByYear, .inl (cZ, 10, .inl t_now_paper_turnsByYear)), (a_t_reading, .inr (3, [.long t_reading_zero, .long t_reading_one, .long t_reading_fights]))] (zz_QI (dC, dI) (zz_T cI cJ cB cZ) (rr, o1, o2, o3, o4) (fun (u : Int64 × Int64 × Int64 × Int64) => [(a_t, .inr (7, [.ref a_t_text, .ref a_t_now, .ref a_t_slotZero, .ref a_t_slotOne, .ref a_t_wishes, .ref a_t_planner, .ref a_t_mending, .ref a_t_reading, .ref a_t_otherReading, .int t_theYear])), (a_t_now, .inr (4, [.ref a_t_now_paper, .long u.1, .ref a_t_now_timesLate, .ref a_t_now_paid, .int t_now_isKept])), (a_t_now_paper, .inr (1, [.int t_now_paper_size, .ref a_t_now_paper_numbers, .ref a_t_now_paper_ranks, .ref a_t_now_paper_told, .ref a_t_now_paper_ones, .ref a_t_now_paper_turnsByYear])), (a_t_now_paper_numbers, .inl (cI, 10, .inl t_now_paper_numbers)), (a_t_now_paper_ones, .inl (cJ, 10, .inr (.inl t_now_paper_ones))), (a_t_now_paper_ranks, .inl (cI, 10, .inl t_now_paper_ranks)), (a_t_now_paper_told, .inl (cJ, 10, .inr (.inl t_now_paper_told))), (a_t_now_paper_turnsByYear, .inl (cZ, 10, .inl t_now_paper_turnsByYear)), (a_t_reading, .inr (3, [.long u.2.1, .long u.2.2.1, .long u.2.2.2]))])) := by
  unfold fn_X8_loseNext at h
  refine zz_of (by decide) rfl (Nat.le_of_ble_eq_true rfl) ?_
  intro p e s m below meth c A ls hx hb hr hml hts hown hlocks hA hS hP hK hD hl
  have hown : s.vm.findClass RX8 = some m.cls := hown
  have hl : lv_has ls 7 [(0, .ref a_t), (1, .int p1), (2, .int p2)] := hl
  refine lv_aload_n hx hb dX8_loseNext_0 rfl (lv_at hl 0 rfl) ?_
  obtain ⟨x1, x2, x3, he4, h⟩ := zz_b3E h
  refine zz_VR (q := (RX8, TX8, 10)) (As := []) (rest := []) (wr := []) (wm := [(a_t, .inr (7, [.ref a_t_text, .ref a_t_now, .ref a_t_slotZero, .ref a_t_slotOne, .ref a_t_wishes, .ref a_t_planner, .ref a_t_mending, .ref a_t_reading, .ref a_t_otherReading, .int t_theYear])), (a_t_now, .inr (4, [.ref a_t_now_paper, .long t_now_plan, .ref a_t_now_timesLate, .ref a_t_now_paid, .int t_now_isKept])), (a_t_now_paper, .inr (1, [.int t_now_paper_size, .ref a_t_now_paper_numbers, .ref a_t_now_paper_ranks, .ref a_t_now_paper_told, .ref a_t_now_paper_ones, .ref a_t_now_paper_turnsByYear])), (a_t_now_paper_numbers, .inl (cI, 10, .inl t_now_paper_numbers)), (a_t_now_paper_ones, .inl (cJ, 10, .inr (.inl t_now_paper_ones))), (a_t_now_paper_ranks, .inl (cI, 10, .inl t_now_paper_ranks)), (a_t_now_paper_told, .inl (cJ, 10, .inr (.inl t_now_paper_told))), (a_t_now_paper_turnsByYear, .inl (cZ, 10, .inl t_now_paper_turnsByYear)), (a_t_reading, .inr (3, [.long x1, .long x2, .long x3]))]) ⟨hx, hb, hml, hown, hts⟩ (ct_X8_readPaper l dC dI cI cJ cB cZ a_t a_t_now a_t_now_paper a_t_now_paper_numbers a_t_now_paper_ones a_t_now_paper_ranks a_t_now_paper_told a_t_now_paper_turnsByYear a_t_reading a_t_text a_t_slotZero a_t_slotOne a_t_wishes a_t_planner a_t_mending a_t_otherReading a_t_now_timesLate a_t_now_paid t_theYear t_now_plan t_now_isKept t_now_paper_size t_now_paper_numbers t_now_paper_ones t_now_paper_ranks t_now_paper_told t_now_paper_turnsByYear t_reading_zero t_reading_one t_reading_fights x1 x2 x3 he4) gX8_loseNext_X8_readPaper hd_X8_readPaper rfl rfl rfl ⟨Nat.le_of_ble_eq_true rfl, Nat.le_of_ble_eq_true rfl⟩ ⟨Nat.le_of_ble_eq_true rfl, Nat.le_of_ble_eq_true rfl⟩ rfl rfl (Nat.le_of_ble_eq_true rfl) dX8_loseNext_1 hl.1 rfl (ci := 7) rfl (q0 := 0) rfl hP hK hD hS hA [0, 1, 2, 3, 4, 5, 6, 7, 8] [] [0, 1, 2, 3, 4, 5, 6, 7, 8] rfl rfl (by decide) (by decide) (by decide) (by decide) rfl (fun H locs hP hD hS => ?_)
  refine lv_astore_n (lv' := [(3, .ref a_t_reading), (0, .ref a_t), (1, .int p1), (2, .int p2)]) hx hb dX8_loseNext_4 rfl hl (by decide) rfl (fun ls hl => ?_)
  refine lv_aload_n hx hb dX8_loseNext_5 rfl (lv_at hl 0 rfl) ?_
  refine lv_iload_n hx hb dX8_loseNext_6 rfl (lv_at hl 2 rfl) ?_
  obtain ⟨x5, u6, he7, h⟩ := zz_b2E h
  refine zz_VL (q := (RX4, TX4, 3)) (As := [.int p1]) (rest := []) (wr := [(a_t, .inr (7, [.ref a_t_text, .ref a_t_now, .ref a_t_slotZero, .ref a_t_slotOne, .ref a_t_wishes, .ref a_t_planner, .ref a_t_mending, .ref a_t_reading, .ref a_t_otherReading, .int t_theYear])), (a_t_now, .inr (4, [.ref a_t_now_paper, .long t_now_plan, .ref a_t_now_timesLate, .ref a_t_now_paid, .int t_now_isKept])), (a_t_now_paper, .inr (1, [.int t_now_paper_size, .ref a_t_now_paper_numbers, .ref a_t_now_paper_ranks, .ref a_t_now_paper_told, .ref a_t_now_paper_ones, .ref a_t_now_paper_turnsByYear])), (a_t_now_paper_numbers, .inl (cI, 10, .inl t_now_paper_numbers)), (a_t_now_paper_ones, .inl (cJ, 10, .inr (.inl t_now_paper_ones))), (a_t_now_paper_ranks, .inl (cI, 10, .inl t_now_paper_ranks)), (a_t_now_paper_told, .inl (cJ, 10, .inr (.inl t_now_paper_told))), (a_t_now_paper_turnsByYear, .inl (cZ, 10, .inl t_now_paper_turnsByYear))]) (wm := [(a_t, .inr (7, [.ref a_t_text, .ref a_t_now, .ref a_t_slotZero, .ref a_t_slotOne, .ref a_t_wishes, .ref a_t_planner, .ref a_t_mending, .ref a_t_reading, .ref a_t_otherReading, .int t_theYear])), (a_t_now, .inr (4, [.ref a_t_now_paper, .long t_now_plan, .ref a_t_now_timesLate, .ref a_t_now_paid, .int t_now_isKept])), (a_t_now_paper, .inr (1, [.int t_now_paper_size, .ref a_t_now_paper_numbers, .ref a_t_now_paper_ranks, .ref a_t_now_paper_told, .ref a_t_now_paper_ones, .ref a_t_now_paper_turnsByYear])), (a_t_now_paper_numbers, .inl (cI, 10, .inl t_now_paper_numbers)), (a_t_now_paper_ones, .inl (cJ, 10, .inr (.inl t_now_paper_ones))), (a_t_now_paper_ranks, .inl (cI, 10, .inl t_now_paper_ranks)), (a_t_now_paper_told, .inl (cJ, 10, .inr (.inl t_now_paper_told))), (a_t_now_paper_turnsByYear, .inl (cZ, 10, .inl t_now_paper_turnsByYear)), (a_t_reading, .inr (3, [.long x1, .long x2, .long x3]))]) ⟨hx, hb, hml, hown, hts⟩ (ct_X4_nightsThatAre l dC dI cI cJ cB cZ a_t_reading x1 x2 x3 p1 x5 u6 he7) gX8_loseNext_X4_nightsThatAre hd_X4_nightsThatAre rfl rfl rfl ⟨Nat.le_of_ble_eq_true rfl, Nat.le_of_ble_eq_true rfl⟩ ⟨Nat.le_of_ble_eq_true rfl, Nat.le_of_ble_eq_true rfl⟩ rfl rfl (Nat.le_of_ble_eq_true rfl) dX8_loseNext_7 hl.1 rfl (ci := 3) rfl (q0 := 8) rfl hP hK hD hS hA [8] [0, 1, 2, 3, 4, 5, 6, 7] [0, 1, 2, 3, 4, 5, 6, 7, 8] rfl rfl (by decide) (by decide) (by decide) (by decide) rfl (fun H locs hP hD hS => ?_)
  refine lv_iload_n hx hb dX8_loseNext_10 rfl (lv_at hl 3 rfl) ?_
  obtain ⟨x8, u9, he10, h⟩ := zz_b2E h
  refine zz_PL (As := [.int p2]) (rest := [.long x5]) ⟨hx, hb, hml, hown, hts⟩ (ct_X1_upTo l dC dI cI cJ cB cZ p2 x8 u9 he10) gX8_loseNext_X1_upTo hd_X1_upTo rfl rfl rfl ⟨Nat.le_of_ble_eq_true rfl, Nat.le_of_ble_eq_true rfl⟩ ⟨Nat.le_of_ble_eq_true rfl, Nat.le_of_ble_eq_true rfl⟩ rfl rfl (Nat.le_of_ble_eq_true rfl) dX8_loseNext_11 hl.1 hP hK hS hA (fun H locs hP hS => ?_)
  refine lv_ldc2 (v := (-1)) hx hb hown (hts _ lk_X8_loseNext_0) dX8_loseNext_14 ?_
  refine lv_lxor hx hb dX8_loseNext_17 ?_
  refine lv_land hx hb dX8_loseNext_18 ?_
  refine lv_topl (fun x11 ex11 => ?_)
  have h := zz_nmE ex11 h
  refine lv_lstore (lv' := [(4, .long x11), (3, .ref a_t_reading), (0, .ref a_t), (1, .int p1), (2, .int p2)]) hx hb dX8_loseNext_19 hl (by decide) rfl (fun ls hl => ?_)
  refine lv_lload hx hb dX8_loseNext_21 (lv_at hl 0 rfl) ?_
  refine lv_iconst (v := 0) hx hb dX8_loseNext_23 (by decide) ?_
  obtain ⟨x12, u13, he14, h⟩ := zz_b2E h
  refine zz_PI (As := [.long x11, .int 0]) (rest := []) ⟨hx, hb, hml, hown, hts⟩ (ct_X1_pick l dC dI cI cJ cB cZ x11 (0 : Int32) x12 u13 he14) gX8_loseNext_X1_pick hd_X1_pick rfl rfl rfl ⟨Nat.le_of_ble_eq_true rfl, Nat.le_of_ble_eq_true rfl⟩ ⟨Nat.le_of_ble_eq_true rfl, Nat.le_of_ble_eq_true rfl⟩ rfl rfl (Nat.le_of_ble_eq_true rfl) dX8_loseNext_24 hl.1 hP hK hS hA (fun H locs hP hS => ?_)
  refine lv_istore (lv' := [(6, .int x12), (4, .long x11), (3, .ref a_t_reading), (0, .ref a_t), (1, .int p1), (2, .int p2)]) hx hb dX8_loseNext_27 hl (by decide) rfl (fun ls hl => ?_)
  refine lv_iload hx hb dX8_loseNext_29 (lv_at hl 0 rfl) ?_
  refine lv_bipush (v := (-9)) hx hb dX8_loseNext_31 (by decide) ?_
  refine lv_icmp_eq (tgt := 48) hx hb dX8_loseNext_33 (by decide) (fun c15 => ?_) (fun c15 => ?_)
  · have h := zz_if c15 h
    refine lv_iload hx hb dX8_loseNext_48 (lv_at hl 0 rfl) ?_
    exact zz_iret (t_now_plan, x1, x2, x3) hx hb hr hlocks dX8_loseNext_50 (Option.some.inj h) hP hK hD hS
  · have h := zz_ifn c15 h
    refine lv_aload_n hx hb dX8_loseNext_36 rfl (lv_at hl 3 rfl) ?_
    refine va_get (ci := 7) (v := .ref a_t_now) (C := RX8) (T := TX8) (N := 10) hx hb hts in_X8_loseNext_X8 hown hK hP 0 rfl rfl 1 (by decide) (hts _ lk_X8_loseNext_1) (fun _ h9 => h9) rfl dX8_loseNext_37 ?_
    refine lv_iload hx hb dX8_loseNext_40 (lv_at hl 0 rfl) ?_
    refine lv_iconst (v := 1) hx hb dX8_loseNext_42 (by decide) ?_
    refine lv_iload_n hx hb dX8_loseNext_43 rfl (lv_at hl 4 rfl) ?_
    refine lv_isub hx hb dX8_loseNext_44 ?_
    obtain ⟨x16, he17, h⟩ := zz_b1E h
    refine zz_VV (q := (RX5, TX5, 5)) (As := [.int x12, .int (1 - p1)]) (rest := []) (wr := [(a_t, .inr (7, [.ref a_t_text, .ref a_t_now, .ref a_t_slotZero, .ref a_t_slotOne, .ref a_t_wishes, .ref a_t_planner, .ref a_t_mending, .ref a_t_reading, .ref a_t_otherReading, .int t_theYear])), (a_t_now_paper, .inr (1, [.int t_now_paper_size, .ref a_t_now_paper_numbers, .ref a_t_now_paper_ranks, .ref a_t_now_paper_told, .ref a_t_now_paper_ones, .ref a_t_now_paper_turnsByYear])), (a_t_now_paper_numbers, .inl (cI, 10, .inl t_now_paper_numbers)), (a_t_now_paper_ones, .inl (cJ, 10, .inr (.inl t_now_paper_ones))), (a_t_now_paper_ranks, .inl (cI, 10, .inl t_now_paper_ranks)), (a_t_now_paper_told, .inl (cJ, 10, .inr (.inl t_now_paper_told))), (a_t_now_paper_turnsByYear, .inl (cZ, 10, .inl t_now_paper_turnsByYear)), (a_t_reading, .inr (3, [.long x1, .long x2, .long x3]))]) (wm := [(a_t, .inr (7, [.ref a_t_text, .ref a_t_now, .ref a_t_slotZero, .ref a_t_slotOne, .ref a_t_wishes, .ref a_t_planner, .ref a_t_mending, .ref a_t_reading, .ref a_t_otherReading, .int t_theYear])), (a_t_now, .inr (4, [.ref a_t_now_paper, .long x16, .ref a_t_now_timesLate, .ref a_t_now_paid, .int t_now_isKept])), (a_t_now_paper, .inr (1, [.int t_now_paper_size, .ref a_t_now_paper_numbers, .ref a_t_now_paper_ranks, .ref a_t_now_paper_told, .ref a_t_now_paper_ones, .ref a_t_now_paper_turnsByYear])), (a_t_now_paper_numbers, .inl (cI, 10, .inl t_now_paper_numbers)), (a_t_now_paper_ones, .inl (cJ, 10, .inr (.inl t_now_paper_ones))), (a_t_now_paper_ranks, .inl (cI, 10, .inl t_now_paper_ranks)), (a_t_now_paper_told, .inl (cJ, 10, .inr (.inl t_now_paper_told))), (a_t_now_paper_turnsByYear, .inl (cZ, 10, .inl t_now_paper_turnsByYear)), (a_t_reading, .inr (3, [.long x1, .long x2, .long x3]))]) ⟨hx, hb, hml, hown, hts⟩ (ct_X5_place l dC dI cI cJ cB cZ a_t_now a_t_now_paper a_t_now_timesLate a_t_now_paid t_now_plan t_now_isKept x12 (1 - p1) x16 he17) gX8_loseNext_X5_place hd_X5_place rfl rfl rfl ⟨Nat.le_of_ble_eq_true rfl, Nat.le_of_ble_eq_true rfl⟩ ⟨Nat.le_of_ble_eq_true rfl, Nat.le_of_ble_eq_true rfl⟩ rfl rfl (Nat.le_of_ble_eq_true rfl) dX8_loseNext_45 hl.1 rfl (ci := 4) rfl (q0 := 1) rfl hP hK hD hS hA [1] [0, 2, 3, 4, 5, 6, 7, 8] [0, 8, 1, 2, 3, 4, 5, 6, 7] rfl rfl (by decide) (by decide) (by decide) (by decide) rfl (fun H locs hP hD hS => ?_)
    refine lv_iload hx hb dX8_loseNext_48 (lv_at hl 0 rfl) ?_
    exact zz_iret (x16, x1, x2, x3) hx hb hr hlocks dX8_loseNext_50 (Option.some.inj h) hP hK hD hS
theorem hd_X8_late : yX8_late.cls ≠ "java/lang/invoke/MethodHandle" ∧ yX8_late.cls ≠ "java/lang/invoke/VarHandle" ∧ (parseMethodDescriptor yX8_late.desc).map (fun d => d.parameters.length) = some 2 := by decide +kernel
set_option maxRecDepth 20000 in
theorem in_X8_late_X8 : ∀ w ∈ u_ws RX8 TX8 10, w ∈ wsX8_late := by decide +kernel
set_option maxRecDepth 20000 in
theorem in_X8_late_X5 : ∀ w ∈ u_ws RX5 TX5 5, w ∈ wsX8_late := by decide +kernel
set_option maxRecDepth 20000 in
theorem lk_X8_late_0 : Cond.fieldLink RX8 19 "TwoHousesOneChild" "now" "LTwoHousesOneChild$Standing;" ∈ wsX8_late := by decide +kernel
set_option maxRecDepth 20000 in
theorem lk_X8_late_1 : Cond.fieldLink RX8 136 "TwoHousesOneChild$Standing" "plan" "J" ∈ wsX8_late := by decide +kernel
set_option maxHeartbeats 4000000 in
set_option maxRecDepth 100000 in
theorem ct_X8_late (l : Launch) (dC : Nat → ClassId) (dI : Nat → Nat → Nat) (cI cJ cB cZ : ClassId) (a_t a_t_now a_t_now_paid a_t_now_paper a_t_now_paper_numbers a_t_now_paper_ones a_t_now_paper_ranks a_t_now_paper_told a_t_now_paper_turnsByYear a_t_now_timesLate a_t_reading a_t_text a_t_slotZero a_t_slotOne a_t_wishes a_t_planner a_t_mending a_t_otherReading : Nat) (t_theYear : Int32) (t_now_plan : Int64) (t_now_isKept : Int32) (t_now_paid : (Nat → Int32)) (t_now_paper_size : Int32) (t_now_paper_numbers : (Nat → Int32)) (t_now_paper_ones : (Nat → Int64)) (t_now_paper_ranks : (Nat → Int32)) (t_now_paper_told : (Nat → Int64)) (t_now_paper_turnsByYear : (Nat → Int32)) (t_now_timesLate : (Nat → Int32)) (t_reading_zero : Int64) (t_reading_one : Int64) (t_reading_fights : Int64) (p1 : Int32) (p2 : Int32) (rr : Int32) (o1 : Int64) (o2 : (Nat → Int32)) (o3 : (Nat → Int32)) (o4 : Int64) (o5 : Int64) (o6 : Int64) (h : fn_X8_late t_theYear t_now_plan t_now_paid t_now_paper_size t_now_paper_numbers t_now_paper_ones t_now_paper_ranks t_now_paper_told t_now_paper_turnsByYear t_now_timesLate t_reading_zero t_reading_one t_reading_fights p1 p2 = some (rr, o1, o2, o3, o4, o5, o6)) : zz_M l yX8_late wsX8_late ({ frames := 5, cells := 0, slots := 0, locals := 124 }) (dC, dI) (zz_T cI cJ cB cZ) [.ref a_t, .int p1, .int p2] [(a_t, .inr (7, [.ref a_t_text, .ref a_t_now, .ref a_t_slotZero, .ref a_t_slotOne, .ref a_t_wishes, .ref a_t_planner, .ref a_t_mending, .ref a_t_reading, .ref a_t_otherReading, .int t_theYear])), (a_t_now, .inr (4, [.ref a_t_now_paper, .long t_now_plan, .ref a_t_now_timesLate, .ref a_t_now_paid, .int t_now_isKept])), (a_t_now_paid, .inl (cI, 2, .inl t_now_paid)), (a_t_now_paper, .inr (1, [.int t_now_paper_size, .ref a_t_now_paper_numbers, .ref a_t_now_paper_ranks, .ref a_t_now_paper_told, .ref a_t_now_paper_ones, .ref a_t_now_paper_turnsByYear])), (a_t_now_paper_numbers, .inl (cI, 10, .inl t_now_paper_numbers)), (a_t_now_paper_ones, .inl (cJ, 10, .inr (.inl t_now_paper_ones))), (a_t_now_paper_ranks, .inl (cI, 10, .inl t_now_paper_ranks)), (a_t_now_paper_told, .inl (cJ, 10, .inr (.inl t_now_paper_told))), (a_t_now_paper_turnsByYear, .inl (cZ, 10, .inl t_now_paper_turnsByYear)), (a_t_now_timesLate, .inl (cI, 2, .inl t_now_timesLate)), (a_t_reading, .inr (3, [.long t_reading_zero, .long t_reading_one, .long t_reading_fights]))] (zz_QI (dC, dI) (zz_T cI cJ cB cZ) (rr, o1, o2, o3, o4, o5, o6) (fun (u : Int64 × (Nat → Int32) × (Nat → Int32) × Int64 × Int64 × Int64) => [(a_t, .inr (7, [.ref a_t_text, .ref a_t_now, .ref a_t_slotZero, .ref a_t_slotOne, .ref a_t_wishes, .ref a_t_planner, .ref a_t_mending, .ref a_t_reading, .ref a_t_otherReading, .int t_theYear])), (a_t_now, .inr (4, [.ref a_t_now_paper, .long u.1, .ref a_t_now_timesLate, .ref a_t_now_paid, .int t_now_isKept])), (a_t_now_paid, .inl (cI, 2, .inl u.2.1)), (a_t_now_paper, .inr (1, [.int t_now_paper_size, .ref a_t_now_paper_numbers, .ref a_t_now_paper_ranks, .ref a_t_now_paper_told, .ref a_t_now_paper_ones, .ref a_t_now_paper_turnsByYear])), (a_t_now_paper_numbers, .inl (cI, 10, .inl t_now_paper_numbers)), (a_t_now_paper_ones, .inl (cJ, 10, .inr (.inl t_now_paper_ones))), (a_t_now_paper_ranks, .inl (cI, 10, .inl t_now_paper_ranks)), (a_t_now_paper_told, .inl (cJ, 10, .inr (.inl t_now_paper_told))), (a_t_now_paper_turnsByYear, .inl (cZ, 10, .inl t_now_paper_turnsByYear)), (a_t_now_timesLate, .inl (cI, 2, .inl u.2.2.1)), (a_t_reading, .inr (3, [.long u.2.2.2.1, .long u.2.2.2.2.1, .long u.2.2.2.2.2]))])) := by
  unfold fn_X8_late at h
  refine zz_of (by decide) rfl (Nat.le_of_ble_eq_true rfl) ?_
  intro p e s m below meth c A ls hx hb hr hml hts hown hlocks hA hS hP hK hD hl
  have hown : s.vm.findClass RX8 = some m.cls := hown
  have hl : lv_has ls 5 [(0, .ref a_t), (1, .int p1), (2, .int p2)] := hl
  refine lv_iload_n hx hb dX8_late_0 rfl (lv_at hl 1 rfl) ?_
  obtain ⟨x1, u2, he3, h⟩ := zz_b2E h
  refine zz_PI (As := [.int p1]) (rest := []) ⟨hx, hb, hml, hown, hts⟩ (ct_X8_isNight l dC dI cI cJ cB cZ p1 x1 u2 he3) gX8_late_X8_isNight hd_X8_isNight rfl rfl rfl ⟨Nat.le_of_ble_eq_true rfl, Nat.le_of_ble_eq_true rfl⟩ ⟨Nat.le_of_ble_eq_true rfl, Nat.le_of_ble_eq_true rfl⟩ rfl rfl (Nat.le_of_ble_eq_true rfl) dX8_late_1 hl.1 hP hK hS hA (fun H locs hP hS => ?_)
  refine lv_if_ne (tgt := 9) hx hb dX8_late_4 (by decide) (fun c4 => ?_) (fun c4 => ?_)
  · have h := zz_ifn c4 h
    refine lv_iload_n hx hb dX8_late_9 rfl (lv_at hl 2 rfl) ?_
    refine lv_iconst (v := 1) hx hb dX8_late_10 (by decide) ?_
    refine lv_icmp_lt (tgt := 20) hx hb dX8_late_11 (by decide) (fun c5 => ?_) (fun c5 => ?_)
    · have h := zz_if c5 h
      refine lv_bipush (v := (-2)) hx hb dX8_late_20 (by decide) ?_
      exact zz_iret (t_now_plan, t_now_paid, t_now_timesLate, t_reading_zero, t_reading_one, t_reading_fights) hx hb hr hlocks dX8_late_22 (Option.some.inj h) hP hK hD hS
    · have h := zz_ifn c5 h
      refine lv_iload_n hx hb dX8_late_14 rfl (lv_at hl 2 rfl) ?_
      refine lv_bipush (v := 99) hx hb dX8_late_15 (by decide) ?_
      refine lv_icmp_le (tgt := 23) hx hb dX8_late_17 (by decide) (fun c6 => ?_) (fun c6 => ?_)
      · have h := zz_if c6 h
        refine lv_aload_n hx hb dX8_late_23 rfl (lv_at hl 0 rfl) ?_
        refine va_get (ci := 7) (v := .ref a_t_now) (C := RX8) (T := TX8) (N := 10) hx hb hts in_X8_late_X8 hown hK hP 0 rfl rfl 1 (by decide) (hts _ lk_X8_late_0) (fun _ h9 => h9) rfl dX8_late_24 ?_
        refine va_get (ci := 4) (v := .long t_now_plan) (C := RX5) (T := TX5) (N := 5) hx hb hts in_X8_late_X5 hown hK hP 1 rfl rfl 1 (by decide) (hts _ lk_X8_late_1) (fun _ h9 => h9) rfl dX8_late_27 ?_
        obtain ⟨x7, u8, he9, h⟩ := zz_b2E h
        refine zz_PL (As := [.long t_now_plan]) (rest := []) ⟨hx, hb, hml, hown, hts⟩ (ct_X1_handings l dC dI cI cJ cB cZ t_now_plan x7 u8 he9) gX8_late_X1_handings hd_X1_handings rfl rfl rfl ⟨Nat.le_of_ble_eq_true rfl, Nat.le_of_ble_eq_true rfl⟩ ⟨Nat.le_of_ble_eq_true rfl, Nat.le_of_ble_eq_true rfl⟩ rfl rfl (Nat.le_of_ble_eq_true rfl) dX8_late_30 hl.1 hP hK hS hA (fun H locs hP hS => ?_)
        refine lv_iload_n hx hb dX8_late_33 rfl (lv_at hl 1 rfl) ?_
        obtain ⟨x10, u11, he12, h⟩ := zz_b2E h
        refine zz_PI (As := [.long x7, .int p1]) (rest := []) ⟨hx, hb, hml, hown, hts⟩ (ct_X1_holds l dC dI cI cJ cB cZ x7 p1 x10 u11 he12) gX8_late_X1_holds hd_X1_holds rfl rfl rfl ⟨Nat.le_of_ble_eq_true rfl, Nat.le_of_ble_eq_true rfl⟩ ⟨Nat.le_of_ble_eq_true rfl, Nat.le_of_ble_eq_true rfl⟩ rfl rfl (Nat.le_of_ble_eq_true rfl) dX8_late_34 hl.1 hP hK hS hA (fun H locs hP hS => ?_)
        refine lv_if_ne (tgt := 43) hx hb dX8_late_37 (by decide) (fun c13 => ?_) (fun c13 => ?_)
        · have h := zz_ifn c13 h
          refine lv_aload_n hx hb dX8_late_43 rfl (lv_at hl 0 rfl) ?_
          refine va_get (ci := 7) (v := .ref a_t_now) (C := RX8) (T := TX8) (N := 10) hx hb hts in_X8_late_X8 hown hK hP 0 rfl rfl 1 (by decide) (hts _ lk_X8_late_0) (fun _ h9 => h9) rfl dX8_late_44 ?_
          refine va_get (ci := 4) (v := .long t_now_plan) (C := RX5) (T := TX5) (N := 5) hx hb hts in_X8_late_X5 hown hK hP 1 rfl rfl 1 (by decide) (hts _ lk_X8_late_1) (fun _ h9 => h9) rfl dX8_late_47 ?_
          refine lv_iload_n hx hb dX8_late_50 rfl (lv_at hl 1 rfl) ?_
          obtain ⟨x14, u15, he16, h⟩ := zz_b2E h
          refine zz_PI (As := [.long t_now_plan, .int p1]) (rest := []) ⟨hx, hb, hml, hown, hts⟩ (ct_X1_houseAt l dC dI cI cJ cB cZ t_now_plan p1 x14 u15 he16) gX8_late_X1_houseAt hd_X1_houseAt rfl rfl rfl ⟨Nat.le_of_ble_eq_true rfl, Nat.le_of_ble_eq_true rfl⟩ ⟨Nat.le_of_ble_eq_true rfl, Nat.le_of_ble_eq_true rfl⟩ rfl rfl (Nat.le_of_ble_eq_true rfl) dX8_late_51 hl.1 hP hK hS hA (fun H locs hP hS => ?_)
          refine lv_istore_n (lv' := [(3, .int x14), (0, .ref a_t), (1, .int p1), (2, .int p2)]) hx hb dX8_late_54 rfl hl (by decide) rfl (fun ls hl => ?_)
          refine lv_aload_n hx hb dX8_late_55 rfl (lv_at hl 1 rfl) ?_
          refine va_get (ci := 7) (v := .ref a_t_now) (C := RX8) (T := TX8) (N := 10) hx hb hts in_X8_late_X8 hown hK hP 0 rfl rfl 1 (by decide) (hts _ lk_X8_late_0) (fun _ h9 => h9) rfl dX8_late_56 ?_
          refine lv_iload_n hx hb dX8_late_59 rfl (lv_at hl 0 rfl) ?_
          refine lv_iload_n hx hb dX8_late_60 rfl (lv_at hl 3 rfl) ?_
          refine lv_bipush (v := 9) hx hb dX8_late_61 (by decide) ?_
          refine lv_iadd hx hb dX8_late_63 ?_
          refine lv_bipush (v := 10) hx hb dX8_late_64 (by decide) ?_
          refine lv_idiv hx hb dX8_late_66 (by decide) ?_
          obtain ⟨x18, g19, g20, he21, h⟩ := zz_b3E h
          refine zz_VI (q := (RX5, TX5, 5)) (As := [.int x14, .int ((p2 + 9) / 10)]) (rest := []) (wr := [(a_t, .inr (7, [.ref a_t_text, .ref a_t_now, .ref a_t_slotZero, .ref a_t_slotOne, .ref a_t_wishes, .ref a_t_planner, .ref a_t_mending, .ref a_t_reading, .ref a_t_otherReading, .int t_theYear])), (a_t_now_paper, .inr (1, [.int t_now_paper_size, .ref a_t_now_paper_numbers, .ref a_t_now_paper_ranks, .ref a_t_now_paper_told, .ref a_t_now_paper_ones, .ref a_t_now_paper_turnsByYear])), (a_t_now_paper_numbers, .inl (cI, 10, .inl t_now_paper_numbers)), (a_t_now_paper_ones, .inl (cJ, 10, .inr (.inl t_now_paper_ones))), (a_t_now_paper_ranks, .inl (cI, 10, .inl t_now_paper_ranks)), (a_t_now_paper_told, .inl (cJ, 10, .inr (.inl t_now_paper_told))), (a_t_now_paper_turnsByYear, .inl (cZ, 10, .inl t_now_paper_turnsByYear)), (a_t_reading, .inr (3, [.long t_reading_zero, .long t_reading_one, .long t_reading_fights]))]) (wm := [(a_t, .inr (7, [.ref a_t_text, .ref a_t_now, .ref a_t_slotZero, .ref a_t_slotOne, .ref a_t_wishes, .ref a_t_planner, .ref a_t_mending, .ref a_t_reading, .ref a_t_otherReading, .int t_theYear])), (a_t_now, .inr (4, [.ref a_t_now_paper, .long t_now_plan, .ref a_t_now_timesLate, .ref a_t_now_paid, .int t_now_isKept])), (a_t_now_paid, .inl (cI, 2, .inl g19)), (a_t_now_paper, .inr (1, [.int t_now_paper_size, .ref a_t_now_paper_numbers, .ref a_t_now_paper_ranks, .ref a_t_now_paper_told, .ref a_t_now_paper_ones, .ref a_t_now_paper_turnsByYear])), (a_t_now_paper_numbers, .inl (cI, 10, .inl t_now_paper_numbers)), (a_t_now_paper_ones, .inl (cJ, 10, .inr (.inl t_now_paper_ones))), (a_t_now_paper_ranks, .inl (cI, 10, .inl t_now_paper_ranks)), (a_t_now_paper_told, .inl (cJ, 10, .inr (.inl t_now_paper_told))), (a_t_now_paper_turnsByYear, .inl (cZ, 10, .inl t_now_paper_turnsByYear)), (a_t_now_timesLate, .inl (cI, 2, .inl g20)), (a_t_reading, .inr (3, [.long t_reading_zero, .long t_reading_one, .long t_reading_fights]))]) ⟨hx, hb, hml, hown, hts⟩ (ct_X5_fine l dC dI cI cJ cB cZ a_t_now a_t_now_paid a_t_now_timesLate a_t_now_paper t_now_plan t_now_isKept t_now_paid t_now_timesLate x14 ((p2 + 9) / 10) x18 g19 g20 he21) gX8_late_X5_fine hd_X5_fine rfl rfl rfl ⟨Nat.le_of_ble_eq_true rfl, Nat.le_of_ble_eq_true rfl⟩ ⟨Nat.le_of_ble_eq_true rfl, Nat.le_of_ble_eq_true rfl⟩ rfl rfl (Nat.le_of_ble_eq_true rfl) dX8_late_67 hl.1 rfl (ci := 4) rfl (q0 := 1) rfl hP hK hD hS hA [1, 2, 9] [0, 3, 4, 5, 6, 7, 8, 10] [0, 8, 9, 1, 2, 3, 4, 5, 6, 10, 7] rfl rfl (by decide) (by decide) (by decide) (by decide) rfl (fun H locs hP hD hS => ?_)
          refine lv_istore (lv' := [(4, .int x18), (3, .int x14), (0, .ref a_t), (1, .int p1), (2, .int p2)]) hx hb dX8_late_70 hl (by decide) rfl (fun ls hl => ?_)
          refine lv_iload hx hb dX8_late_72 (lv_at hl 0 rfl) ?_
          refine lv_iconst (v := 3) hx hb dX8_late_74 (by decide) ?_
          refine lv_irem hx hb dX8_late_75 (by decide) ?_
          refine lv_if_ne (tgt := 88) hx hb dX8_late_76 (by decide) (fun c23 => ?_) (fun c23 => ?_)
          · have h := zz_ifn c23 h
            refine lv_bipush (v := (-9)) hx hb dX8_late_88 (by decide) ?_
            exact zz_iret (t_now_plan, g19, g20, t_reading_zero, t_reading_one, t_reading_fights) hx hb hr hlocks dX8_late_90 (Option.some.inj h) hP hK hD hS
          · have h := zz_if c23 h
            refine lv_aload_n hx hb dX8_late_79 rfl (lv_at hl 2 rfl) ?_
            refine lv_iload_n hx hb dX8_late_80 rfl (lv_at hl 1 rfl) ?_
            refine lv_iload_n hx hb dX8_late_81 rfl (lv_at hl 3 rfl) ?_
            obtain ⟨x24, x25, x26, x27, x28, he29, h⟩ := zz_b5E h
            refine zz_VI (q := (RX8, TX8, 10)) (As := [.int x14, .int p1]) (rest := []) (wr := [(a_t_now_paid, .inl (cI, 2, .inl g19)), (a_t_now_timesLate, .inl (cI, 2, .inl g20))]) (wm := [(a_t, .inr (7, [.ref a_t_text, .ref a_t_now, .ref a_t_slotZero, .ref a_t_slotOne, .ref a_t_wishes, .ref a_t_planner, .ref a_t_mending, .ref a_t_reading, .ref a_t_otherReading, .int t_theYear])), (a_t_now, .inr (4, [.ref a_t_now_paper, .long x25, .ref a_t_now_timesLate, .ref a_t_now_paid, .int t_now_isKept])), (a_t_now_paid, .inl (cI, 2, .inl g19)), (a_t_now_paper, .inr (1, [.int t_now_paper_size, .ref a_t_now_paper_numbers, .ref a_t_now_paper_ranks, .ref a_t_now_paper_told, .ref a_t_now_paper_ones, .ref a_t_now_paper_turnsByYear])), (a_t_now_paper_numbers, .inl (cI, 10, .inl t_now_paper_numbers)), (a_t_now_paper_ones, .inl (cJ, 10, .inr (.inl t_now_paper_ones))), (a_t_now_paper_ranks, .inl (cI, 10, .inl t_now_paper_ranks)), (a_t_now_paper_told, .inl (cJ, 10, .inr (.inl t_now_paper_told))), (a_t_now_paper_turnsByYear, .inl (cZ, 10, .inl t_now_paper_turnsByYear)), (a_t_now_timesLate, .inl (cI, 2, .inl g20)), (a_t_reading, .inr (3, [.long x26, .long x27, .long x28]))]) ⟨hx, hb, hml, hown, hts⟩ (ct_X8_loseNext l dC dI cI cJ cB cZ a_t a_t_now a_t_now_paper a_t_now_paper_numbers a_t_now_paper_ones a_t_now_paper_ranks a_t_now_paper_told a_t_now_paper_turnsByYear a_t_reading a_t_text a_t_slotZero a_t_slotOne a_t_wishes a_t_planner a_t_mending a_t_otherReading a_t_now_timesLate a_t_now_paid t_theYear t_now_plan t_now_isKept t_now_paper_size t_now_paper_numbers t_now_paper_ones t_now_paper_ranks t_now_paper_told t_now_paper_turnsByYear t_reading_zero t_reading_one t_reading_fights x14 p1 x24 x25 x26 x27 x28 he29) gX8_late_X8_loseNext hd_X8_loseNext rfl rfl rfl ⟨Nat.le_of_ble_eq_true rfl, Nat.le_of_ble_eq_true rfl⟩ ⟨Nat.le_of_ble_eq_true rfl, Nat.le_of_ble_eq_true rfl⟩ rfl rfl (Nat.le_of_ble_eq_true rfl) dX8_late_82 hl.1 rfl (ci := 7) rfl (q0 := 0) rfl hP hK hD hS hA [0, 1, 3, 4, 5, 6, 7, 8, 10] [2, 9] [2, 3, 0, 4, 5, 6, 7, 8, 9, 1, 10] rfl rfl (by decide) (by decide) (by decide) (by decide) rfl (fun H locs hP hD hS => ?_)
            refine lv_goto (tgt := 90) hx hb dX8_late_85 (by decide) ?_
            exact zz_iret (x25, g19, g20, x26, x27, x28) hx hb hr hlocks dX8_late_90 (Option.some.inj h) hP hK hD hS
        · have h := zz_if c13 h
          refine lv_bipush (v := (-3)) hx hb dX8_late_40 (by decide) ?_
          exact zz_iret (t_now_plan, t_now_paid, t_now_timesLate, t_reading_zero, t_reading_one, t_reading_fights) hx hb hr hlocks dX8_late_42 (Option.some.inj h) hP hK hD hS
      · have h := zz_ifn c6 h
        refine lv_bipush (v := (-2)) hx hb dX8_late_20 (by decide) ?_
        exact zz_iret (t_now_plan, t_now_paid, t_now_timesLate, t_reading_zero, t_reading_one, t_reading_fights) hx hb hr hlocks dX8_late_22 (Option.some.inj h) hP hK hD hS
  · have h := zz_if c4 h
    refine lv_iconst (v := (-1)) hx hb dX8_late_7 (by decide) ?_
    exact zz_iret (t_now_plan, t_now_paid, t_now_timesLate, t_reading_zero, t_reading_one, t_reading_fights) hx hb hr hlocks dX8_late_8 (Option.some.inj h) hP hK hD hS
theorem hd_X8_fines : yX8_fines.cls ≠ "java/lang/invoke/MethodHandle" ∧ yX8_fines.cls ≠ "java/lang/invoke/VarHandle" ∧ (parseMethodDescriptor yX8_fines.desc).map (fun d => d.parameters.length) = some 2 := by decide +kernel
set_option maxRecDepth 20000 in
theorem in_X8_fines_X8 : ∀ w ∈ u_ws RX8 TX8 10, w ∈ wsX8_fines := by decide +kernel
set_option maxRecDepth 20000 in
theorem in_X8_fines_X5 : ∀ w ∈ u_ws RX5 TX5 5, w ∈ wsX8_fines := by decide +kernel
set_option maxRecDepth 20000 in
theorem lk_X8_fines_0 : Cond.fieldLink RX8 19 "TwoHousesOneChild" "now" "LTwoHousesOneChild$Standing;" ∈ wsX8_fines := by decide +kernel
set_option maxRecDepth 20000 in
theorem lk_X8_fines_1 : Cond.fieldLink RX8 223 "TwoHousesOneChild$Standing" "paid" "[I" ∈ wsX8_fines := by decide +kernel
set_option maxRecDepth 20000 in
theorem lk_X8_fines_2 : Cond.fieldLink RX8 219 "TwoHousesOneChild$Standing" "timesLate" "[I" ∈ wsX8_fines := by decide +kernel
set_option maxHeartbeats 4000000 in
set_option maxRecDepth 100000 in
theorem ct_X8_fines (l : Launch) (dC : Nat → ClassId) (dI : Nat → Nat → Nat) (cI cJ cB cZ : ClassId) (a_t a_t_now a_t_now_paid a_t_now_timesLate a_t_text a_t_slotZero a_t_slotOne a_t_wishes a_t_planner a_t_mending a_t_reading a_t_otherReading a_t_now_paper : Nat) (t_theYear : Int32) (t_now_plan : Int64) (t_now_isKept : Int32) (t_now_paid : (Nat → Int32)) (t_now_timesLate : (Nat → Int32)) (p1 : Int32) (p2 : Int32) (rr : Int32) (u0 : Unit) (h : fn_X8_fines t_now_paid t_now_timesLate p1 p2 = some (rr, u0)) : zz_M l yX8_fines wsX8_fines ({ frames := 1, cells := 0, slots := 0, locals := 20 }) (dC, dI) (zz_T cI cJ cB cZ) [.ref a_t, .int p1, .int p2] [(a_t, .inr (7, [.ref a_t_text, .ref a_t_now, .ref a_t_slotZero, .ref a_t_slotOne, .ref a_t_wishes, .ref a_t_planner, .ref a_t_mending, .ref a_t_reading, .ref a_t_otherReading, .int t_theYear])), (a_t_now, .inr (4, [.ref a_t_now_paper, .long t_now_plan, .ref a_t_now_timesLate, .ref a_t_now_paid, .int t_now_isKept])), (a_t_now_paid, .inl (cI, 2, .inl t_now_paid)), (a_t_now_timesLate, .inl (cI, 2, .inl t_now_timesLate))] (zz_QI (dC, dI) (zz_T cI cJ cB cZ) (rr, u0) (fun (u : Unit) => [(a_t, .inr (7, [.ref a_t_text, .ref a_t_now, .ref a_t_slotZero, .ref a_t_slotOne, .ref a_t_wishes, .ref a_t_planner, .ref a_t_mending, .ref a_t_reading, .ref a_t_otherReading, .int t_theYear])), (a_t_now, .inr (4, [.ref a_t_now_paper, .long t_now_plan, .ref a_t_now_timesLate, .ref a_t_now_paid, .int t_now_isKept])), (a_t_now_paid, .inl (cI, 2, .inl t_now_paid)), (a_t_now_timesLate, .inl (cI, 2, .inl t_now_timesLate))])) := by
  unfold fn_X8_fines at h
  refine zz_of (by decide) rfl (Nat.le_of_ble_eq_true rfl) ?_
  intro p e s m below meth c A ls hx hb hr hml hts hown hlocks hA hS hP hK hD hl
  have hown : s.vm.findClass RX8 = some m.cls := hown
  have hl : lv_has ls 3 [(0, .ref a_t), (1, .int p1), (2, .int p2)] := hl
  refine lv_iload_n hx hb dX8_fines_0 rfl (lv_at hl 1 rfl) ?_
  obtain ⟨x1, u2, he3, h⟩ := zz_b2E h
  refine zz_PI (As := [.int p1]) (rest := []) ⟨hx, hb, hml, hown, hts⟩ (ct_X8_isHouse l dC dI cI cJ cB cZ p1 x1 u2 he3) gX8_fines_X8_isHouse hd_X8_isHouse rfl rfl rfl ⟨Nat.le_of_ble_eq_true rfl, Nat.le_of_ble_eq_true rfl⟩ ⟨Nat.le_of_ble_eq_true rfl, Nat.le_of_ble_eq_true rfl⟩ rfl rfl (Nat.le_of_ble_eq_true rfl) dX8_fines_1 hl.1 hP hK hS hA (fun H locs hP hS => ?_)
  refine lv_if_ne (tgt := 9) hx hb dX8_fines_4 (by decide) (fun c4 => ?_) (fun c4 => ?_)
  · have h := zz_ifn c4 h
    refine lv_iload_n hx hb dX8_fines_9 rfl (lv_at hl 2 rfl) ?_
    refine lv_if_eq (tgt := 25) hx hb dX8_fines_10 (by decide) (fun c5 => ?_) (fun c5 => ?_)
    · have h := zz_if c5 h
      refine lv_aload_n hx hb dX8_fines_25 rfl (lv_at hl 0 rfl) ?_
      refine va_get (ci := 7) (v := .ref a_t_now) (C := RX8) (T := TX8) (N := 10) hx hb hts in_X8_fines_X8 hown hK hP 0 rfl rfl 1 (by decide) (hts _ lk_X8_fines_0) (fun _ h9 => h9) rfl dX8_fines_26 ?_
      refine va_get (ci := 4) (v := .ref a_t_now_paid) (C := RX5) (T := TX5) (N := 5) hx hb hts in_X8_fines_X5 hown hK hP 1 rfl rfl 3 (by decide) (hts _ lk_X8_fines_1) (fun _ h9 => h9) rfl dX8_fines_29 ?_
      refine lv_iload_n hx hb dX8_fines_32 rfl (lv_at hl 1 rfl) ?_
      obtain ⟨hi6, h⟩ := zz_chkE h
      refine va_iald hx hb hK hP 2 0 rfl rfl hi6 dX8_fines_33 ?_
      exact zz_iret () hx hb hr hlocks dX8_fines_34 (Option.some.inj h) hP hK hD hS
    · have h := zz_ifn c5 h
      refine lv_aload_n hx hb dX8_fines_13 rfl (lv_at hl 0 rfl) ?_
      refine va_get (ci := 7) (v := .ref a_t_now) (C := RX8) (T := TX8) (N := 10) hx hb hts in_X8_fines_X8 hown hK hP 0 rfl rfl 1 (by decide) (hts _ lk_X8_fines_0) (fun _ h9 => h9) rfl dX8_fines_14 ?_
      refine va_get (ci := 4) (v := .ref a_t_now_timesLate) (C := RX5) (T := TX5) (N := 5) hx hb hts in_X8_fines_X5 hown hK hP 1 rfl rfl 2 (by decide) (hts _ lk_X8_fines_2) (fun _ h9 => h9) rfl dX8_fines_17 ?_
      refine lv_iload_n hx hb dX8_fines_20 rfl (lv_at hl 1 rfl) ?_
      obtain ⟨hi7, h⟩ := zz_chkE h
      refine va_iald hx hb hK hP 3 0 rfl rfl hi7 dX8_fines_21 ?_
      refine lv_goto (tgt := 34) hx hb dX8_fines_22 (by decide) ?_
      exact zz_iret () hx hb hr hlocks dX8_fines_34 (Option.some.inj h) hP hK hD hS
  · have h := zz_if c4 h
    refine lv_iconst (v := (-1)) hx hb dX8_fines_7 (by decide) ?_
    exact zz_iret () hx hb hr hlocks dX8_fines_8 (Option.some.inj h) hP hK hD hS
theorem hd_X8_barredFromOne : yX8_barredFromOne.cls ≠ "java/lang/invoke/MethodHandle" ∧ yX8_barredFromOne.cls ≠ "java/lang/invoke/VarHandle" ∧ (parseMethodDescriptor yX8_barredFromOne.desc).map (fun d => d.parameters.length) = some 1 := by decide +kernel
set_option maxRecDepth 20000 in
theorem lk_X8_barredFromOne_0 : Cond.constantLong RX8 270 (44823227787372495) ∈ wsX8_barredFromOne := by decide +kernel
set_option maxHeartbeats 4000000 in
set_option maxRecDepth 100000 in
theorem ct_X8_barredFromOne (l : Launch) (dC : Nat → ClassId) (dI : Nat → Nat → Nat) (cI cJ cB cZ : ClassId) (p0 : Int32) (rr : Int64) (u0 : Unit) (h : fn_X8_barredFromOne p0 = some (rr, u0)) : zz_M l yX8_barredFromOne wsX8_barredFromOne ({ frames := 0, cells := 0, slots := 0, locals := 0 }) (dC, dI) (zz_T cI cJ cB cZ) [.int p0] [] (zz_QL (dC, dI) (zz_T cI cJ cB cZ) (rr, u0) (fun (u : Unit) => [])) := by
  unfold fn_X8_barredFromOne at h
  refine zz_of (by decide) rfl (Nat.le_of_ble_eq_true rfl) ?_
  intro p e s m below meth c A ls hx hb hr hml hts hown hlocks hA hS hP hK hD hl
  have hown : s.vm.findClass RX8 = some m.cls := hown
  have hl : lv_has ls 1 [(0, .int p0)] := hl
  refine lv_iload_n hx hb dX8_barredFromOne_0 rfl (lv_at hl 0 rfl) ?_
  refine lv_bipush (v := 45) hx hb dX8_barredFromOne_1 (by decide) ?_
  refine lv_icmp_le (tgt := 12) hx hb dX8_barredFromOne_3 (by decide) (fun c1 => ?_) (fun c1 => ?_)
  · have h := zz_if c1 h
    refine lv_lconst (v := 0) hx hb dX8_barredFromOne_12 (by decide) ?_
    exact zz_lret () hx hb hr hlocks dX8_barredFromOne_13 (Option.some.inj h) hP hK hD hS
  · have h := zz_ifn c1 h
    refine lv_ldc2 (v := 44823227787372495) hx hb hown (hts _ lk_X8_barredFromOne_0) dX8_barredFromOne_6 ?_
    refine lv_goto (tgt := 13) hx hb dX8_barredFromOne_9 (by decide) ?_
    exact zz_lret () hx hb hr hlocks dX8_barredFromOne_13 (Option.some.inj h) hP hK hD hS
theorem hd_X8_move : yX8_move.cls ≠ "java/lang/invoke/MethodHandle" ∧ yX8_move.cls ≠ "java/lang/invoke/VarHandle" ∧ (parseMethodDescriptor yX8_move.desc).map (fun d => d.parameters.length) = some 1 := by decide +kernel
set_option maxRecDepth 20000 in
theorem in_X8_move_X4 : ∀ w ∈ u_ws RX4 TX4 3, w ∈ wsX8_move := by decide +kernel
set_option maxRecDepth 20000 in
theorem lk_X8_move_0 : Cond.fieldLink RX8 226 "TwoHousesOneChild$Reading" "one" "J" ∈ wsX8_move := by decide +kernel
set_option maxHeartbeats 4000000 in
set_option maxRecDepth 100000 in
theorem ct_X8_move (l : Launch) (dC : Nat → ClassId) (dI : Nat → Nat → Nat) (cI cJ cB cZ : ClassId) (a_t a_t_now a_t_now_paper a_t_now_paper_numbers a_t_now_paper_ones a_t_now_paper_ranks a_t_now_paper_told a_t_now_paper_turnsByYear a_t_reading a_t_text a_t_slotZero a_t_slotOne a_t_wishes a_t_planner a_t_mending a_t_otherReading a_t_now_timesLate a_t_now_paid : Nat) (t_theYear : Int32) (t_now_plan : Int64) (t_now_isKept : Int32) (t_now_paper_size : Int32) (t_now_paper_numbers : (Nat → Int32)) (t_now_paper_ones : (Nat → Int64)) (t_now_paper_ranks : (Nat → Int32)) (t_now_paper_told : (Nat → Int64)) (t_now_paper_turnsByYear : (Nat → Int32)) (t_reading_zero : Int64) (t_reading_one : Int64) (t_reading_fights : Int64) (p1 : Int32) (rr : Int32) (o1 : Int64) (o2 : Int64) (o3 : Int64) (h : fn_X8_move t_theYear t_now_paper_size t_now_paper_numbers t_now_paper_ones t_now_paper_ranks t_now_paper_told t_now_paper_turnsByYear t_reading_zero t_reading_one t_reading_fights p1 = some (rr, o1, o2, o3)) : zz_M l yX8_move wsX8_move ({ frames := 4, cells := 0, slots := 0, locals := 98 }) (dC, dI) (zz_T cI cJ cB cZ) [.ref a_t, .int p1] [(a_t, .inr (7, [.ref a_t_text, .ref a_t_now, .ref a_t_slotZero, .ref a_t_slotOne, .ref a_t_wishes, .ref a_t_planner, .ref a_t_mending, .ref a_t_reading, .ref a_t_otherReading, .int t_theYear])), (a_t_now, .inr (4, [.ref a_t_now_paper, .long t_now_plan, .ref a_t_now_timesLate, .ref a_t_now_paid, .int t_now_isKept])), (a_t_now_paper, .inr (1, [.int t_now_paper_size, .ref a_t_now_paper_numbers, .ref a_t_now_paper_ranks, .ref a_t_now_paper_told, .ref a_t_now_paper_ones, .ref a_t_now_paper_turnsByYear])), (a_t_now_paper_numbers, .inl (cI, 10, .inl t_now_paper_numbers)), (a_t_now_paper_ones, .inl (cJ, 10, .inr (.inl t_now_paper_ones))), (a_t_now_paper_ranks, .inl (cI, 10, .inl t_now_paper_ranks)), (a_t_now_paper_told, .inl (cJ, 10, .inr (.inl t_now_paper_told))), (a_t_now_paper_turnsByYear, .inl (cZ, 10, .inl t_now_paper_turnsByYear)), (a_t_reading, .inr (3, [.long t_reading_zero, .long t_reading_one, .long t_reading_fights]))] (zz_QI (dC, dI) (zz_T cI cJ cB cZ) (rr, o1, o2, o3) (fun (u : Int64 × Int64 × Int64) => [(a_t, .inr (7, [.ref a_t_text, .ref a_t_now, .ref a_t_slotZero, .ref a_t_slotOne, .ref a_t_wishes, .ref a_t_planner, .ref a_t_mending, .ref a_t_reading, .ref a_t_otherReading, .int t_theYear])), (a_t_now, .inr (4, [.ref a_t_now_paper, .long t_now_plan, .ref a_t_now_timesLate, .ref a_t_now_paid, .int t_now_isKept])), (a_t_now_paper, .inr (1, [.int t_now_paper_size, .ref a_t_now_paper_numbers, .ref a_t_now_paper_ranks, .ref a_t_now_paper_told, .ref a_t_now_paper_ones, .ref a_t_now_paper_turnsByYear])), (a_t_now_paper_numbers, .inl (cI, 10, .inl t_now_paper_numbers)), (a_t_now_paper_ones, .inl (cJ, 10, .inr (.inl t_now_paper_ones))), (a_t_now_paper_ranks, .inl (cI, 10, .inl t_now_paper_ranks)), (a_t_now_paper_told, .inl (cJ, 10, .inr (.inl t_now_paper_told))), (a_t_now_paper_turnsByYear, .inl (cZ, 10, .inl t_now_paper_turnsByYear)), (a_t_reading, .inr (3, [.long u.1, .long u.2.1, .long u.2.2]))])) := by
  unfold fn_X8_move at h
  refine zz_of (by decide) rfl (Nat.le_of_ble_eq_true rfl) ?_
  intro p e s m below meth c A ls hx hb hr hml hts hown hlocks hA hS hP hK hD hl
  have hown : s.vm.findClass RX8 = some m.cls := hown
  have hl : lv_has ls 2 [(0, .ref a_t), (1, .int p1)] := hl
  refine lv_iload_n hx hb dX8_move_0 rfl (lv_at hl 1 rfl) ?_
  refine lv_if_lt (tgt := 10) hx hb dX8_move_1 (by decide) (fun c1 => ?_) (fun c1 => ?_)
  · have h := zz_if c1 h
    refine lv_bipush (v := (-2)) hx hb dX8_move_10 (by decide) ?_
    exact zz_iret (t_reading_zero, t_reading_one, t_reading_fights) hx hb hr hlocks dX8_move_12 (Option.some.inj h) hP hK hD hS
  · have h := zz_ifn c1 h
    refine lv_iload_n hx hb dX8_move_4 rfl (lv_at hl 1 rfl) ?_
    refine lv_bipush (v := 99) hx hb dX8_move_5 (by decide) ?_
    refine lv_icmp_le (tgt := 13) hx hb dX8_move_7 (by decide) (fun c2 => ?_) (fun c2 => ?_)
    · have h := zz_if c2 h
      refine lv_aload_n hx hb dX8_move_13 rfl (lv_at hl 0 rfl) ?_
      obtain ⟨x3, x4, x5, he6, h⟩ := zz_b3E h
      refine zz_VR (q := (RX8, TX8, 10)) (As := []) (rest := []) (wr := []) (wm := [(a_t, .inr (7, [.ref a_t_text, .ref a_t_now, .ref a_t_slotZero, .ref a_t_slotOne, .ref a_t_wishes, .ref a_t_planner, .ref a_t_mending, .ref a_t_reading, .ref a_t_otherReading, .int t_theYear])), (a_t_now, .inr (4, [.ref a_t_now_paper, .long t_now_plan, .ref a_t_now_timesLate, .ref a_t_now_paid, .int t_now_isKept])), (a_t_now_paper, .inr (1, [.int t_now_paper_size, .ref a_t_now_paper_numbers, .ref a_t_now_paper_ranks, .ref a_t_now_paper_told, .ref a_t_now_paper_ones, .ref a_t_now_paper_turnsByYear])), (a_t_now_paper_numbers, .inl (cI, 10, .inl t_now_paper_numbers)), (a_t_now_paper_ones, .inl (cJ, 10, .inr (.inl t_now_paper_ones))), (a_t_now_paper_ranks, .inl (cI, 10, .inl t_now_paper_ranks)), (a_t_now_paper_told, .inl (cJ, 10, .inr (.inl t_now_paper_told))), (a_t_now_paper_turnsByYear, .inl (cZ, 10, .inl t_now_paper_turnsByYear)), (a_t_reading, .inr (3, [.long x3, .long x4, .long x5]))]) ⟨hx, hb, hml, hown, hts⟩ (ct_X8_readPaper l dC dI cI cJ cB cZ a_t a_t_now a_t_now_paper a_t_now_paper_numbers a_t_now_paper_ones a_t_now_paper_ranks a_t_now_paper_told a_t_now_paper_turnsByYear a_t_reading a_t_text a_t_slotZero a_t_slotOne a_t_wishes a_t_planner a_t_mending a_t_otherReading a_t_now_timesLate a_t_now_paid t_theYear t_now_plan t_now_isKept t_now_paper_size t_now_paper_numbers t_now_paper_ones t_now_paper_ranks t_now_paper_told t_now_paper_turnsByYear t_reading_zero t_reading_one t_reading_fights x3 x4 x5 he6) gX8_move_X8_readPaper hd_X8_readPaper rfl rfl rfl ⟨Nat.le_of_ble_eq_true rfl, Nat.le_of_ble_eq_true rfl⟩ ⟨Nat.le_of_ble_eq_true rfl, Nat.le_of_ble_eq_true rfl⟩ rfl rfl (Nat.le_of_ble_eq_true rfl) dX8_move_14 hl.1 rfl (ci := 7) rfl (q0 := 0) rfl hP hK hD hS hA [0, 1, 2, 3, 4, 5, 6, 7, 8] [] [0, 1, 2, 3, 4, 5, 6, 7, 8] rfl rfl (by decide) (by decide) (by decide) (by decide) rfl (fun H locs hP hD hS => ?_)
      refine va_get (ci := 3) (v := .long x4) (C := RX4) (T := TX4) (N := 3) hx hb hts in_X8_move_X4 hown hK hP 8 rfl rfl 1 (by decide) (hts _ lk_X8_move_0) (fun _ h9 => h9) rfl dX8_move_17 ?_
      refine lv_iload_n hx hb dX8_move_20 rfl (lv_at hl 1 rfl) ?_
      obtain ⟨x7, u8, he9, h⟩ := zz_b2E h
      refine zz_PL (As := [.int p1]) (rest := [.long x4]) ⟨hx, hb, hml, hown, hts⟩ (ct_X8_barredFromOne l dC dI cI cJ cB cZ p1 x7 u8 he9) gX8_move_X8_barredFromOne hd_X8_barredFromOne rfl rfl rfl ⟨Nat.le_of_ble_eq_true rfl, Nat.le_of_ble_eq_true rfl⟩ ⟨Nat.le_of_ble_eq_true rfl, Nat.le_of_ble_eq_true rfl⟩ rfl rfl (Nat.le_of_ble_eq_true rfl) dX8_move_21 hl.1 hP hK hS hA (fun H locs hP hS => ?_)
      refine lv_land hx hb dX8_move_24 ?_
      obtain ⟨x10, u11, he12, h⟩ := zz_b2E h
      refine zz_PI (As := [.long (x4 &&& x7)]) (rest := []) ⟨hx, hb, hml, hown, hts⟩ (ct_J13_bitCount_95d88 l dC dI cI cJ cB cZ (x4 &&& x7) x10 u11 he12) gX8_move_J13_bitCount_95d88 hd_J13_bitCount_95d88 rfl rfl rfl ⟨Nat.le_of_ble_eq_true rfl, Nat.le_of_ble_eq_true rfl⟩ ⟨Nat.le_of_ble_eq_true rfl, Nat.le_of_ble_eq_true rfl⟩ rfl rfl (Nat.le_of_ble_eq_true rfl) dX8_move_25 hl.1 hP hK hS hA (fun H locs hP hS => ?_)
      exact zz_iret (x3, x4, x5) hx hb hr hlocks dX8_move_28 (Option.some.inj h) hP hK hD hS
    · have h := zz_ifn c2 h
      refine lv_bipush (v := (-2)) hx hb dX8_move_10 (by decide) ?_
      exact zz_iret (t_reading_zero, t_reading_one, t_reading_fights) hx hb hr hlocks dX8_move_12 (Option.some.inj h) hP hK hD hS
theorem hd_X8_then : yX8_then.cls ≠ "java/lang/invoke/MethodHandle" ∧ yX8_then.cls ≠ "java/lang/invoke/VarHandle" ∧ (parseMethodDescriptor yX8_then.desc).map (fun d => d.parameters.length) = some 1 := by decide +kernel
set_option maxRecDepth 20000 in
theorem in_X8_then_X8 : ∀ w ∈ u_ws RX8 TX8 10, w ∈ wsX8_then := by decide +kernel
set_option maxRecDepth 20000 in
theorem in_X8_then_X4 : ∀ w ∈ u_ws RX4 TX4 3, w ∈ wsX8_then := by decide +kernel
set_option maxRecDepth 20000 in
theorem in_X8_then_X3 : ∀ w ∈ u_ws RX3 TX3 4, w ∈ wsX8_then := by decide +kernel
set_option maxRecDepth 20000 in
theorem lk_X8_then_0 : Cond.fieldLink RX8 39 "TwoHousesOneChild" "planner" "LTwoHousesOneChild$Planner;" ∈ wsX8_then := by decide +kernel
set_option maxRecDepth 20000 in
theorem lk_X8_then_1 : Cond.fieldLink RX8 32 "TwoHousesOneChild" "wishes" "LTwoHousesOneChild$Wishes;" ∈ wsX8_then := by decide +kernel
set_option maxRecDepth 20000 in
theorem lk_X8_then_2 : Cond.fieldLink RX8 232 "TwoHousesOneChild$Reading" "zero" "J" ∈ wsX8_then := by decide +kernel
set_option maxRecDepth 20000 in
theorem lk_X8_then_3 : Cond.fieldLink RX8 226 "TwoHousesOneChild$Reading" "one" "J" ∈ wsX8_then := by decide +kernel
set_option maxRecDepth 20000 in
theorem lk_X8_then_4 : Cond.constantLong RX8 235 (-1) ∈ wsX8_then := by decide +kernel
set_option maxRecDepth 20000 in
theorem lk_X8_then_5 : Cond.fieldLink RX8 186 "TwoHousesOneChild$Planner" "leastCost" "I" ∈ wsX8_then := by decide +kernel
set_option maxHeartbeats 4000000 in
set_option maxRecDepth 100000 in
theorem ct_X8_then (l : Launch) (dC : Nat → ClassId) (dI : Nat → Nat → Nat) (cI cJ cB cZ : ClassId) (a_t a_t_now a_t_now_paper a_t_now_paper_numbers a_t_now_paper_ones a_t_now_paper_ranks a_t_now_paper_told a_t_now_paper_turnsByYear a_t_planner a_t_planner_costBehind a_t_planner_planBehind a_t_reading a_t_wishes a_t_wishes_against a_t_text a_t_slotZero a_t_slotOne a_t_mending a_t_otherReading a_t_now_timesLate a_t_now_paid : Nat) (t_theYear : Int32) (t_now_plan : Int64) (t_now_isKept : Int32) (t_now_paper_size : Int32) (t_now_paper_numbers : (Nat → Int32)) (t_now_paper_ones : (Nat → Int64)) (t_now_paper_ranks : (Nat → Int32)) (t_now_paper_told : (Nat → Int64)) (t_now_paper_turnsByYear : (Nat → Int32)) (t_planner_leastCost : Int32) (t_planner_bestPlan : Int64) (t_planner_costBehind : (Nat → Int32)) (t_planner_planBehind : (Nat → Int64)) (t_reading_zero : Int64) (t_reading_one : Int64) (t_reading_fights : Int64) (t_wishes_longest : Int32) (t_wishes_perLong : Int32) (t_wishes_perHanding : Int32) (t_wishes_wants : Int32) (t_wishes_against : (Nat → Int32)) (p1 : Int32) (rr : Int32) (o1 : Int32) (o2 : Int64) (o3 : (Nat → Int32)) (o4 : (Nat → Int64)) (o5 : Int64) (o6 : Int64) (o7 : Int64) (h : fn_X8_then t_theYear t_now_paper_size t_now_paper_numbers t_now_paper_ones t_now_paper_ranks t_now_paper_told t_now_paper_turnsByYear t_planner_leastCost t_planner_bestPlan t_planner_costBehind t_planner_planBehind t_reading_zero t_reading_one t_reading_fights t_wishes_longest t_wishes_perLong t_wishes_perHanding t_wishes_against p1 = some (rr, o1, o2, o3, o4, o5, o6, o7)) : zz_M l yX8_then wsX8_then ({ frames := 4, cells := 0, slots := 0, locals := 98 }) (dC, dI) (zz_T cI cJ cB cZ) [.ref a_t, .int p1] [(a_t, .inr (7, [.ref a_t_text, .ref a_t_now, .ref a_t_slotZero, .ref a_t_slotOne, .ref a_t_wishes, .ref a_t_planner, .ref a_t_mending, .ref a_t_reading, .ref a_t_otherReading, .int t_theYear])), (a_t_now, .inr (4, [.ref a_t_now_paper, .long t_now_plan, .ref a_t_now_timesLate, .ref a_t_now_paid, .int t_now_isKept])), (a_t_now_paper, .inr (1, [.int t_now_paper_size, .ref a_t_now_paper_numbers, .ref a_t_now_paper_ranks, .ref a_t_now_paper_told, .ref a_t_now_paper_ones, .ref a_t_now_paper_turnsByYear])), (a_t_now_paper_numbers, .inl (cI, 10, .inl t_now_paper_numbers)), (a_t_now_paper_ones, .inl (cJ, 10, .inr (.inl t_now_paper_ones))), (a_t_now_paper_ranks, .inl (cI, 10, .inl t_now_paper_ranks)), (a_t_now_paper_told, .inl (cJ, 10, .inr (.inl t_now_paper_told))), (a_t_now_paper_turnsByYear, .inl (cZ, 10, .inl t_now_paper_turnsByYear)), (a_t_planner, .inr (2, [.ref a_t_planner_costBehind, .ref a_t_planner_planBehind, .int t_planner_leastCost, .long t_planner_bestPlan])), (a_t_planner_costBehind, .inl (cI, 30, .inl t_planner_costBehind)), (a_t_planner_planBehind, .inl (cJ, 30, .inr (.inl t_planner_planBehind))), (a_t_reading, .inr (3, [.long t_reading_zero, .long t_reading_one, .long t_reading_fights])), (a_t_wishes, .inr (6, [.int t_wishes_longest, .int t_wishes_perLong, .int t_wishes_perHanding, .int t_wishes_wants, .ref a_t_wishes_against])), (a_t_wishes_against, .inl (cI, 112, .inl t_wishes_against))] (zz_QI (dC, dI) (zz_T cI cJ cB cZ) (rr, o1, o2, o3, o4, o5, o6, o7) (fun (u : Int32 × Int64 × (Nat → Int32) × (Nat → Int64) × Int64 × Int64 × Int64) => [(a_t, .inr (7, [.ref a_t_text, .ref a_t_now, .ref a_t_slotZero, .ref a_t_slotOne, .ref a_t_wishes, .ref a_t_planner, .ref a_t_mending, .ref a_t_reading, .ref a_t_otherReading, .int t_theYear])), (a_t_now, .inr (4, [.ref a_t_now_paper, .long t_now_plan, .ref a_t_now_timesLate, .ref a_t_now_paid, .int t_now_isKept])), (a_t_now_paper, .inr (1, [.int t_now_paper_size, .ref a_t_now_paper_numbers, .ref a_t_now_paper_ranks, .ref a_t_now_paper_told, .ref a_t_now_paper_ones, .ref a_t_now_paper_turnsByYear])), (a_t_now_paper_numbers, .inl (cI, 10, .inl t_now_paper_numbers)), (a_t_now_paper_ones, .inl (cJ, 10, .inr (.inl t_now_paper_ones))), (a_t_now_paper_ranks, .inl (cI, 10, .inl t_now_paper_ranks)), (a_t_now_paper_told, .inl (cJ, 10, .inr (.inl t_now_paper_told))), (a_t_now_paper_turnsByYear, .inl (cZ, 10, .inl t_now_paper_turnsByYear)), (a_t_planner, .inr (2, [.ref a_t_planner_costBehind, .ref a_t_planner_planBehind, .int u.1, .long u.2.1])), (a_t_planner_costBehind, .inl (cI, 30, .inl u.2.2.1)), (a_t_planner_planBehind, .inl (cJ, 30, .inr (.inl u.2.2.2.1))), (a_t_reading, .inr (3, [.long u.2.2.2.2.1, .long u.2.2.2.2.2.1, .long u.2.2.2.2.2.2])), (a_t_wishes, .inr (6, [.int t_wishes_longest, .int t_wishes_perLong, .int t_wishes_perHanding, .int t_wishes_wants, .ref a_t_wishes_against])), (a_t_wishes_against, .inl (cI, 112, .inl t_wishes_against))])) := by
  unfold fn_X8_then at h
  refine zz_of (by decide) rfl (Nat.le_of_ble_eq_true rfl) ?_
  intro p e s m below meth c A ls hx hb hr hml hts hown hlocks hA hS hP hK hD hl
  have hown : s.vm.findClass RX8 = some m.cls := hown
  have hl : lv_has ls 5 [(0, .ref a_t), (1, .int p1)] := hl
  refine lv_iload_n hx hb dX8_then_0 rfl (lv_at hl 1 rfl) ?_
  refine lv_if_lt (tgt := 10) hx hb dX8_then_1 (by decide) (fun c1 => ?_) (fun c1 => ?_)
  · have h := zz_if c1 h
    refine lv_bipush (v := (-2)) hx hb dX8_then_10 (by decide) ?_
    exact zz_iret (t_planner_leastCost, t_planner_bestPlan, t_planner_costBehind, t_planner_planBehind, t_reading_zero, t_reading_one, t_reading_fights) hx hb hr hlocks dX8_then_12 (Option.some.inj h) hP hK hD hS
  · have h := zz_ifn c1 h
    refine lv_iload_n hx hb dX8_then_4 rfl (lv_at hl 1 rfl) ?_
    refine lv_bipush (v := 99) hx hb dX8_then_5 (by decide) ?_
    refine lv_icmp_le (tgt := 13) hx hb dX8_then_7 (by decide) (fun c2 => ?_) (fun c2 => ?_)
    · have h := zz_if c2 h
      refine lv_iload_n hx hb dX8_then_13 rfl (lv_at hl 1 rfl) ?_
      obtain ⟨x3, u4, he5, h⟩ := zz_b2E h
      refine zz_PL (As := [.int p1]) (rest := []) ⟨hx, hb, hml, hown, hts⟩ (ct_X8_barredFromOne l dC dI cI cJ cB cZ p1 x3 u4 he5) gX8_then_X8_barredFromOne hd_X8_barredFromOne rfl rfl rfl ⟨Nat.le_of_ble_eq_true rfl, Nat.le_of_ble_eq_true rfl⟩ ⟨Nat.le_of_ble_eq_true rfl, Nat.le_of_ble_eq_true rfl⟩ rfl rfl (Nat.le_of_ble_eq_true rfl) dX8_then_14 hl.1 hP hK hS hA (fun H locs hP hS => ?_)
      refine lv_lstore_n (lv' := [(2, .long x3), (0, .ref a_t), (1, .int p1)]) hx hb dX8_then_17 rfl hl (by decide) rfl (fun ls hl => ?_)
      refine lv_aload_n hx hb dX8_then_18 rfl (lv_at hl 1 rfl) ?_
      obtain ⟨x6, x7, x8, he9, h⟩ := zz_b3E h
      refine zz_VR (q := (RX8, TX8, 10)) (As := []) (rest := []) (wr := [(a_t_planner, .inr (2, [.ref a_t_planner_costBehind, .ref a_t_planner_planBehind, .int t_planner_leastCost, .long t_planner_bestPlan])), (a_t_planner_costBehind, .inl (cI, 30, .inl t_planner_costBehind)), (a_t_planner_planBehind, .inl (cJ, 30, .inr (.inl t_planner_planBehind))), (a_t_wishes, .inr (6, [.int t_wishes_longest, .int t_wishes_perLong, .int t_wishes_perHanding, .int t_wishes_wants, .ref a_t_wishes_against])), (a_t_wishes_against, .inl (cI, 112, .inl t_wishes_against))]) (wm := [(a_t, .inr (7, [.ref a_t_text, .ref a_t_now, .ref a_t_slotZero, .ref a_t_slotOne, .ref a_t_wishes, .ref a_t_planner, .ref a_t_mending, .ref a_t_reading, .ref a_t_otherReading, .int t_theYear])), (a_t_now, .inr (4, [.ref a_t_now_paper, .long t_now_plan, .ref a_t_now_timesLate, .ref a_t_now_paid, .int t_now_isKept])), (a_t_now_paper, .inr (1, [.int t_now_paper_size, .ref a_t_now_paper_numbers, .ref a_t_now_paper_ranks, .ref a_t_now_paper_told, .ref a_t_now_paper_ones, .ref a_t_now_paper_turnsByYear])), (a_t_now_paper_numbers, .inl (cI, 10, .inl t_now_paper_numbers)), (a_t_now_paper_ones, .inl (cJ, 10, .inr (.inl t_now_paper_ones))), (a_t_now_paper_ranks, .inl (cI, 10, .inl t_now_paper_ranks)), (a_t_now_paper_told, .inl (cJ, 10, .inr (.inl t_now_paper_told))), (a_t_now_paper_turnsByYear, .inl (cZ, 10, .inl t_now_paper_turnsByYear)), (a_t_planner, .inr (2, [.ref a_t_planner_costBehind, .ref a_t_planner_planBehind, .int t_planner_leastCost, .long t_planner_bestPlan])), (a_t_planner_costBehind, .inl (cI, 30, .inl t_planner_costBehind)), (a_t_planner_planBehind, .inl (cJ, 30, .inr (.inl t_planner_planBehind))), (a_t_reading, .inr (3, [.long x6, .long x7, .long x8])), (a_t_wishes, .inr (6, [.int t_wishes_longest, .int t_wishes_perLong, .int t_wishes_perHanding, .int t_wishes_wants, .ref a_t_wishes_against])), (a_t_wishes_against, .inl (cI, 112, .inl t_wishes_against))]) ⟨hx, hb, hml, hown, hts⟩ (ct_X8_readPaper l dC dI cI cJ cB cZ a_t a_t_now a_t_now_paper a_t_now_paper_numbers a_t_now_paper_ones a_t_now_paper_ranks a_t_now_paper_told a_t_now_paper_turnsByYear a_t_reading a_t_text a_t_slotZero a_t_slotOne a_t_wishes a_t_planner a_t_mending a_t_otherReading a_t_now_timesLate a_t_now_paid t_theYear t_now_plan t_now_isKept t_now_paper_size t_now_paper_numbers t_now_paper_ones t_now_paper_ranks t_now_paper_told t_now_paper_turnsByYear t_reading_zero t_reading_one t_reading_fights x6 x7 x8 he9) gX8_then_X8_readPaper hd_X8_readPaper rfl rfl rfl ⟨Nat.le_of_ble_eq_true rfl, Nat.le_of_ble_eq_true rfl⟩ ⟨Nat.le_of_ble_eq_true rfl, Nat.le_of_ble_eq_true rfl⟩ rfl rfl (Nat.le_of_ble_eq_true rfl) dX8_then_19 hl.1 rfl (ci := 7) rfl (q0 := 0) rfl hP hK hD hS hA [0, 1, 2, 3, 4, 5, 6, 7, 11] [8, 9, 10, 12, 13] [5, 6, 7, 8, 9, 10, 11, 12, 0, 1, 2, 13, 3, 4] rfl rfl (by decide) (by decide) (by decide) (by decide) rfl (fun H locs hP hD hS => ?_)
      refine lv_astore (lv' := [(4, .ref a_t_reading), (2, .long x3), (0, .ref a_t), (1, .int p1)]) hx hb dX8_then_22 hl (by decide) rfl (fun ls hl => ?_)
      refine lv_aload_n hx hb dX8_then_24 rfl (lv_at hl 2 rfl) ?_
      refine va_get (ci := 7) (v := .ref a_t_planner) (C := RX8) (T := TX8) (N := 10) hx hb hts in_X8_then_X8 hown hK hP 0 rfl rfl 5 (by decide) (hts _ lk_X8_then_0) (fun _ h9 => h9) rfl dX8_then_25 ?_
      refine lv_aload_n hx hb dX8_then_28 rfl (lv_at hl 2 rfl) ?_
      refine va_get (ci := 7) (v := .ref a_t_wishes) (C := RX8) (T := TX8) (N := 10) hx hb hts in_X8_then_X8 hown hK hP 0 rfl rfl 4 (by decide) (hts _ lk_X8_then_1) (fun _ h9 => h9) rfl dX8_then_29 ?_
      refine lv_aload hx hb dX8_then_32 (lv_at hl 0 rfl) ?_
      refine va_get (ci := 3) (v := .long x6) (C := RX4) (T := TX4) (N := 3) hx hb hts in_X8_then_X4 hown hK hP 11 rfl rfl 0 (by decide) (hts _ lk_X8_then_2) (fun _ h9 => h9) rfl dX8_then_34 ?_
      refine lv_lload_n hx hb dX8_then_37 rfl (lv_at hl 1 rfl) ?_
      refine lv_lor hx hb dX8_then_38 ?_
      refine lv_aload hx hb dX8_then_39 (lv_at hl 0 rfl) ?_
      refine va_get (ci := 3) (v := .long x7) (C := RX4) (T := TX4) (N := 3) hx hb hts in_X8_then_X4 hown hK hP 11 rfl rfl 1 (by decide) (hts _ lk_X8_then_3) (fun _ h9 => h9) rfl dX8_then_41 ?_
      refine lv_lload_n hx hb dX8_then_44 rfl (lv_at hl 1 rfl) ?_
      refine lv_ldc2 (v := (-1)) hx hb hown (hts _ lk_X8_then_4) dX8_then_45 ?_
      refine lv_lxor hx hb dX8_then_48 ?_
      refine lv_land hx hb dX8_then_49 ?_
      obtain ⟨x10, x11, g12, g13, he14, h⟩ := zz_b4E h
      refine zz_VV (q := (RX3, TX3, 4)) (As := [.ref a_t_wishes, .long (x6 ||| x3), .long (x7 &&& (x3 ^^^ (-1)))]) (rest := []) (wr := [(a_t, .inr (7, [.ref a_t_text, .ref a_t_now, .ref a_t_slotZero, .ref a_t_slotOne, .ref a_t_wishes, .ref a_t_planner, .ref a_t_mending, .ref a_t_reading, .ref a_t_otherReading, .int t_theYear])), (a_t_now, .inr (4, [.ref a_t_now_paper, .long t_now_plan, .ref a_t_now_timesLate, .ref a_t_now_paid, .int t_now_isKept])), (a_t_now_paper, .inr (1, [.int t_now_paper_size, .ref a_t_now_paper_numbers, .ref a_t_now_paper_ranks, .ref a_t_now_paper_told, .ref a_t_now_paper_ones, .ref a_t_now_paper_turnsByYear])), (a_t_now_paper_numbers, .inl (cI, 10, .inl t_now_paper_numbers)), (a_t_now_paper_ones, .inl (cJ, 10, .inr (.inl t_now_paper_ones))), (a_t_now_paper_ranks, .inl (cI, 10, .inl t_now_paper_ranks)), (a_t_now_paper_told, .inl (cJ, 10, .inr (.inl t_now_paper_told))), (a_t_now_paper_turnsByYear, .inl (cZ, 10, .inl t_now_paper_turnsByYear)), (a_t_reading, .inr (3, [.long x6, .long x7, .long x8]))]) (wm := [(a_t, .inr (7, [.ref a_t_text, .ref a_t_now, .ref a_t_slotZero, .ref a_t_slotOne, .ref a_t_wishes, .ref a_t_planner, .ref a_t_mending, .ref a_t_reading, .ref a_t_otherReading, .int t_theYear])), (a_t_now, .inr (4, [.ref a_t_now_paper, .long t_now_plan, .ref a_t_now_timesLate, .ref a_t_now_paid, .int t_now_isKept])), (a_t_now_paper, .inr (1, [.int t_now_paper_size, .ref a_t_now_paper_numbers, .ref a_t_now_paper_ranks, .ref a_t_now_paper_told, .ref a_t_now_paper_ones, .ref a_t_now_paper_turnsByYear])), (a_t_now_paper_numbers, .inl (cI, 10, .inl t_now_paper_numbers)), (a_t_now_paper_ones, .inl (cJ, 10, .inr (.inl t_now_paper_ones))), (a_t_now_paper_ranks, .inl (cI, 10, .inl t_now_paper_ranks)), (a_t_now_paper_told, .inl (cJ, 10, .inr (.inl t_now_paper_told))), (a_t_now_paper_turnsByYear, .inl (cZ, 10, .inl t_now_paper_turnsByYear)), (a_t_planner, .inr (2, [.ref a_t_planner_costBehind, .ref a_t_planner_planBehind, .int x10, .long x11])), (a_t_planner_costBehind, .inl (cI, 30, .inl g12)), (a_t_planner_planBehind, .inl (cJ, 30, .inr (.inl g13))), (a_t_reading, .inr (3, [.long x6, .long x7, .long x8])), (a_t_wishes, .inr (6, [.int t_wishes_longest, .int t_wishes_perLong, .int t_wishes_perHanding, .int t_wishes_wants, .ref a_t_wishes_against])), (a_t_wishes_against, .inl (cI, 112, .inl t_wishes_against))]) ⟨hx, hb, hml, hown, hts⟩ (ct_X3_find l dC dI cI cJ cB cZ a_t_wishes a_t_wishes_against a_t_planner a_t_planner_costBehind a_t_planner_planBehind t_wishes_longest t_wishes_perLong t_wishes_perHanding t_wishes_wants t_wishes_against t_planner_leastCost t_planner_bestPlan t_planner_costBehind t_planner_planBehind (x6 ||| x3) (x7 &&& (x3 ^^^ (-1))) x10 x11 g12 g13 he14) gX8_then_X3_find hd_X3_find rfl rfl rfl ⟨Nat.le_of_ble_eq_true rfl, Nat.le_of_ble_eq_true rfl⟩ ⟨Nat.le_of_ble_eq_true rfl, Nat.le_of_ble_eq_true rfl⟩ rfl rfl (Nat.le_of_ble_eq_true rfl) dX8_then_50 hl.1 rfl (ci := 2) rfl (q0 := 8) rfl hP hK hD hS hA [12, 13, 8, 9, 10] [0, 1, 2, 3, 4, 5, 6, 7, 11] [0, 1, 2, 3, 4, 5, 6, 7, 11, 12, 13, 8, 9, 10] rfl rfl (by decide) (by decide) (by decide) (by decide) rfl (fun H locs hP hD hS => ?_)
      refine lv_aload_n hx hb dX8_then_53 rfl (lv_at hl 2 rfl) ?_
      refine va_get (ci := 7) (v := .ref a_t_planner) (C := RX8) (T := TX8) (N := 10) hx hb hts in_X8_then_X8 hown hK hP 0 rfl rfl 5 (by decide) (hts _ lk_X8_then_0) (fun _ h9 => h9) rfl dX8_then_54 ?_
      refine va_get (ci := 2) (v := .int x10) (C := RX3) (T := TX3) (N := 4) hx hb hts in_X8_then_X3 hown hK hP 8 rfl rfl 2 (by decide) (hts _ lk_X8_then_5) (fun _ h9 => h9) rfl dX8_then_57 ?_
      exact zz_iret (x10, x11, g12, g13, x6, x7, x8) hx hb hr hlocks dX8_then_60 (Option.some.inj h) hP hK hD hS
    · have h := zz_ifn c2 h
      refine lv_bipush (v := (-2)) hx hb dX8_then_10 (by decide) ?_
      exact zz_iret (t_planner_leastCost, t_planner_bestPlan, t_planner_costBehind, t_planner_planBehind, t_reading_zero, t_reading_one, t_reading_fights) hx hb hr hlocks dX8_then_12 (Option.some.inj h) hP hK hD hS
theorem hd_X8_isSlot : yX8_isSlot.cls ≠ "java/lang/invoke/MethodHandle" ∧ yX8_isSlot.cls ≠ "java/lang/invoke/VarHandle" ∧ (parseMethodDescriptor yX8_isSlot.desc).map (fun d => d.parameters.length) = some 1 := by decide +kernel
set_option maxHeartbeats 4000000 in
set_option maxRecDepth 100000 in
theorem ct_X8_isSlot (l : Launch) (dC : Nat → ClassId) (dI : Nat → Nat → Nat) (cI cJ cB cZ : ClassId) (p0 : Int32) (rr : Int32) (u0 : Unit) (h : fn_X8_isSlot p0 = some (rr, u0)) : zz_M l yX8_isSlot wsX8_isSlot ({ frames := 0, cells := 0, slots := 0, locals := 0 }) (dC, dI) (zz_T cI cJ cB cZ) [.int p0] [] (zz_QI (dC, dI) (zz_T cI cJ cB cZ) (rr, u0) (fun (u : Unit) => [])) := by
  unfold fn_X8_isSlot at h
  refine zz_of (by decide) rfl (Nat.le_of_ble_eq_true rfl) ?_
  intro p e s m below meth c A ls hx hb hr hml hts hown hlocks hA hS hP hK hD hl
  have hown : s.vm.findClass RX8 = some m.cls := hown
  have hl : lv_has ls 1 [(0, .int p0)] := hl
  refine lv_iload_n hx hb dX8_isSlot_0 rfl (lv_at hl 0 rfl) ?_
  refine lv_if_lt (tgt := 13) hx hb dX8_isSlot_1 (by decide) (fun c1 => ?_) (fun c1 => ?_)
  · have h := zz_if c1 h
    refine lv_iconst (v := 0) hx hb dX8_isSlot_13 (by decide) ?_
    exact zz_zret () hx hb hr hlocks dX8_isSlot_14 (by decide) (Option.some.inj h) hP hK hD hS
  · have h := zz_ifn c1 h
    refine lv_iload_n hx hb dX8_isSlot_4 rfl (lv_at hl 0 rfl) ?_
    refine lv_iconst (v := 2) hx hb dX8_isSlot_5 (by decide) ?_
    refine lv_icmp_ge (tgt := 13) hx hb dX8_isSlot_6 (by decide) (fun c2 => ?_) (fun c2 => ?_)
    · have h := zz_if c2 h
      refine lv_iconst (v := 0) hx hb dX8_isSlot_13 (by decide) ?_
      exact zz_zret () hx hb hr hlocks dX8_isSlot_14 (by decide) (Option.some.inj h) hP hK hD hS
    · have h := zz_ifn c2 h
      refine lv_iconst (v := 1) hx hb dX8_isSlot_9 (by decide) ?_
      refine lv_goto (tgt := 14) hx hb dX8_isSlot_10 (by decide) ?_
      exact zz_zret () hx hb hr hlocks dX8_isSlot_14 (by decide) (Option.some.inj h) hP hK hD hS
theorem hd_X8_slotOf : yX8_slotOf.cls ≠ "java/lang/invoke/MethodHandle" ∧ yX8_slotOf.cls ≠ "java/lang/invoke/VarHandle" ∧ (parseMethodDescriptor yX8_slotOf.desc).map (fun d => d.parameters.length) = some 1 := by decide +kernel
set_option maxRecDepth 20000 in
theorem in_X8_slotOf_X8 : ∀ w ∈ u_ws RX8 TX8 10, w ∈ wsX8_slotOf := by decide +kernel
set_option maxRecDepth 20000 in
theorem lk_X8_slotOf_slotZero : Cond.fieldLink RX8 23 "TwoHousesOneChild" "slotZero" "LTwoHousesOneChild$Standing;" ∈ wsX8_slotOf := by decide +kernel
set_option maxRecDepth 20000 in
theorem lk_X8_slotOf_slotOne : Cond.fieldLink RX8 26 "TwoHousesOneChild" "slotOne" "LTwoHousesOneChild$Standing;" ∈ wsX8_slotOf := by decide +kernel
set_option maxHeartbeats 4000000 in
set_option maxRecDepth 100000 in
theorem ct_X8_slotOf_0 (l : Launch) (dC : Nat → ClassId) (dI : Nat → Nat → Nat) (cI cJ cB cZ : ClassId) (a_t a_t_text a_t_now a_t_slotZero a_t_slotOne a_t_wishes a_t_planner a_t_mending a_t_reading a_t_otherReading : Nat) (t_theYear p1 : Int32) (hc : p1 = 0) : zz_M l yX8_slotOf wsX8_slotOf ({ frames := 0, cells := 0, slots := 0, locals := 0 }) (dC, dI) (zz_T cI cJ cB cZ) [.ref a_t, .int p1] [(a_t, .inr (7, [.ref a_t_text, .ref a_t_now, .ref a_t_slotZero, .ref a_t_slotOne, .ref a_t_wishes, .ref a_t_planner, .ref a_t_mending, .ref a_t_reading, .ref a_t_otherReading, .int t_theYear]))] (zz_QR (dC, dI) (zz_T cI cJ cB cZ) a_t_slotZero () (fun (u : Unit) => [(a_t, .inr (7, [.ref a_t_text, .ref a_t_now, .ref a_t_slotZero, .ref a_t_slotOne, .ref a_t_wishes, .ref a_t_planner, .ref a_t_mending, .ref a_t_reading, .ref a_t_otherReading, .int t_theYear]))])) := by
  refine zz_of (by decide) rfl (Nat.le_of_ble_eq_true rfl) ?_
  intro p e s m below meth c A ls hx hb hr hml hts hown hlocks hA hS hP hK hD hl
  have hown : s.vm.findClass RX8 = some m.cls := hown
  have hl : lv_has ls 2 [(0, .ref a_t), (1, .int p1)] := hl
  refine lv_iload_n hx hb dX8_slotOf_0 rfl (lv_at hl 1 rfl) ?_
  refine lv_if_ne (tgt := 11) hx hb dX8_slotOf_1 (by decide) (fun c1 => ?_) (fun c1 => ?_)
  · exact absurd hc c1
  · refine lv_aload_n hx hb dX8_slotOf_4 rfl (lv_at hl 0 rfl) ?_
    refine va_get (ci := 7) (v := .ref a_t_slotZero) (C := RX8) (T := TX8) (N := 10) hx hb hts in_X8_slotOf_X8 hown hK hP 0 rfl rfl 2 (by decide) (hts _ lk_X8_slotOf_slotZero) (fun _ h9 => h9) rfl dX8_slotOf_5 ?_
    refine lv_goto (tgt := 15) hx hb dX8_slotOf_8 (by decide) ?_
    exact zz_aret () hx hb hr hlocks dX8_slotOf_15 rfl hP hK hD hS
set_option maxHeartbeats 4000000 in
set_option maxRecDepth 100000 in
theorem ct_X8_slotOf_1 (l : Launch) (dC : Nat → ClassId) (dI : Nat → Nat → Nat) (cI cJ cB cZ : ClassId) (a_t a_t_text a_t_now a_t_slotZero a_t_slotOne a_t_wishes a_t_planner a_t_mending a_t_reading a_t_otherReading : Nat) (t_theYear p1 : Int32) (hc : ¬ p1 = 0) : zz_M l yX8_slotOf wsX8_slotOf ({ frames := 0, cells := 0, slots := 0, locals := 0 }) (dC, dI) (zz_T cI cJ cB cZ) [.ref a_t, .int p1] [(a_t, .inr (7, [.ref a_t_text, .ref a_t_now, .ref a_t_slotZero, .ref a_t_slotOne, .ref a_t_wishes, .ref a_t_planner, .ref a_t_mending, .ref a_t_reading, .ref a_t_otherReading, .int t_theYear]))] (zz_QR (dC, dI) (zz_T cI cJ cB cZ) a_t_slotOne () (fun (u : Unit) => [(a_t, .inr (7, [.ref a_t_text, .ref a_t_now, .ref a_t_slotZero, .ref a_t_slotOne, .ref a_t_wishes, .ref a_t_planner, .ref a_t_mending, .ref a_t_reading, .ref a_t_otherReading, .int t_theYear]))])) := by
  refine zz_of (by decide) rfl (Nat.le_of_ble_eq_true rfl) ?_
  intro p e s m below meth c A ls hx hb hr hml hts hown hlocks hA hS hP hK hD hl
  have hown : s.vm.findClass RX8 = some m.cls := hown
  have hl : lv_has ls 2 [(0, .ref a_t), (1, .int p1)] := hl
  refine lv_iload_n hx hb dX8_slotOf_0 rfl (lv_at hl 1 rfl) ?_
  refine lv_if_ne (tgt := 11) hx hb dX8_slotOf_1 (by decide) (fun c1 => ?_) (fun c1 => ?_)
  · refine lv_aload_n hx hb dX8_slotOf_11 rfl (lv_at hl 0 rfl) ?_
    refine va_get (ci := 7) (v := .ref a_t_slotOne) (C := RX8) (T := TX8) (N := 10) hx hb hts in_X8_slotOf_X8 hown hK hP 0 rfl rfl 3 (by decide) (hts _ lk_X8_slotOf_slotOne) (fun _ h9 => h9) rfl dX8_slotOf_12 ?_
    exact zz_aret () hx hb hr hlocks dX8_slotOf_15 rfl hP hK hD hS
  · exact absurd c1 hc
