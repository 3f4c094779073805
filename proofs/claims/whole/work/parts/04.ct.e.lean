theorem hd_X8_put : yX8_put.cls ≠ "java/lang/invoke/MethodHandle" ∧ yX8_put.cls ≠ "java/lang/invoke/VarHandle" ∧ (parseMethodDescriptor yX8_put.desc).map (fun d => d.parameters.length) = some 2 := by decide +kernel
set_option maxRecDepth 20000 in
theorem in_X8_put_X8 : ∀ w ∈ u_ws RX8 TX8 10, w ∈ wsX8_put := by decide +kernel
set_option maxRecDepth 20000 in
theorem in_X8_put_X5 : ∀ w ∈ u_ws RX5 TX5 5, w ∈ wsX8_put := by decide +kernel
set_option maxRecDepth 20000 in
theorem lk_X8_put_0 : Cond.fieldLink RX8 19 "TwoHousesOneChild" "now" "LTwoHousesOneChild$Standing;" ∈ wsX8_put := by decide +kernel
set_option maxRecDepth 20000 in
theorem lk_X8_put_1 : Cond.fieldLink RX8 136 "TwoHousesOneChild$Standing" "plan" "J" ∈ wsX8_put := by decide +kernel
set_option maxHeartbeats 4000000 in
set_option maxRecDepth 100000 in
theorem ct_X8_put (l : Launch) (dC : Nat → ClassId) (dI : Nat → Nat → Nat) (cI cJ cB cZ : ClassId) (a_t a_t_now a_t_text a_t_slotZero a_t_slotOne a_t_wishes a_t_planner a_t_mending a_t_reading a_t_otherReading a_t_now_paper a_t_now_timesLate a_t_now_paid : Nat) (t_theYear : Int32) (t_now_plan : Int64) (t_now_isKept : Int32) (p1 : Int32) (p2 : Int32) (rr : Int32) (o1 : Int64) (h : fn_X8_put t_now_plan p1 p2 = some (rr, o1)) : zz_M l yX8_put wsX8_put ({ frames := 1, cells := 0, slots := 0, locals := 24 }) (dC, dI) (zz_T cI cJ cB cZ) [.ref a_t, .int p1, .int p2] [(a_t, .inr (7, [.ref a_t_text, .ref a_t_now, .ref a_t_slotZero, .ref a_t_slotOne, .ref a_t_wishes, .ref a_t_planner, .ref a_t_mending, .ref a_t_reading, .ref a_t_otherReading, .int t_theYear])), (a_t_now, .inr (4, [.ref a_t_now_paper, .long t_now_plan, .ref a_t_now_timesLate, .ref a_t_now_paid, .int t_now_isKept]))] (zz_QI (dC, dI) (zz_T cI cJ cB cZ) (rr, o1) (fun (u : Int64) => [(a_t, .inr (7, [.ref a_t_text, .ref a_t_now, .ref a_t_slotZero, .ref a_t_slotOne, .ref a_t_wishes, .ref a_t_planner, .ref a_t_mending, .ref a_t_reading, .ref a_t_otherReading, .int t_theYear])), (a_t_now, .inr (4, [.ref a_t_now_paper, .long u, .ref a_t_now_timesLate, .ref a_t_now_paid, .int t_now_isKept]))])) := by
  unfold fn_X8_put at h
  refine zz_of (by decide) rfl (Nat.le_of_ble_eq_true rfl) ?_
  intro p e s m below meth c A ls hx hb hr hml hts hown hlocks hA hS hP hK hD hl
  have hown : s.vm.findClass RX8 = some m.cls := hown
  have hl : lv_has ls 4 [(0, .ref a_t), (1, .int p1), (2, .int p2)] := hl
  refine lv_iload_n hx hb dX8_put_0 rfl (lv_at hl 1 rfl) ?_
  obtain ⟨x1, u2, he3, h⟩ := zz_b2E h
  refine zz_PI (As := [.int p1]) (rest := []) ⟨hx, hb, hml, hown, hts⟩ (ct_X8_isNight l dC dI cI cJ cB cZ p1 x1 u2 he3) gX8_put_X8_isNight hd_X8_isNight rfl rfl rfl ⟨Nat.le_of_ble_eq_true rfl, Nat.le_of_ble_eq_true rfl⟩ ⟨Nat.le_of_ble_eq_true rfl, Nat.le_of_ble_eq_true rfl⟩ rfl rfl (Nat.le_of_ble_eq_true rfl) dX8_put_1 hl.1 hP hK hS hA (fun H locs hP hS => ?_)
  refine lv_if_eq (tgt := 14) hx hb dX8_put_4 (by decide) (fun c4 => ?_) (fun c4 => ?_)
  · have h := zz_if c4 h
    refine lv_iconst (v := (-1)) hx hb dX8_put_14 (by decide) ?_
    exact zz_iret t_now_plan hx hb hr hlocks dX8_put_15 (Option.some.inj h) hP hK hD hS
  · have h := zz_ifn c4 h
    refine lv_iload_n hx hb dX8_put_7 rfl (lv_at hl 2 rfl) ?_
    obtain ⟨x5, u6, he7, h⟩ := zz_b2E h
    refine zz_PI (As := [.int p2]) (rest := []) ⟨hx, hb, hml, hown, hts⟩ (ct_X8_isHouse l dC dI cI cJ cB cZ p2 x5 u6 he7) gX8_put_X8_isHouse hd_X8_isHouse rfl rfl rfl ⟨Nat.le_of_ble_eq_true rfl, Nat.le_of_ble_eq_true rfl⟩ ⟨Nat.le_of_ble_eq_true rfl, Nat.le_of_ble_eq_true rfl⟩ rfl rfl (Nat.le_of_ble_eq_true rfl) dX8_put_8 hl.1 hP hK hS hA (fun H locs hP hS => ?_)
    refine lv_if_ne (tgt := 16) hx hb dX8_put_11 (by decide) (fun c8 => ?_) (fun c8 => ?_)
    · have h := zz_ifn c8 h
      refine lv_aload_n hx hb dX8_put_16 rfl (lv_at hl 0 rfl) ?_
      refine va_get (ci := 7) (v := .ref a_t_now) (C := RX8) (T := TX8) (N := 10) hx hb hts in_X8_put_X8 hown hK hP 0 rfl rfl 1 (by decide) (hts _ lk_X8_put_0) (fun _ h9 => h9) rfl dX8_put_17 ?_
      refine va_get (ci := 4) (v := .long t_now_plan) (C := RX5) (T := TX5) (N := 5) hx hb hts in_X8_put_X5 hown hK hP 1 rfl rfl 1 (by decide) (hts _ lk_X8_put_1) (fun _ h9 => h9) rfl dX8_put_20 ?_
      refine lv_iload_n hx hb dX8_put_23 rfl (lv_at hl 1 rfl) ?_
      obtain ⟨x9, u10, he11, h⟩ := zz_b2E h
      refine zz_PI (As := [.long t_now_plan, .int p1]) (rest := []) ⟨hx, hb, hml, hown, hts⟩ (ct_X1_houseAt l dC dI cI cJ cB cZ t_now_plan p1 x9 u10 he11) gX8_put_X1_houseAt hd_X1_houseAt rfl rfl rfl ⟨Nat.le_of_ble_eq_true rfl, Nat.le_of_ble_eq_true rfl⟩ ⟨Nat.le_of_ble_eq_true rfl, Nat.le_of_ble_eq_true rfl⟩ rfl rfl (Nat.le_of_ble_eq_true rfl) dX8_put_24 hl.1 hP hK hS hA (fun H locs hP hS => ?_)
      refine lv_istore_n (lv' := [(3, .int x9), (0, .ref a_t), (1, .int p1), (2, .int p2)]) hx hb dX8_put_27 rfl hl (by decide) rfl (fun ls hl => ?_)
      refine lv_aload_n hx hb dX8_put_28 rfl (lv_at hl 1 rfl) ?_
      refine va_get (ci := 7) (v := .ref a_t_now) (C := RX8) (T := TX8) (N := 10) hx hb hts in_X8_put_X8 hown hK hP 0 rfl rfl 1 (by decide) (hts _ lk_X8_put_0) (fun _ h9 => h9) rfl dX8_put_29 ?_
      refine lv_iload_n hx hb dX8_put_32 rfl (lv_at hl 2 rfl) ?_
      refine lv_iload_n hx hb dX8_put_33 rfl (lv_at hl 3 rfl) ?_
      obtain ⟨x12, he13, h⟩ := zz_b1E h
      refine zz_VV (q := (RX5, TX5, 5)) (As := [.int p1, .int p2]) (rest := []) (wr := [(a_t, .inr (7, [.ref a_t_text, .ref a_t_now, .ref a_t_slotZero, .ref a_t_slotOne, .ref a_t_wishes, .ref a_t_planner, .ref a_t_mending, .ref a_t_reading, .ref a_t_otherReading, .int t_theYear]))]) (wm := [(a_t, .inr (7, [.ref a_t_text, .ref a_t_now, .ref a_t_slotZero, .ref a_t_slotOne, .ref a_t_wishes, .ref a_t_planner, .ref a_t_mending, .ref a_t_reading, .ref a_t_otherReading, .int t_theYear])), (a_t_now, .inr (4, [.ref a_t_now_paper, .long x12, .ref a_t_now_timesLate, .ref a_t_now_paid, .int t_now_isKept]))]) ⟨hx, hb, hml, hown, hts⟩ (ct_X5_place l dC dI cI cJ cB cZ a_t_now a_t_now_paper a_t_now_timesLate a_t_now_paid t_now_plan t_now_isKept p1 p2 x12 he13) gX8_put_X5_place hd_X5_place rfl rfl rfl ⟨Nat.le_of_ble_eq_true rfl, Nat.le_of_ble_eq_true rfl⟩ ⟨Nat.le_of_ble_eq_true rfl, Nat.le_of_ble_eq_true rfl⟩ rfl rfl (Nat.le_of_ble_eq_true rfl) dX8_put_34 hl.1 rfl (ci := 4) rfl (q0 := 1) rfl hP hK hD hS hA [1] [0] [0, 1] rfl rfl (by decide) (by decide) (by decide) (by decide) rfl (fun H locs hP hD hS => ?_)
      refine lv_iload_n hx hb dX8_put_37 rfl (lv_at hl 0 rfl) ?_
      exact zz_iret x12 hx hb hr hlocks dX8_put_38 (Option.some.inj h) hP hK hD hS
    · have h := zz_if c8 h
      refine lv_iconst (v := (-1)) hx hb dX8_put_14 (by decide) ?_
      exact zz_iret t_now_plan hx hb hr hlocks dX8_put_15 (Option.some.inj h) hP hK hD hS
theorem hd_X8_at : yX8_at.cls ≠ "java/lang/invoke/MethodHandle" ∧ yX8_at.cls ≠ "java/lang/invoke/VarHandle" ∧ (parseMethodDescriptor yX8_at.desc).map (fun d => d.parameters.length) = some 1 := by decide +kernel
set_option maxRecDepth 20000 in
theorem in_X8_at_X8 : ∀ w ∈ u_ws RX8 TX8 10, w ∈ wsX8_at := by decide +kernel
set_option maxRecDepth 20000 in
theorem in_X8_at_X5 : ∀ w ∈ u_ws RX5 TX5 5, w ∈ wsX8_at := by decide +kernel
set_option maxRecDepth 20000 in
theorem lk_X8_at_0 : Cond.fieldLink RX8 19 "TwoHousesOneChild" "now" "LTwoHousesOneChild$Standing;" ∈ wsX8_at := by decide +kernel
set_option maxRecDepth 20000 in
theorem lk_X8_at_1 : Cond.fieldLink RX8 136 "TwoHousesOneChild$Standing" "plan" "J" ∈ wsX8_at := by decide +kernel
set_option maxHeartbeats 4000000 in
set_option maxRecDepth 100000 in
theorem ct_X8_at (l : Launch) (dC : Nat → ClassId) (dI : Nat → Nat → Nat) (cI cJ cB cZ : ClassId) (a_t a_t_now a_t_text a_t_slotZero a_t_slotOne a_t_wishes a_t_planner a_t_mending a_t_reading a_t_otherReading a_t_now_paper a_t_now_timesLate a_t_now_paid : Nat) (t_theYear : Int32) (t_now_plan : Int64) (t_now_isKept : Int32) (p1 : Int32) (rr : Int32) (u0 : Unit) (h : fn_X8_at t_now_plan p1 = some (rr, u0)) : zz_M l yX8_at wsX8_at ({ frames := 1, cells := 0, slots := 0, locals := 22 }) (dC, dI) (zz_T cI cJ cB cZ) [.ref a_t, .int p1] [(a_t, .inr (7, [.ref a_t_text, .ref a_t_now, .ref a_t_slotZero, .ref a_t_slotOne, .ref a_t_wishes, .ref a_t_planner, .ref a_t_mending, .ref a_t_reading, .ref a_t_otherReading, .int t_theYear])), (a_t_now, .inr (4, [.ref a_t_now_paper, .long t_now_plan, .ref a_t_now_timesLate, .ref a_t_now_paid, .int t_now_isKept]))] (zz_QI (dC, dI) (zz_T cI cJ cB cZ) (rr, u0) (fun (u : Unit) => [(a_t, .inr (7, [.ref a_t_text, .ref a_t_now, .ref a_t_slotZero, .ref a_t_slotOne, .ref a_t_wishes, .ref a_t_planner, .ref a_t_mending, .ref a_t_reading, .ref a_t_otherReading, .int t_theYear])), (a_t_now, .inr (4, [.ref a_t_now_paper, .long t_now_plan, .ref a_t_now_timesLate, .ref a_t_now_paid, .int t_now_isKept]))])) := by
  unfold fn_X8_at at h
  refine zz_of (by decide) rfl (Nat.le_of_ble_eq_true rfl) ?_
  intro p e s m below meth c A ls hx hb hr hml hts hown hlocks hA hS hP hK hD hl
  have hown : s.vm.findClass RX8 = some m.cls := hown
  have hl : lv_has ls 2 [(0, .ref a_t), (1, .int p1)] := hl
  refine lv_iload_n hx hb dX8_at_0 rfl (lv_at hl 1 rfl) ?_
  obtain ⟨x1, u2, he3, h⟩ := zz_b2E h
  refine zz_PI (As := [.int p1]) (rest := []) ⟨hx, hb, hml, hown, hts⟩ (ct_X8_isNight l dC dI cI cJ cB cZ p1 x1 u2 he3) gX8_at_X8_isNight hd_X8_isNight rfl rfl rfl ⟨Nat.le_of_ble_eq_true rfl, Nat.le_of_ble_eq_true rfl⟩ ⟨Nat.le_of_ble_eq_true rfl, Nat.le_of_ble_eq_true rfl⟩ rfl rfl (Nat.le_of_ble_eq_true rfl) dX8_at_1 hl.1 hP hK hS hA (fun H locs hP hS => ?_)
  refine lv_if_eq (tgt := 21) hx hb dX8_at_4 (by decide) (fun c4 => ?_) (fun c4 => ?_)
  · have h := zz_if c4 h
    refine lv_iconst (v := (-1)) hx hb dX8_at_21 (by decide) ?_
    exact zz_iret () hx hb hr hlocks dX8_at_22 (Option.some.inj h) hP hK hD hS
  · have h := zz_ifn c4 h
    refine lv_aload_n hx hb dX8_at_7 rfl (lv_at hl 0 rfl) ?_
    refine va_get (ci := 7) (v := .ref a_t_now) (C := RX8) (T := TX8) (N := 10) hx hb hts in_X8_at_X8 hown hK hP 0 rfl rfl 1 (by decide) (hts _ lk_X8_at_0) (fun _ h9 => h9) rfl dX8_at_8 ?_
    refine va_get (ci := 4) (v := .long t_now_plan) (C := RX5) (T := TX5) (N := 5) hx hb hts in_X8_at_X5 hown hK hP 1 rfl rfl 1 (by decide) (hts _ lk_X8_at_1) (fun _ h9 => h9) rfl dX8_at_11 ?_
    refine lv_iload_n hx hb dX8_at_14 rfl (lv_at hl 1 rfl) ?_
    obtain ⟨x5, u6, he7, h⟩ := zz_b2E h
    refine zz_PI (As := [.long t_now_plan, .int p1]) (rest := []) ⟨hx, hb, hml, hown, hts⟩ (ct_X1_houseAt l dC dI cI cJ cB cZ t_now_plan p1 x5 u6 he7) gX8_at_X1_houseAt hd_X1_houseAt rfl rfl rfl ⟨Nat.le_of_ble_eq_true rfl, Nat.le_of_ble_eq_true rfl⟩ ⟨Nat.le_of_ble_eq_true rfl, Nat.le_of_ble_eq_true rfl⟩ rfl rfl (Nat.le_of_ble_eq_true rfl) dX8_at_15 hl.1 hP hK hS hA (fun H locs hP hS => ?_)
    refine lv_goto (tgt := 22) hx hb dX8_at_18 (by decide) ?_
    exact zz_iret () hx hb hr hlocks dX8_at_22 (Option.some.inj h) hP hK hD hS
theorem hd_X8_notAsDecided : yX8_notAsDecided.cls ≠ "java/lang/invoke/MethodHandle" ∧ yX8_notAsDecided.cls ≠ "java/lang/invoke/VarHandle" ∧ (parseMethodDescriptor yX8_notAsDecided.desc).map (fun d => d.parameters.length) = some 0 := by decide +kernel
set_option maxRecDepth 20000 in
theorem in_X8_notAsDecided_X4 : ∀ w ∈ u_ws RX4 TX4 3, w ∈ wsX8_notAsDecided := by decide +kernel
set_option maxRecDepth 20000 in
theorem in_X8_notAsDecided_X8 : ∀ w ∈ u_ws RX8 TX8 10, w ∈ wsX8_notAsDecided := by decide +kernel
set_option maxRecDepth 20000 in
theorem in_X8_notAsDecided_X5 : ∀ w ∈ u_ws RX5 TX5 5, w ∈ wsX8_notAsDecided := by decide +kernel
set_option maxRecDepth 20000 in
theorem lk_X8_notAsDecided_0 : Cond.fieldLink RX8 232 "TwoHousesOneChild$Reading" "zero" "J" ∈ wsX8_notAsDecided := by decide +kernel
set_option maxRecDepth 20000 in
theorem lk_X8_notAsDecided_1 : Cond.fieldLink RX8 19 "TwoHousesOneChild" "now" "LTwoHousesOneChild$Standing;" ∈ wsX8_notAsDecided := by decide +kernel
set_option maxRecDepth 20000 in
theorem lk_X8_notAsDecided_2 : Cond.fieldLink RX8 136 "TwoHousesOneChild$Standing" "plan" "J" ∈ wsX8_notAsDecided := by decide +kernel
set_option maxRecDepth 20000 in
theorem lk_X8_notAsDecided_3 : Cond.fieldLink RX8 226 "TwoHousesOneChild$Reading" "one" "J" ∈ wsX8_notAsDecided := by decide +kernel
set_option maxRecDepth 20000 in
theorem lk_X8_notAsDecided_4 : Cond.constantLong RX8 235 (-1) ∈ wsX8_notAsDecided := by decide +kernel
set_option maxHeartbeats 4000000 in
set_option maxRecDepth 100000 in
theorem ct_X8_notAsDecided (l : Launch) (dC : Nat → ClassId) (dI : Nat → Nat → Nat) (cI cJ cB cZ : ClassId) (a_t a_t_now a_t_now_paper a_t_now_paper_numbers a_t_now_paper_ones a_t_now_paper_ranks a_t_now_paper_told a_t_now_paper_turnsByYear a_t_reading a_t_text a_t_slotZero a_t_slotOne a_t_wishes a_t_planner a_t_mending a_t_otherReading a_t_now_timesLate a_t_now_paid : Nat) (t_theYear : Int32) (t_now_plan : Int64) (t_now_isKept : Int32) (t_now_paper_size : Int32) (t_now_paper_numbers : (Nat → Int32)) (t_now_paper_ones : (Nat → Int64)) (t_now_paper_ranks : (Nat → Int32)) (t_now_paper_told : (Nat → Int64)) (t_now_paper_turnsByYear : (Nat → Int32)) (t_reading_zero : Int64) (t_reading_one : Int64) (t_reading_fights : Int64) (rr : Int64) (o1 : Int64) (o2 : Int64) (o3 : Int64) (h : fn_X8_notAsDecided t_theYear t_now_plan t_now_paper_size t_now_paper_numbers t_now_paper_ones t_now_paper_ranks t_now_paper_told t_now_paper_turnsByYear = some (rr, o1, o2, o3)) : zz_M l yX8_notAsDecided wsX8_notAsDecided ({ frames := 4, cells := 0, slots := 0, locals := 98 }) (dC, dI) (zz_T cI cJ cB cZ) [.ref a_t] [(a_t, .inr (7, [.ref a_t_text, .ref a_t_now, .ref a_t_slotZero, .ref a_t_slotOne, .ref a_t_wishes, .ref a_t_planner, .ref a_t_mending, .ref a_t_reading, .ref a_t_otherReading, .int t_theYear])), (a_t_now, .inr (4, [.ref a_t_now_paper, .long t_now_plan, .ref a_t_now_timesLate, .ref a_t_now_paid, .int t_now_isKept])), (a_t_now_paper, .inr (1, [.int t_now_paper_size, .ref a_t_now_paper_numbers, .ref a_t_now_paper_ranks, .ref a_t_now_paper_told, .ref a_t_now_paper_ones, .ref a_t_now_paper_turnsByYear])), (a_t_now_paper_numbers, .inl (cI, 10, .inl t_now_paper_numbers)), (a_t_now_paper_ones, .inl (cJ, 10, .inr (.inl t_now_paper_ones))), (a_t_now_paper_ranks, .inl (cI, 10, .inl t_now_paper_ranks)), (a_t_now_paper_told, .inl (cJ, 10, .inr (.inl t_now_paper_told))), (a_t_now_paper_turnsByYear, .inl (cZ, 10, .inl t_now_paper_turnsByYear)), (a_t_reading, .inr (3, [.long t_reading_zero, .long t_reading_one, .long t_reading_fights]))] (zz_QL (dC, dI) (zz_T cI cJ cB cZ) (rr, o1, o2, o3) (fun (u : Int64 × Int64 × Int64) => [(a_t, .inr (7, [.ref a_t_text, .ref a_t_now, .ref a_t_slotZero, .ref a_t_slotOne, .ref a_t_wishes, .ref a_t_planner, .ref a_t_mending, .ref a_t_reading, .ref a_t_otherReading, .int t_theYear])), (a_t_now, .inr (4, [.ref a_t_now_paper, .long t_now_plan, .ref a_t_now_timesLate, .ref a_t_now_paid, .int t_now_isKept])), (a_t_now_paper, .inr (1, [.int t_now_paper_size, .ref a_t_now_paper_numbers, .ref a_t_now_paper_ranks, .ref a_t_now_paper_told, .ref a_t_now_paper_ones, .ref a_t_now_paper_turnsByYear])), (a_t_now_paper_numbers, .inl (cI, 10, .inl t_now_paper_numbers)), (a_t_now_paper_ones, .inl (cJ, 10, .inr (.inl t_now_paper_ones))), (a_t_now_paper_ranks, .inl (cI, 10, .inl t_now_paper_ranks)), (a_t_now_paper_told, .inl (cJ, 10, .inr (.inl t_now_paper_told))), (a_t_now_paper_turnsByYear, .inl (cZ, 10, .inl t_now_paper_turnsByYear)), (a_t_reading, .inr (3, [.long u.1, .long u.2.1, .long u.2.2]))])) := by
  unfold fn_X8_notAsDecided at h
  refine zz_of (by decide) rfl (Nat.le_of_ble_eq_true rfl) ?_
  intro p e s m below meth c A ls hx hb hr hml hts hown hlocks hA hS hP hK hD hl
  have hown : s.vm.findClass RX8 = some m.cls := hown
  have hl : lv_has ls 2 [(0, .ref a_t)] := hl
  refine lv_aload_n hx hb dX8_notAsDecided_0 rfl (lv_at hl 0 rfl) ?_
  obtain ⟨x1, x2, x3, he4, h⟩ := zz_b3E h
  refine zz_VR (q := (RX8, TX8, 10)) (As := []) (rest := []) (wr := []) (wm := [(a_t, .inr (7, [.ref a_t_text, .ref a_t_now, .ref a_t_slotZero, .ref a_t_slotOne, .ref a_t_wishes, .ref a_t_planner, .ref a_t_mending, .ref a_t_reading, .ref a_t_otherReading, .int t_theYear])), (a_t_now, .inr (4, [.ref a_t_now_paper, .long t_now_plan, .ref a_t_now_timesLate, .ref a_t_now_paid, .int t_now_isKept])), (a_t_now_paper, .inr (1, [.int t_now_paper_size, .ref a_t_now_paper_numbers, .ref a_t_now_paper_ranks, .ref a_t_now_paper_told, .ref a_t_now_paper_ones, .ref a_t_now_paper_turnsByYear])), (a_t_now_paper_numbers, .inl (cI, 10, .inl t_now_paper_numbers)), (a_t_now_paper_ones, .inl (cJ, 10, .inr (.inl t_now_paper_ones))), (a_t_now_paper_ranks, .inl (cI, 10, .inl t_now_paper_ranks)), (a_t_now_paper_told, .inl (cJ, 10, .inr (.inl t_now_paper_told))), (a_t_now_paper_turnsByYear, .inl (cZ, 10, .inl t_now_paper_turnsByYear)), (a_t_reading, .inr (3, [.long x1, .long x2, .long x3]))]) ⟨hx, hb, hml, hown, hts⟩ (ct_X8_readPaper l dC dI cI cJ cB cZ a_t a_t_now a_t_now_paper a_t_now_paper_numbers a_t_now_paper_ones a_t_now_paper_ranks a_t_now_paper_told a_t_now_paper_turnsByYear a_t_reading a_t_text a_t_slotZero a_t_slotOne a_t_wishes a_t_planner a_t_mending a_t_otherReading a_t_now_timesLate a_t_now_paid t_theYear t_now_plan t_now_isKept t_now_paper_size t_now_paper_numbers t_now_paper_ones t_now_paper_ranks t_now_paper_told t_now_paper_turnsByYear t_reading_zero t_reading_one t_reading_fights x1 x2 x3 he4) gX8_notAsDecided_X8_readPaper hd_X8_readPaper rfl rfl rfl ⟨Nat.le_of_ble_eq_true rfl, Nat.le_of_ble_eq_true rfl⟩ ⟨Nat.le_of_ble_eq_true rfl, Nat.le_of_ble_eq_true rfl⟩ rfl rfl (Nat.le_of_ble_eq_true rfl) dX8_notAsDecided_1 hl.1 rfl (ci := 7) rfl (q0 := 0) rfl hP hK hD hS hA [0, 1, 2, 3, 4, 5, 6, 7, 8] [] [0, 1, 2, 3, 4, 5, 6, 7, 8] rfl rfl (by decide) (by decide) (by decide) (by decide) rfl (fun H locs hP hD hS => ?_)
  refine lv_astore_n (lv' := [(1, .ref a_t_reading), (0, .ref a_t)]) hx hb dX8_notAsDecided_4 rfl hl (by decide) rfl (fun ls hl => ?_)
  refine lv_aload_n hx hb dX8_notAsDecided_5 rfl (lv_at hl 0 rfl) ?_
  refine va_get (ci := 3) (v := .long x1) (C := RX4) (T := TX4) (N := 3) hx hb hts in_X8_notAsDecided_X4 hown hK hP 8 rfl rfl 0 (by decide) (hts _ lk_X8_notAsDecided_0) (fun _ h9 => h9) rfl dX8_notAsDecided_6 ?_
  refine lv_aload_n hx hb dX8_notAsDecided_9 rfl (lv_at hl 1 rfl) ?_
  refine va_get (ci := 7) (v := .ref a_t_now) (C := RX8) (T := TX8) (N := 10) hx hb hts in_X8_notAsDecided_X8 hown hK hP 0 rfl rfl 1 (by decide) (hts _ lk_X8_notAsDecided_1) (fun _ h9 => h9) rfl dX8_notAsDecided_10 ?_
  refine va_get (ci := 4) (v := .long t_now_plan) (C := RX5) (T := TX5) (N := 5) hx hb hts in_X8_notAsDecided_X5 hown hK hP 1 rfl rfl 1 (by decide) (hts _ lk_X8_notAsDecided_2) (fun _ h9 => h9) rfl dX8_notAsDecided_13 ?_
  refine lv_land hx hb dX8_notAsDecided_16 ?_
  refine lv_aload_n hx hb dX8_notAsDecided_17 rfl (lv_at hl 0 rfl) ?_
  refine va_get (ci := 3) (v := .long x2) (C := RX4) (T := TX4) (N := 3) hx hb hts in_X8_notAsDecided_X4 hown hK hP 8 rfl rfl 1 (by decide) (hts _ lk_X8_notAsDecided_3) (fun _ h9 => h9) rfl dX8_notAsDecided_18 ?_
  refine lv_aload_n hx hb dX8_notAsDecided_21 rfl (lv_at hl 1 rfl) ?_
  refine va_get (ci := 7) (v := .ref a_t_now) (C := RX8) (T := TX8) (N := 10) hx hb hts in_X8_notAsDecided_X8 hown hK hP 0 rfl rfl 1 (by decide) (hts _ lk_X8_notAsDecided_1) (fun _ h9 => h9) rfl dX8_notAsDecided_22 ?_
  refine va_get (ci := 4) (v := .long t_now_plan) (C := RX5) (T := TX5) (N := 5) hx hb hts in_X8_notAsDecided_X5 hown hK hP 1 rfl rfl 1 (by decide) (hts _ lk_X8_notAsDecided_2) (fun _ h9 => h9) rfl dX8_notAsDecided_25 ?_
  refine lv_ldc2 (v := (-1)) hx hb hown (hts _ lk_X8_notAsDecided_4) dX8_notAsDecided_28 ?_
  refine lv_lxor hx hb dX8_notAsDecided_31 ?_
  refine lv_land hx hb dX8_notAsDecided_32 ?_
  refine lv_lor hx hb dX8_notAsDecided_33 ?_
  exact zz_lret (x1, x2, x3) hx hb hr hlocks dX8_notAsDecided_34 (Option.some.inj h) hP hK hD hS
theorem hd_X8_judge : yX8_judge.cls ≠ "java/lang/invoke/MethodHandle" ∧ yX8_judge.cls ≠ "java/lang/invoke/VarHandle" ∧ (parseMethodDescriptor yX8_judge.desc).map (fun d => d.parameters.length) = some 0 := by decide +kernel
set_option maxHeartbeats 4000000 in
set_option maxRecDepth 100000 in
theorem ct_X8_judge (l : Launch) (dC : Nat → ClassId) (dI : Nat → Nat → Nat) (cI cJ cB cZ : ClassId) (a_t a_t_now a_t_now_paper a_t_now_paper_numbers a_t_now_paper_ones a_t_now_paper_ranks a_t_now_paper_told a_t_now_paper_turnsByYear a_t_reading a_t_text a_t_slotZero a_t_slotOne a_t_wishes a_t_planner a_t_mending a_t_otherReading a_t_now_timesLate a_t_now_paid : Nat) (t_theYear : Int32) (t_now_plan : Int64) (t_now_isKept : Int32) (t_now_paper_size : Int32) (t_now_paper_numbers : (Nat → Int32)) (t_now_paper_ones : (Nat → Int64)) (t_now_paper_ranks : (Nat → Int32)) (t_now_paper_told : (Nat → Int64)) (t_now_paper_turnsByYear : (Nat → Int32)) (t_reading_zero : Int64) (t_reading_one : Int64) (t_reading_fights : Int64) (rr : Int32) (o1 : Int64) (o2 : Int64) (o3 : Int64) (h : fn_X8_judge t_theYear t_now_plan t_now_paper_size t_now_paper_numbers t_now_paper_ones t_now_paper_ranks t_now_paper_told t_now_paper_turnsByYear = some (rr, o1, o2, o3)) : zz_M l yX8_judge wsX8_judge ({ frames := 5, cells := 0, slots := 0, locals := 119 }) (dC, dI) (zz_T cI cJ cB cZ) [.ref a_t] [(a_t, .inr (7, [.ref a_t_text, .ref a_t_now, .ref a_t_slotZero, .ref a_t_slotOne, .ref a_t_wishes, .ref a_t_planner, .ref a_t_mending, .ref a_t_reading, .ref a_t_otherReading, .int t_theYear])), (a_t_now, .inr (4, [.ref a_t_now_paper, .long t_now_plan, .ref a_t_now_timesLate, .ref a_t_now_paid, .int t_now_isKept])), (a_t_now_paper, .inr (1, [.int t_now_paper_size, .ref a_t_now_paper_numbers, .ref a_t_now_paper_ranks, .ref a_t_now_paper_told, .ref a_t_now_paper_ones, .ref a_t_now_paper_turnsByYear])), (a_t_now_paper_numbers, .inl (cI, 10, .inl t_now_paper_numbers)), (a_t_now_paper_ones, .inl (cJ, 10, .inr (.inl t_now_paper_ones))), (a_t_now_paper_ranks, .inl (cI, 10, .inl t_now_paper_ranks)), (a_t_now_paper_told, .inl (cJ, 10, .inr (.inl t_now_paper_told))), (a_t_now_paper_turnsByYear, .inl (cZ, 10, .inl t_now_paper_turnsByYear)), (a_t_reading, .inr (3, [.long t_reading_zero, .long t_reading_one, .long t_reading_fights]))] (zz_QI (dC, dI) (zz_T cI cJ cB cZ) (rr, o1, o2, o3) (fun (u : Int64 × Int64 × Int64) => [(a_t, .inr (7, [.ref a_t_text, .ref a_t_now, .ref a_t_slotZero, .ref a_t_slotOne, .ref a_t_wishes, .ref a_t_planner, .ref a_t_mending, .ref a_t_reading, .ref a_t_otherReading, .int t_theYear])), (a_t_now, .inr (4, [.ref a_t_now_paper, .long t_now_plan, .ref a_t_now_timesLate, .ref a_t_now_paid, .int t_now_isKept])), (a_t_now_paper, .inr (1, [.int t_now_paper_size, .ref a_t_now_paper_numbers, .ref a_t_now_paper_ranks, .ref a_t_now_paper_told, .ref a_t_now_paper_ones, .ref a_t_now_paper_turnsByYear])), (a_t_now_paper_numbers, .inl (cI, 10, .inl t_now_paper_numbers)), (a_t_now_paper_ones, .inl (cJ, 10, .inr (.inl t_now_paper_ones))), (a_t_now_paper_ranks, .inl (cI, 10, .inl t_now_paper_ranks)), (a_t_now_paper_told, .inl (cJ, 10, .inr (.inl t_now_paper_told))), (a_t_now_paper_turnsByYear, .inl (cZ, 10, .inl t_now_paper_turnsByYear)), (a_t_reading, .inr (3, [.long u.1, .long u.2.1, .long u.2.2]))])) := by
  unfold fn_X8_judge at h
  refine zz_of (by decide) rfl (Nat.le_of_ble_eq_true rfl) ?_
  intro p e s m below meth c A ls hx hb hr hml hts hown hlocks hA hS hP hK hD hl
  have hown : s.vm.findClass RX8 = some m.cls := hown
  have hl : lv_has ls 1 [(0, .ref a_t)] := hl
  refine lv_aload_n hx hb dX8_judge_0 rfl (lv_at hl 0 rfl) ?_
  obtain ⟨x1, x2, x3, x4, he5, h⟩ := zz_b4E h
  refine zz_VL (q := (RX8, TX8, 10)) (As := []) (rest := []) (wr := []) (wm := [(a_t, .inr (7, [.ref a_t_text, .ref a_t_now, .ref a_t_slotZero, .ref a_t_slotOne, .ref a_t_wishes, .ref a_t_planner, .ref a_t_mending, .ref a_t_reading, .ref a_t_otherReading, .int t_theYear])), (a_t_now, .inr (4, [.ref a_t_now_paper, .long t_now_plan, .ref a_t_now_timesLate, .ref a_t_now_paid, .int t_now_isKept])), (a_t_now_paper, .inr (1, [.int t_now_paper_size, .ref a_t_now_paper_numbers, .ref a_t_now_paper_ranks, .ref a_t_now_paper_told, .ref a_t_now_paper_ones, .ref a_t_now_paper_turnsByYear])), (a_t_now_paper_numbers, .inl (cI, 10, .inl t_now_paper_numbers)), (a_t_now_paper_ones, .inl (cJ, 10, .inr (.inl t_now_paper_ones))), (a_t_now_paper_ranks, .inl (cI, 10, .inl t_now_paper_ranks)), (a_t_now_paper_told, .inl (cJ, 10, .inr (.inl t_now_paper_told))), (a_t_now_paper_turnsByYear, .inl (cZ, 10, .inl t_now_paper_turnsByYear)), (a_t_reading, .inr (3, [.long x2, .long x3, .long x4]))]) ⟨hx, hb, hml, hown, hts⟩ (ct_X8_notAsDecided l dC dI cI cJ cB cZ a_t a_t_now a_t_now_paper a_t_now_paper_numbers a_t_now_paper_ones a_t_now_paper_ranks a_t_now_paper_told a_t_now_paper_turnsByYear a_t_reading a_t_text a_t_slotZero a_t_slotOne a_t_wishes a_t_planner a_t_mending a_t_otherReading a_t_now_timesLate a_t_now_paid t_theYear t_now_plan t_now_isKept t_now_paper_size t_now_paper_numbers t_now_paper_ones t_now_paper_ranks t_now_paper_told t_now_paper_turnsByYear t_reading_zero t_reading_one t_reading_fights x1 x2 x3 x4 he5) gX8_judge_X8_notAsDecided hd_X8_notAsDecided rfl rfl rfl ⟨Nat.le_of_ble_eq_true rfl, Nat.le_of_ble_eq_true rfl⟩ ⟨Nat.le_of_ble_eq_true rfl, Nat.le_of_ble_eq_true rfl⟩ rfl rfl (Nat.le_of_ble_eq_true rfl) dX8_judge_1 hl.1 rfl (ci := 7) rfl (q0 := 0) rfl hP hK hD hS hA [0, 1, 2, 3, 4, 5, 6, 7, 8] [] [0, 1, 2, 3, 4, 5, 6, 7, 8] rfl rfl (by decide) (by decide) (by decide) (by decide) rfl (fun H locs hP hD hS => ?_)
  refine lv_iconst (v := 0) hx hb dX8_judge_4 (by decide) ?_
  obtain ⟨x6, u7, he8, h⟩ := zz_b2E h
  refine zz_PI (As := [.long x1, .int 0]) (rest := []) ⟨hx, hb, hml, hown, hts⟩ (ct_X1_pick l dC dI cI cJ cB cZ x1 (0 : Int32) x6 u7 he8) gX8_judge_X1_pick hd_X1_pick rfl rfl rfl ⟨Nat.le_of_ble_eq_true rfl, Nat.le_of_ble_eq_true rfl⟩ ⟨Nat.le_of_ble_eq_true rfl, Nat.le_of_ble_eq_true rfl⟩ rfl rfl (Nat.le_of_ble_eq_true rfl) dX8_judge_5 hl.1 hP hK hS hA (fun H locs hP hS => ?_)
  exact zz_iret (x2, x3, x4) hx hb hr hlocks dX8_judge_8 (Option.some.inj h) hP hK hD hS
theorem hd_X8_counts : yX8_counts.cls ≠ "java/lang/invoke/MethodHandle" ∧ yX8_counts.cls ≠ "java/lang/invoke/VarHandle" ∧ (parseMethodDescriptor yX8_counts.desc).map (fun d => d.parameters.length) = some 1 := by decide +kernel
set_option maxRecDepth 20000 in
theorem in_X8_counts_X8 : ∀ w ∈ u_ws RX8 TX8 10, w ∈ wsX8_counts := by decide +kernel
set_option maxRecDepth 20000 in
theorem in_X8_counts_X5 : ∀ w ∈ u_ws RX5 TX5 5, w ∈ wsX8_counts := by decide +kernel
set_option maxRecDepth 20000 in
theorem lk_X8_counts_0 : Cond.fieldLink RX8 19 "TwoHousesOneChild" "now" "LTwoHousesOneChild$Standing;" ∈ wsX8_counts := by decide +kernel
set_option maxRecDepth 20000 in
theorem lk_X8_counts_1 : Cond.fieldLink RX8 136 "TwoHousesOneChild$Standing" "plan" "J" ∈ wsX8_counts := by decide +kernel
set_option maxHeartbeats 4000000 in
set_option maxRecDepth 100000 in
theorem ct_X8_counts (l : Launch) (dC : Nat → ClassId) (dI : Nat → Nat → Nat) (cI cJ cB cZ : ClassId) (a_t a_t_now a_t_text a_t_slotZero a_t_slotOne a_t_wishes a_t_planner a_t_mending a_t_reading a_t_otherReading a_t_now_paper a_t_now_timesLate a_t_now_paid : Nat) (t_theYear : Int32) (t_now_plan : Int64) (t_now_isKept : Int32) (p1 : Int32) (rr : Int32) (u0 : Unit) (h : fn_X8_counts t_now_plan p1 = some (rr, u0)) : zz_M l yX8_counts wsX8_counts ({ frames := 1, cells := 0, slots := 0, locals := 24 }) (dC, dI) (zz_T cI cJ cB cZ) [.ref a_t, .int p1] [(a_t, .inr (7, [.ref a_t_text, .ref a_t_now, .ref a_t_slotZero, .ref a_t_slotOne, .ref a_t_wishes, .ref a_t_planner, .ref a_t_mending, .ref a_t_reading, .ref a_t_otherReading, .int t_theYear])), (a_t_now, .inr (4, [.ref a_t_now_paper, .long t_now_plan, .ref a_t_now_timesLate, .ref a_t_now_paid, .int t_now_isKept]))] (zz_QI (dC, dI) (zz_T cI cJ cB cZ) (rr, u0) (fun (u : Unit) => [(a_t, .inr (7, [.ref a_t_text, .ref a_t_now, .ref a_t_slotZero, .ref a_t_slotOne, .ref a_t_wishes, .ref a_t_planner, .ref a_t_mending, .ref a_t_reading, .ref a_t_otherReading, .int t_theYear])), (a_t_now, .inr (4, [.ref a_t_now_paper, .long t_now_plan, .ref a_t_now_timesLate, .ref a_t_now_paid, .int t_now_isKept]))])) := by
  unfold fn_X8_counts at h
  refine zz_of (by decide) rfl (Nat.le_of_ble_eq_true rfl) ?_
  intro p e s m below meth c A ls hx hb hr hml hts hown hlocks hA hS hP hK hD hl
  have hown : s.vm.findClass RX8 = some m.cls := hown
  have hl : lv_has ls 2 [(0, .ref a_t), (1, .int p1)] := hl
  refine lv_iload_n hx hb dX8_counts_0 rfl (lv_at hl 1 rfl) ?_
  by_cases c1_0 : p1 = 0
  · have h := zz_if c1_0 h
    refine lv_tableIn (tgt := 36) hx hb dX8_counts_1 (by rw [c1_0]; decide) (by rw [c1_0]; decide) (off := 35) (by rw [c1_0]; rfl) (by decide) ?_
    refine lv_aload_n hx hb dX8_counts_36 rfl (lv_at hl 0 rfl) ?_
    refine va_get (ci := 7) (v := .ref a_t_now) (C := RX8) (T := TX8) (N := 10) hx hb hts in_X8_counts_X8 hown hK hP 0 rfl rfl 1 (by decide) (hts _ lk_X8_counts_0) (fun _ h9 => h9) rfl dX8_counts_37 ?_
    refine va_get (ci := 4) (v := .long t_now_plan) (C := RX5) (T := TX5) (N := 5) hx hb hts in_X8_counts_X5 hown hK hP 1 rfl rfl 1 (by decide) (hts _ lk_X8_counts_1) (fun _ h9 => h9) rfl dX8_counts_40 ?_
    refine lv_iconst (v := 0) hx hb dX8_counts_43 (by decide) ?_
    obtain ⟨x2, u3, he4, h⟩ := zz_b2E h
    refine zz_PL (As := [.long t_now_plan, .int 0]) (rest := []) ⟨hx, hb, hml, hown, hts⟩ (ct_X1_atHouse l dC dI cI cJ cB cZ t_now_plan (0 : Int32) x2 u3 he4) gX8_counts_X1_atHouse hd_X1_atHouse rfl rfl rfl ⟨Nat.le_of_ble_eq_true rfl, Nat.le_of_ble_eq_true rfl⟩ ⟨Nat.le_of_ble_eq_true rfl, Nat.le_of_ble_eq_true rfl⟩ rfl rfl (Nat.le_of_ble_eq_true rfl) dX8_counts_44 hl.1 hP hK hS hA (fun H locs hP hS => ?_)
    obtain ⟨x5, u6, he7, h⟩ := zz_b2E h
    refine zz_PI (As := [.long x2]) (rest := []) ⟨hx, hb, hml, hown, hts⟩ (ct_J13_bitCount_95d88 l dC dI cI cJ cB cZ x2 x5 u6 he7) gX8_counts_J13_bitCount_95d88 hd_J13_bitCount_95d88 rfl rfl rfl ⟨Nat.le_of_ble_eq_true rfl, Nat.le_of_ble_eq_true rfl⟩ ⟨Nat.le_of_ble_eq_true rfl, Nat.le_of_ble_eq_true rfl⟩ rfl rfl (Nat.le_of_ble_eq_true rfl) dX8_counts_47 hl.1 hP hK hS hA (fun H locs hP hS => ?_)
    exact zz_iret () hx hb hr hlocks dX8_counts_50 (Option.some.inj h) hP hK hD hS
  have h := zz_ifn c1_0 h
  by_cases c1_1 : p1 = 1
  · have h := zz_if c1_1 h
    refine lv_tableIn (tgt := 51) hx hb dX8_counts_1 (by rw [c1_1]; decide) (by rw [c1_1]; decide) (off := 50) (by rw [c1_1]; rfl) (by decide) ?_
    refine lv_aload_n hx hb dX8_counts_51 rfl (lv_at hl 0 rfl) ?_
    refine va_get (ci := 7) (v := .ref a_t_now) (C := RX8) (T := TX8) (N := 10) hx hb hts in_X8_counts_X8 hown hK hP 0 rfl rfl 1 (by decide) (hts _ lk_X8_counts_0) (fun _ h9 => h9) rfl dX8_counts_52 ?_
    refine va_get (ci := 4) (v := .long t_now_plan) (C := RX5) (T := TX5) (N := 5) hx hb hts in_X8_counts_X5 hown hK hP 1 rfl rfl 1 (by decide) (hts _ lk_X8_counts_1) (fun _ h9 => h9) rfl dX8_counts_55 ?_
    refine lv_iconst (v := 1) hx hb dX8_counts_58 (by decide) ?_
    obtain ⟨x8, u9, he10, h⟩ := zz_b2E h
    refine zz_PL (As := [.long t_now_plan, .int 1]) (rest := []) ⟨hx, hb, hml, hown, hts⟩ (ct_X1_atHouse l dC dI cI cJ cB cZ t_now_plan (1 : Int32) x8 u9 he10) gX8_counts_X1_atHouse hd_X1_atHouse rfl rfl rfl ⟨Nat.le_of_ble_eq_true rfl, Nat.le_of_ble_eq_true rfl⟩ ⟨Nat.le_of_ble_eq_true rfl, Nat.le_of_ble_eq_true rfl⟩ rfl rfl (Nat.le_of_ble_eq_true rfl) dX8_counts_59 hl.1 hP hK hS hA (fun H locs hP hS => ?_)
    obtain ⟨x11, u12, he13, h⟩ := zz_b2E h
    refine zz_PI (As := [.long x8]) (rest := []) ⟨hx, hb, hml, hown, hts⟩ (ct_J13_bitCount_95d88 l dC dI cI cJ cB cZ x8 x11 u12 he13) gX8_counts_J13_bitCount_95d88 hd_J13_bitCount_95d88 rfl rfl rfl ⟨Nat.le_of_ble_eq_true rfl, Nat.le_of_ble_eq_true rfl⟩ ⟨Nat.le_of_ble_eq_true rfl, Nat.le_of_ble_eq_true rfl⟩ rfl rfl (Nat.le_of_ble_eq_true rfl) dX8_counts_62 hl.1 hP hK hS hA (fun H locs hP hS => ?_)
    exact zz_iret () hx hb hr hlocks dX8_counts_65 (Option.some.inj h) hP hK hD hS
  have h := zz_ifn c1_1 h
  by_cases c1_2 : p1 = 2
  · have h := zz_if c1_2 h
    refine lv_tableIn (tgt := 66) hx hb dX8_counts_1 (by rw [c1_2]; decide) (by rw [c1_2]; decide) (off := 65) (by rw [c1_2]; rfl) (by decide) ?_
    refine lv_aload_n hx hb dX8_counts_66 rfl (lv_at hl 0 rfl) ?_
    refine va_get (ci := 7) (v := .ref a_t_now) (C := RX8) (T := TX8) (N := 10) hx hb hts in_X8_counts_X8 hown hK hP 0 rfl rfl 1 (by decide) (hts _ lk_X8_counts_0) (fun _ h9 => h9) rfl dX8_counts_67 ?_
    refine va_get (ci := 4) (v := .long t_now_plan) (C := RX5) (T := TX5) (N := 5) hx hb hts in_X8_counts_X5 hown hK hP 1 rfl rfl 1 (by decide) (hts _ lk_X8_counts_1) (fun _ h9 => h9) rfl dX8_counts_70 ?_
    obtain ⟨x14, u15, he16, h⟩ := zz_b2E h
    refine zz_PL (As := [.long t_now_plan]) (rest := []) ⟨hx, hb, hml, hown, hts⟩ (ct_X1_handings l dC dI cI cJ cB cZ t_now_plan x14 u15 he16) gX8_counts_X1_handings hd_X1_handings rfl rfl rfl ⟨Nat.le_of_ble_eq_true rfl, Nat.le_of_ble_eq_true rfl⟩ ⟨Nat.le_of_ble_eq_true rfl, Nat.le_of_ble_eq_true rfl⟩ rfl rfl (Nat.le_of_ble_eq_true rfl) dX8_counts_73 hl.1 hP hK hS hA (fun H locs hP hS => ?_)
    obtain ⟨x17, u18, he19, h⟩ := zz_b2E h
    refine zz_PI (As := [.long x14]) (rest := []) ⟨hx, hb, hml, hown, hts⟩ (ct_J13_bitCount_95d88 l dC dI cI cJ cB cZ x14 x17 u18 he19) gX8_counts_J13_bitCount_95d88 hd_J13_bitCount_95d88 rfl rfl rfl ⟨Nat.le_of_ble_eq_true rfl, Nat.le_of_ble_eq_true rfl⟩ ⟨Nat.le_of_ble_eq_true rfl, Nat.le_of_ble_eq_true rfl⟩ rfl rfl (Nat.le_of_ble_eq_true rfl) dX8_counts_76 hl.1 hP hK hS hA (fun H locs hP hS => ?_)
    exact zz_iret () hx hb hr hlocks dX8_counts_79 (Option.some.inj h) hP hK hD hS
  have h := zz_ifn c1_2 h
  by_cases c1_3 : p1 = 3
  · have h := zz_if c1_3 h
    refine lv_tableIn (tgt := 80) hx hb dX8_counts_1 (by rw [c1_3]; decide) (by rw [c1_3]; decide) (off := 79) (by rw [c1_3]; rfl) (by decide) ?_
    refine lv_aload_n hx hb dX8_counts_80 rfl (lv_at hl 0 rfl) ?_
    refine va_get (ci := 7) (v := .ref a_t_now) (C := RX8) (T := TX8) (N := 10) hx hb hts in_X8_counts_X8 hown hK hP 0 rfl rfl 1 (by decide) (hts _ lk_X8_counts_0) (fun _ h9 => h9) rfl dX8_counts_81 ?_
    refine va_get (ci := 4) (v := .long t_now_plan) (C := RX5) (T := TX5) (N := 5) hx hb hts in_X8_counts_X5 hown hK hP 1 rfl rfl 1 (by decide) (hts _ lk_X8_counts_1) (fun _ h9 => h9) rfl dX8_counts_84 ?_
    refine lv_iconst (v := 0) hx hb dX8_counts_87 (by decide) ?_
    obtain ⟨x20, u21, he22, h⟩ := zz_b2E h
    refine zz_PL (As := [.long t_now_plan, .int 0]) (rest := []) ⟨hx, hb, hml, hown, hts⟩ (ct_X1_atHouse l dC dI cI cJ cB cZ t_now_plan (0 : Int32) x20 u21 he22) gX8_counts_X1_atHouse hd_X1_atHouse rfl rfl rfl ⟨Nat.le_of_ble_eq_true rfl, Nat.le_of_ble_eq_true rfl⟩ ⟨Nat.le_of_ble_eq_true rfl, Nat.le_of_ble_eq_true rfl⟩ rfl rfl (Nat.le_of_ble_eq_true rfl) dX8_counts_88 hl.1 hP hK hS hA (fun H locs hP hS => ?_)
    obtain ⟨x23, u24, he25, h⟩ := zz_b2E h
    refine zz_PI (As := [.long x20]) (rest := []) ⟨hx, hb, hml, hown, hts⟩ (ct_X1_longestRow l dC dI cI cJ cB cZ x20 x23 u24 he25) gX8_counts_X1_longestRow hd_X1_longestRow rfl rfl rfl ⟨Nat.le_of_ble_eq_true rfl, Nat.le_of_ble_eq_true rfl⟩ ⟨Nat.le_of_ble_eq_true rfl, Nat.le_of_ble_eq_true rfl⟩ rfl rfl (Nat.le_of_ble_eq_true rfl) dX8_counts_91 hl.1 hP hK hS hA (fun H locs hP hS => ?_)
    exact zz_iret () hx hb hr hlocks dX8_counts_94 (Option.some.inj h) hP hK hD hS
  have h := zz_ifn c1_3 h
  by_cases c1_4 : p1 = 4
  · have h := zz_if c1_4 h
    refine lv_tableIn (tgt := 95) hx hb dX8_counts_1 (by rw [c1_4]; decide) (by rw [c1_4]; decide) (off := 94) (by rw [c1_4]; rfl) (by decide) ?_
    refine lv_aload_n hx hb dX8_counts_95 rfl (lv_at hl 0 rfl) ?_
    refine va_get (ci := 7) (v := .ref a_t_now) (C := RX8) (T := TX8) (N := 10) hx hb hts in_X8_counts_X8 hown hK hP 0 rfl rfl 1 (by decide) (hts _ lk_X8_counts_0) (fun _ h9 => h9) rfl dX8_counts_96 ?_
    refine va_get (ci := 4) (v := .long t_now_plan) (C := RX5) (T := TX5) (N := 5) hx hb hts in_X8_counts_X5 hown hK hP 1 rfl rfl 1 (by decide) (hts _ lk_X8_counts_1) (fun _ h9 => h9) rfl dX8_counts_99 ?_
    refine lv_iconst (v := 1) hx hb dX8_counts_102 (by decide) ?_
    obtain ⟨x26, u27, he28, h⟩ := zz_b2E h
    refine zz_PL (As := [.long t_now_plan, .int 1]) (rest := []) ⟨hx, hb, hml, hown, hts⟩ (ct_X1_atHouse l dC dI cI cJ cB cZ t_now_plan (1 : Int32) x26 u27 he28) gX8_counts_X1_atHouse hd_X1_atHouse rfl rfl rfl ⟨Nat.le_of_ble_eq_true rfl, Nat.le_of_ble_eq_true rfl⟩ ⟨Nat.le_of_ble_eq_true rfl, Nat.le_of_ble_eq_true rfl⟩ rfl rfl (Nat.le_of_ble_eq_true rfl) dX8_counts_103 hl.1 hP hK hS hA (fun H locs hP hS => ?_)
    obtain ⟨x29, u30, he31, h⟩ := zz_b2E h
    refine zz_PI (As := [.long x26]) (rest := []) ⟨hx, hb, hml, hown, hts⟩ (ct_X1_longestRow l dC dI cI cJ cB cZ x26 x29 u30 he31) gX8_counts_X1_longestRow hd_X1_longestRow rfl rfl rfl ⟨Nat.le_of_ble_eq_true rfl, Nat.le_of_ble_eq_true rfl⟩ ⟨Nat.le_of_ble_eq_true rfl, Nat.le_of_ble_eq_true rfl⟩ rfl rfl (Nat.le_of_ble_eq_true rfl) dX8_counts_106 hl.1 hP hK hS hA (fun H locs hP hS => ?_)
    exact zz_iret () hx hb hr hlocks dX8_counts_109 (Option.some.inj h) hP hK hD hS
  have h := zz_ifn c1_4 h
  have nc1_0 := zz_ne (k := 0) rfl c1_0
  have nc1_1 := zz_ne (k := 1) rfl c1_1
  have nc1_2 := zz_ne (k := 2) rfl c1_2
  have nc1_3 := zz_ne (k := 3) rfl c1_3
  have nc1_4 := zz_ne (k := 4) rfl c1_4
  refine lv_tableOut (tgt := 110) hx hb dX8_counts_1 (by omega) (by decide) ?_
  refine lv_bipush (v := (-2)) hx hb dX8_counts_110 (by decide) ?_
  exact zz_iret () hx hb hr hlocks dX8_counts_112 (Option.some.inj h) hP hK hD hS
theorem hd_X8_wish : yX8_wish.cls ≠ "java/lang/invoke/MethodHandle" ∧ yX8_wish.cls ≠ "java/lang/invoke/VarHandle" ∧ (parseMethodDescriptor yX8_wish.desc).map (fun d => d.parameters.length) = some 3 := by decide +kernel
set_option maxRecDepth 20000 in
theorem in_X8_wish_X8 : ∀ w ∈ u_ws RX8 TX8 10, w ∈ wsX8_wish := by decide +kernel
set_option maxRecDepth 20000 in
theorem in_X8_wish_X7 : ∀ w ∈ u_ws RX7 TX7 5, w ∈ wsX8_wish := by decide +kernel
set_option maxRecDepth 20000 in
theorem lk_X8_wish_0 : Cond.fieldLink RX8 32 "TwoHousesOneChild" "wishes" "LTwoHousesOneChild$Wishes;" ∈ wsX8_wish := by decide +kernel
set_option maxRecDepth 20000 in
theorem lk_X8_wish_1 : Cond.fieldLink RX8 162 "TwoHousesOneChild$Wishes" "longest" "I" ∈ wsX8_wish := by decide +kernel
set_option maxRecDepth 20000 in
theorem lk_X8_wish_2 : Cond.fieldLink RX8 165 "TwoHousesOneChild$Wishes" "perLong" "I" ∈ wsX8_wish := by decide +kernel
set_option maxRecDepth 20000 in
theorem lk_X8_wish_3 : Cond.fieldLink RX8 168 "TwoHousesOneChild$Wishes" "perHanding" "I" ∈ wsX8_wish := by decide +kernel
set_option maxHeartbeats 4000000 in
set_option maxRecDepth 100000 in
theorem ct_X8_wish (l : Launch) (dC : Nat → ClassId) (dI : Nat → Nat → Nat) (cI cJ cB cZ : ClassId) (a_t a_t_wishes a_t_text a_t_now a_t_slotZero a_t_slotOne a_t_planner a_t_mending a_t_reading a_t_otherReading a_t_wishes_against : Nat) (t_theYear : Int32) (t_wishes_longest : Int32) (t_wishes_perLong : Int32) (t_wishes_perHanding : Int32) (t_wishes_wants : Int32) (p1 : Int32) (p2 : Int32) (p3 : Int32) (rr : Int32) (o1 : Int32) (o2 : Int32) (o3 : Int32) (h : fn_X8_wish t_wishes_longest t_wishes_perLong t_wishes_perHanding p1 p2 p3 = some (rr, o1, o2, o3)) : zz_M l yX8_wish wsX8_wish ({ frames := 0, cells := 0, slots := 0, locals := 0 }) (dC, dI) (zz_T cI cJ cB cZ) [.ref a_t, .int p1, .int p2, .int p3] [(a_t, .inr (7, [.ref a_t_text, .ref a_t_now, .ref a_t_slotZero, .ref a_t_slotOne, .ref a_t_wishes, .ref a_t_planner, .ref a_t_mending, .ref a_t_reading, .ref a_t_otherReading, .int t_theYear])), (a_t_wishes, .inr (6, [.int t_wishes_longest, .int t_wishes_perLong, .int t_wishes_perHanding, .int t_wishes_wants, .ref a_t_wishes_against]))] (zz_QI (dC, dI) (zz_T cI cJ cB cZ) (rr, o1, o2, o3) (fun (u : Int32 × Int32 × Int32) => [(a_t, .inr (7, [.ref a_t_text, .ref a_t_now, .ref a_t_slotZero, .ref a_t_slotOne, .ref a_t_wishes, .ref a_t_planner, .ref a_t_mending, .ref a_t_reading, .ref a_t_otherReading, .int t_theYear])), (a_t_wishes, .inr (6, [.int u.1, .int u.2.1, .int u.2.2, .int t_wishes_wants, .ref a_t_wishes_against]))])) := by
  unfold fn_X8_wish at h
  refine zz_of (by decide) rfl (Nat.le_of_ble_eq_true rfl) ?_
  intro p e s m below meth c A ls hx hb hr hml hts hown hlocks hA hS hP hK hD hl
  have hown : s.vm.findClass RX8 = some m.cls := hown
  have hl : lv_has ls 5 [(0, .ref a_t), (1, .int p1), (2, .int p2), (3, .int p3)] := hl
  refine lv_iload_n hx hb dX8_wish_0 rfl (lv_at hl 1 rfl) ?_
  refine lv_iconst (v := 1) hx hb dX8_wish_1 (by decide) ?_
  refine lv_icmp_lt (tgt := 31) hx hb dX8_wish_2 (by decide) (fun c1 => ?_) (fun c1 => ?_)
  · have h := zz_if c1 h
    refine lv_bipush (v := (-2)) hx hb dX8_wish_31 (by decide) ?_
    exact zz_iret (t_wishes_longest, t_wishes_perLong, t_wishes_perHanding) hx hb hr hlocks dX8_wish_33 (Option.some.inj h) hP hK hD hS
  · have h := zz_ifn c1 h
    refine lv_iload_n hx hb dX8_wish_5 rfl (lv_at hl 1 rfl) ?_
    refine lv_bipush (v := 14) hx hb dX8_wish_6 (by decide) ?_
    refine lv_icmp_gt (tgt := 31) hx hb dX8_wish_8 (by decide) (fun c2 => ?_) (fun c2 => ?_)
    · have h := zz_if c2 h
      refine lv_bipush (v := (-2)) hx hb dX8_wish_31 (by decide) ?_
      exact zz_iret (t_wishes_longest, t_wishes_perLong, t_wishes_perHanding) hx hb hr hlocks dX8_wish_33 (Option.some.inj h) hP hK hD hS
    · have h := zz_ifn c2 h
      refine lv_iload_n hx hb dX8_wish_11 rfl (lv_at hl 2 rfl) ?_
      refine lv_if_lt (tgt := 31) hx hb dX8_wish_12 (by decide) (fun c3 => ?_) (fun c3 => ?_)
      · have h := zz_if c3 h
        refine lv_bipush (v := (-2)) hx hb dX8_wish_31 (by decide) ?_
        exact zz_iret (t_wishes_longest, t_wishes_perLong, t_wishes_perHanding) hx hb hr hlocks dX8_wish_33 (Option.some.inj h) hP hK hD hS
      · have h := zz_ifn c3 h
        refine lv_iload_n hx hb dX8_wish_15 rfl (lv_at hl 2 rfl) ?_
        refine lv_bipush (v := 9) hx hb dX8_wish_16 (by decide) ?_
        refine lv_icmp_gt (tgt := 31) hx hb dX8_wish_18 (by decide) (fun c4 => ?_) (fun c4 => ?_)
        · have h := zz_if c4 h
          refine lv_bipush (v := (-2)) hx hb dX8_wish_31 (by decide) ?_
          exact zz_iret (t_wishes_longest, t_wishes_perLong, t_wishes_perHanding) hx hb hr hlocks dX8_wish_33 (Option.some.inj h) hP hK hD hS
        · have h := zz_ifn c4 h
          refine lv_iload_n hx hb dX8_wish_21 rfl (lv_at hl 3 rfl) ?_
          refine lv_if_lt (tgt := 31) hx hb dX8_wish_22 (by decide) (fun c5 => ?_) (fun c5 => ?_)
          · have h := zz_if c5 h
            refine lv_bipush (v := (-2)) hx hb dX8_wish_31 (by decide) ?_
            exact zz_iret (t_wishes_longest, t_wishes_perLong, t_wishes_perHanding) hx hb hr hlocks dX8_wish_33 (Option.some.inj h) hP hK hD hS
          · have h := zz_ifn c5 h
            refine lv_iload_n hx hb dX8_wish_25 rfl (lv_at hl 3 rfl) ?_
            refine lv_bipush (v := 9) hx hb dX8_wish_26 (by decide) ?_
            refine lv_icmp_le (tgt := 34) hx hb dX8_wish_28 (by decide) (fun c6 => ?_) (fun c6 => ?_)
            · have h := zz_if c6 h
              refine lv_sipush (v := 1000) hx hb dX8_wish_34 (by decide) ?_
              refine lv_aload_n hx hb dX8_wish_37 rfl (lv_at hl 0 rfl) ?_
              refine va_get (ci := 7) (v := .ref a_t_wishes) (C := RX8) (T := TX8) (N := 10) hx hb hts in_X8_wish_X8 hown hK hP 0 rfl rfl 4 (by decide) (hts _ lk_X8_wish_0) (fun _ h9 => h9) rfl dX8_wish_38 ?_
              refine va_get (ci := 6) (v := .int t_wishes_longest) (C := RX7) (T := TX7) (N := 5) hx hb hts in_X8_wish_X7 hown hK hP 1 rfl rfl 0 (by decide) (hts _ lk_X8_wish_1) (fun _ h9 => h9) rfl dX8_wish_41 ?_
              refine lv_imul hx hb dX8_wish_44 ?_
              refine lv_bipush (v := 10) hx hb dX8_wish_45 (by decide) ?_
              refine lv_aload_n hx hb dX8_wish_47 rfl (lv_at hl 0 rfl) ?_
              refine va_get (ci := 7) (v := .ref a_t_wishes) (C := RX8) (T := TX8) (N := 10) hx hb hts in_X8_wish_X8 hown hK hP 0 rfl rfl 4 (by decide) (hts _ lk_X8_wish_0) (fun _ h9 => h9) rfl dX8_wish_48 ?_
              refine va_get (ci := 6) (v := .int t_wishes_perLong) (C := RX7) (T := TX7) (N := 5) hx hb hts in_X8_wish_X7 hown hK hP 1 rfl rfl 1 (by decide) (hts _ lk_X8_wish_2) (fun _ h9 => h9) rfl dX8_wish_51 ?_
              refine lv_imul hx hb dX8_wish_54 ?_
              refine lv_iadd hx hb dX8_wish_55 ?_
              refine lv_aload_n hx hb dX8_wish_56 rfl (lv_at hl 0 rfl) ?_
              refine va_get (ci := 7) (v := .ref a_t_wishes) (C := RX8) (T := TX8) (N := 10) hx hb hts in_X8_wish_X8 hown hK hP 0 rfl rfl 4 (by decide) (hts _ lk_X8_wish_0) (fun _ h9 => h9) rfl dX8_wish_57 ?_
              refine va_get (ci := 6) (v := .int t_wishes_perHanding) (C := RX7) (T := TX7) (N := 5) hx hb hts in_X8_wish_X7 hown hK hP 1 rfl rfl 2 (by decide) (hts _ lk_X8_wish_3) (fun _ h9 => h9) rfl dX8_wish_60 ?_
              refine lv_iadd hx hb dX8_wish_63 ?_
              refine lv_topi (fun x7 ex7 => ?_)
              have h := zz_nmE ex7 h
              refine lv_istore (lv' := [(4, .int x7), (0, .ref a_t), (1, .int p1), (2, .int p2), (3, .int p3)]) hx hb dX8_wish_64 hl (by decide) rfl (fun ls hl => ?_)
              refine lv_aload_n hx hb dX8_wish_66 rfl (lv_at hl 1 rfl) ?_
              refine va_get (ci := 7) (v := .ref a_t_wishes) (C := RX8) (T := TX8) (N := 10) hx hb hts in_X8_wish_X8 hown hK hP 0 rfl rfl 4 (by decide) (hts _ lk_X8_wish_0) (fun _ h9 => h9) rfl dX8_wish_67 ?_
              refine lv_iload_n hx hb dX8_wish_70 rfl (lv_at hl 2 rfl) ?_
              refine va_put (ci := 6) (v := .int p1) (ty := .int) (C := RX7) (T := TX7) (N := 5) hx hb hts in_X8_wish_X7 tyX7 tyX7_ok nmX7 hown hK hP hD hS 1 rfl rfl 0 (by decide) (hts _ lk_X8_wish_1) (fun _ h9 => h9) rfl (by decide +kernel) rfl rfl (Nat.le_of_ble_eq_true rfl) dX8_wish_71 (fun H locs hP hD hS => ?_)
              have hP : va_P (dC, dI) vwCl [(a_t, .inr (7, [.ref a_t_text, .ref a_t_now, .ref a_t_slotZero, .ref a_t_slotOne, .ref a_t_wishes, .ref a_t_planner, .ref a_t_mending, .ref a_t_reading, .ref a_t_otherReading, .int t_theYear])), (a_t_wishes, .inr (6, [.int p1, .int t_wishes_perLong, .int t_wishes_perHanding, .int t_wishes_wants, .ref a_t_wishes_against]))] H := hP
              have hD : va_D A [(a_t, .inr (7, [.ref a_t_text, .ref a_t_now, .ref a_t_slotZero, .ref a_t_slotOne, .ref a_t_wishes, .ref a_t_planner, .ref a_t_mending, .ref a_t_reading, .ref a_t_otherReading, .int t_theYear])), (a_t_wishes, .inr (6, [.int p1, .int t_wishes_perLong, .int t_wishes_perHanding, .int t_wishes_wants, .ref a_t_wishes_against]))] := hD
              refine lv_aload_n hx hb dX8_wish_74 rfl (lv_at hl 1 rfl) ?_
              refine va_get (ci := 7) (v := .ref a_t_wishes) (C := RX8) (T := TX8) (N := 10) hx hb hts in_X8_wish_X8 hown hK hP 0 rfl rfl 4 (by decide) (hts _ lk_X8_wish_0) (fun _ h9 => h9) rfl dX8_wish_75 ?_
              refine lv_iload_n hx hb dX8_wish_78 rfl (lv_at hl 3 rfl) ?_
              refine va_put (ci := 6) (v := .int p2) (ty := .int) (C := RX7) (T := TX7) (N := 5) hx hb hts in_X8_wish_X7 tyX7 tyX7_ok nmX7 hown hK hP hD hS 1 rfl rfl 1 (by decide) (hts _ lk_X8_wish_2) (fun _ h9 => h9) rfl (by decide +kernel) rfl rfl (Nat.le_of_ble_eq_true rfl) dX8_wish_79 (fun H locs hP hD hS => ?_)
              have hP : va_P (dC, dI) vwCl [(a_t, .inr (7, [.ref a_t_text, .ref a_t_now, .ref a_t_slotZero, .ref a_t_slotOne, .ref a_t_wishes, .ref a_t_planner, .ref a_t_mending, .ref a_t_reading, .ref a_t_otherReading, .int t_theYear])), (a_t_wishes, .inr (6, [.int p1, .int p2, .int t_wishes_perHanding, .int t_wishes_wants, .ref a_t_wishes_against]))] H := hP
              have hD : va_D A [(a_t, .inr (7, [.ref a_t_text, .ref a_t_now, .ref a_t_slotZero, .ref a_t_slotOne, .ref a_t_wishes, .ref a_t_planner, .ref a_t_mending, .ref a_t_reading, .ref a_t_otherReading, .int t_theYear])), (a_t_wishes, .inr (6, [.int p1, .int p2, .int t_wishes_perHanding, .int t_wishes_wants, .ref a_t_wishes_against]))] := hD
              refine lv_aload_n hx hb dX8_wish_82 rfl (lv_at hl 1 rfl) ?_
              refine va_get (ci := 7) (v := .ref a_t_wishes) (C := RX8) (T := TX8) (N := 10) hx hb hts in_X8_wish_X8 hown hK hP 0 rfl rfl 4 (by decide) (hts _ lk_X8_wish_0) (fun _ h9 => h9) rfl dX8_wish_83 ?_
              refine lv_iload_n hx hb dX8_wish_86 rfl (lv_at hl 4 rfl) ?_
              refine va_put (ci := 6) (v := .int p3) (ty := .int) (C := RX7) (T := TX7) (N := 5) hx hb hts in_X8_wish_X7 tyX7 tyX7_ok nmX7 hown hK hP hD hS 1 rfl rfl 2 (by decide) (hts _ lk_X8_wish_3) (fun _ h9 => h9) rfl (by decide +kernel) rfl rfl (Nat.le_of_ble_eq_true rfl) dX8_wish_87 (fun H locs hP hD hS => ?_)
              have hP : va_P (dC, dI) vwCl [(a_t, .inr (7, [.ref a_t_text, .ref a_t_now, .ref a_t_slotZero, .ref a_t_slotOne, .ref a_t_wishes, .ref a_t_planner, .ref a_t_mending, .ref a_t_reading, .ref a_t_otherReading, .int t_theYear])), (a_t_wishes, .inr (6, [.int p1, .int p2, .int p3, .int t_wishes_wants, .ref a_t_wishes_against]))] H := hP
              have hD : va_D A [(a_t, .inr (7, [.ref a_t_text, .ref a_t_now, .ref a_t_slotZero, .ref a_t_slotOne, .ref a_t_wishes, .ref a_t_planner, .ref a_t_mending, .ref a_t_reading, .ref a_t_otherReading, .int t_theYear])), (a_t_wishes, .inr (6, [.int p1, .int p2, .int p3, .int t_wishes_wants, .ref a_t_wishes_against]))] := hD
              refine lv_iload hx hb dX8_wish_90 (lv_at hl 0 rfl) ?_
              exact zz_iret (p1, p2, p3) hx hb hr hlocks dX8_wish_92 (Option.some.inj h) hP hK hD hS
            · have h := zz_ifn c6 h
              refine lv_bipush (v := (-2)) hx hb dX8_wish_31 (by decide) ?_
              exact zz_iret (t_wishes_longest, t_wishes_perLong, t_wishes_perHanding) hx hb hr hlocks dX8_wish_33 (Option.some.inj h) hP hK hD hS
theorem hd_X8_want : yX8_want.cls ≠ "java/lang/invoke/MethodHandle" ∧ yX8_want.cls ≠ "java/lang/invoke/VarHandle" ∧ (parseMethodDescriptor yX8_want.desc).map (fun d => d.parameters.length) = some 3 := by decide +kernel
set_option maxRecDepth 20000 in
theorem in_X8_want_X8 : ∀ w ∈ u_ws RX8 TX8 10, w ∈ wsX8_want := by decide +kernel
set_option maxRecDepth 20000 in
theorem in_X8_want_X7 : ∀ w ∈ u_ws RX7 TX7 5, w ∈ wsX8_want := by decide +kernel
set_option maxRecDepth 20000 in
theorem lk_X8_want_0 : Cond.fieldLink RX8 32 "TwoHousesOneChild" "wishes" "LTwoHousesOneChild$Wishes;" ∈ wsX8_want := by decide +kernel
set_option maxRecDepth 20000 in
theorem lk_X8_want_1 : Cond.fieldLink RX8 171 "TwoHousesOneChild$Wishes" "wants" "I" ∈ wsX8_want := by decide +kernel
set_option maxHeartbeats 4000000 in
set_option maxRecDepth 100000 in
theorem ct_X8_want (l : Launch) (dC : Nat → ClassId) (dI : Nat → Nat → Nat) (cI cJ cB cZ : ClassId) (a_t a_t_wishes a_t_wishes_against a_t_text a_t_now a_t_slotZero a_t_slotOne a_t_planner a_t_mending a_t_reading a_t_otherReading : Nat) (t_theYear : Int32) (t_wishes_longest : Int32) (t_wishes_perLong : Int32) (t_wishes_perHanding : Int32) (t_wishes_wants : Int32) (t_wishes_against : (Nat → Int32)) (p1 : Int32) (p2 : Int32) (p3 : Int32) (rr : Int32) (o1 : Int32) (o2 : (Nat → Int32)) (h : fn_X8_want t_wishes_wants t_wishes_against p1 p2 p3 = some (rr, o1, o2)) : zz_M l yX8_want wsX8_want ({ frames := 1, cells := 0, slots := 0, locals := 25 }) (dC, dI) (zz_T cI cJ cB cZ) [.ref a_t, .int p1, .int p2, .int p3] [(a_t, .inr (7, [.ref a_t_text, .ref a_t_now, .ref a_t_slotZero, .ref a_t_slotOne, .ref a_t_wishes, .ref a_t_planner, .ref a_t_mending, .ref a_t_reading, .ref a_t_otherReading, .int t_theYear])), (a_t_wishes, .inr (6, [.int t_wishes_longest, .int t_wishes_perLong, .int t_wishes_perHanding, .int t_wishes_wants, .ref a_t_wishes_against])), (a_t_wishes_against, .inl (cI, 112, .inl t_wishes_against))] (zz_QI (dC, dI) (zz_T cI cJ cB cZ) (rr, o1, o2) (fun (u : Int32 × (Nat → Int32)) => [(a_t, .inr (7, [.ref a_t_text, .ref a_t_now, .ref a_t_slotZero, .ref a_t_slotOne, .ref a_t_wishes, .ref a_t_planner, .ref a_t_mending, .ref a_t_reading, .ref a_t_otherReading, .int t_theYear])), (a_t_wishes, .inr (6, [.int t_wishes_longest, .int t_wishes_perLong, .int t_wishes_perHanding, .int u.1, .ref a_t_wishes_against])), (a_t_wishes_against, .inl (cI, 112, .inl u.2))])) := by
  unfold fn_X8_want at h
  refine zz_of (by decide) rfl (Nat.le_of_ble_eq_true rfl) ?_
  intro p e s m below meth c A ls hx hb hr hml hts hown hlocks hA hS hP hK hD hl
  have hown : s.vm.findClass RX8 = some m.cls := hown
  have hl : lv_has ls 4 [(0, .ref a_t), (1, .int p1), (2, .int p2), (3, .int p3)] := hl
  refine lv_iload_n hx hb dX8_want_0 rfl (lv_at hl 1 rfl) ?_
  obtain ⟨x1, u2, he3, h⟩ := zz_b2E h
  refine zz_PI (As := [.int p1]) (rest := []) ⟨hx, hb, hml, hown, hts⟩ (ct_X8_isNight l dC dI cI cJ cB cZ p1 x1 u2 he3) gX8_want_X8_isNight hd_X8_isNight rfl rfl rfl ⟨Nat.le_of_ble_eq_true rfl, Nat.le_of_ble_eq_true rfl⟩ ⟨Nat.le_of_ble_eq_true rfl, Nat.le_of_ble_eq_true rfl⟩ rfl rfl (Nat.le_of_ble_eq_true rfl) dX8_want_1 hl.1 hP hK hS hA (fun H locs hP hS => ?_)
  refine lv_if_eq (tgt := 14) hx hb dX8_want_4 (by decide) (fun c4 => ?_) (fun c4 => ?_)
  · have h := zz_if c4 h
    refine lv_iconst (v := (-1)) hx hb dX8_want_14 (by decide) ?_
    exact zz_iret (t_wishes_wants, t_wishes_against) hx hb hr hlocks dX8_want_15 (Option.some.inj h) hP hK hD hS
  · have h := zz_ifn c4 h
    refine lv_iload_n hx hb dX8_want_7 rfl (lv_at hl 2 rfl) ?_
    obtain ⟨x5, u6, he7, h⟩ := zz_b2E h
    refine zz_PI (As := [.int p2]) (rest := []) ⟨hx, hb, hml, hown, hts⟩ (ct_X8_isHouse l dC dI cI cJ cB cZ p2 x5 u6 he7) gX8_want_X8_isHouse hd_X8_isHouse rfl rfl rfl ⟨Nat.le_of_ble_eq_true rfl, Nat.le_of_ble_eq_true rfl⟩ ⟨Nat.le_of_ble_eq_true rfl, Nat.le_of_ble_eq_true rfl⟩ rfl rfl (Nat.le_of_ble_eq_true rfl) dX8_want_8 hl.1 hP hK hS hA (fun H locs hP hS => ?_)
    refine lv_if_ne (tgt := 16) hx hb dX8_want_11 (by decide) (fun c8 => ?_) (fun c8 => ?_)
    · have h := zz_ifn c8 h
      refine lv_iload_n hx hb dX8_want_16 rfl (lv_at hl 3 rfl) ?_
      refine lv_iconst (v := 1) hx hb dX8_want_17 (by decide) ?_
      refine lv_icmp_lt (tgt := 27) hx hb dX8_want_18 (by decide) (fun c9 => ?_) (fun c9 => ?_)
      · have h := zz_if c9 h
        refine lv_bipush (v := (-2)) hx hb dX8_want_27 (by decide) ?_
        exact zz_iret (t_wishes_wants, t_wishes_against) hx hb hr hlocks dX8_want_29 (Option.some.inj h) hP hK hD hS
      · have h := zz_ifn c9 h
        refine lv_iload_n hx hb dX8_want_21 rfl (lv_at hl 3 rfl) ?_
        refine lv_bipush (v := 9) hx hb dX8_want_22 (by decide) ?_
        refine lv_icmp_le (tgt := 30) hx hb dX8_want_24 (by decide) (fun c10 => ?_) (fun c10 => ?_)
        · have h := zz_if c10 h
          refine lv_aload_n hx hb dX8_want_30 rfl (lv_at hl 0 rfl) ?_
          refine va_get (ci := 7) (v := .ref a_t_wishes) (C := RX8) (T := TX8) (N := 10) hx hb hts in_X8_want_X8 hown hK hP 0 rfl rfl 4 (by decide) (hts _ lk_X8_want_0) (fun _ h9 => h9) rfl dX8_want_31 ?_
          refine va_get (ci := 6) (v := .int t_wishes_wants) (C := RX7) (T := TX7) (N := 5) hx hb hts in_X8_want_X7 hown hK hP 1 rfl rfl 3 (by decide) (hts _ lk_X8_want_1) (fun _ h9 => h9) rfl dX8_want_34 ?_
          refine lv_bipush (v := 12) hx hb dX8_want_37 (by decide) ?_
          refine lv_icmp_lt (tgt := 45) hx hb dX8_want_39 (by decide) (fun c11 => ?_) (fun c11 => ?_)
          · have h := zz_if c11 h
            refine lv_aload_n hx hb dX8_want_45 rfl (lv_at hl 0 rfl) ?_
            refine va_get (ci := 7) (v := .ref a_t_wishes) (C := RX8) (T := TX8) (N := 10) hx hb hts in_X8_want_X8 hown hK hP 0 rfl rfl 4 (by decide) (hts _ lk_X8_want_0) (fun _ h9 => h9) rfl dX8_want_46 ?_
            refine lv_iload_n hx hb dX8_want_49 rfl (lv_at hl 1 rfl) ?_
            refine lv_iload_n hx hb dX8_want_50 rfl (lv_at hl 2 rfl) ?_
            refine lv_iload_n hx hb dX8_want_51 rfl (lv_at hl 3 rfl) ?_
            obtain ⟨x12, x13, g14, he15, h⟩ := zz_b3E h
            refine zz_VI (q := (RX7, TX7, 5)) (As := [.int p1, .int p2, .int p3]) (rest := []) (wr := [(a_t, .inr (7, [.ref a_t_text, .ref a_t_now, .ref a_t_slotZero, .ref a_t_slotOne, .ref a_t_wishes, .ref a_t_planner, .ref a_t_mending, .ref a_t_reading, .ref a_t_otherReading, .int t_theYear]))]) (wm := [(a_t, .inr (7, [.ref a_t_text, .ref a_t_now, .ref a_t_slotZero, .ref a_t_slotOne, .ref a_t_wishes, .ref a_t_planner, .ref a_t_mending, .ref a_t_reading, .ref a_t_otherReading, .int t_theYear])), (a_t_wishes, .inr (6, [.int t_wishes_longest, .int t_wishes_perLong, .int t_wishes_perHanding, .int x13, .ref a_t_wishes_against])), (a_t_wishes_against, .inl (cI, 112, .inl g14))]) ⟨hx, hb, hml, hown, hts⟩ (ct_X7_addWant l dC dI cI cJ cB cZ a_t_wishes a_t_wishes_against t_wishes_longest t_wishes_perLong t_wishes_perHanding t_wishes_wants t_wishes_against p1 p2 p3 x12 x13 g14 he15) gX8_want_X7_addWant hd_X7_addWant rfl rfl rfl ⟨Nat.le_of_ble_eq_true rfl, Nat.le_of_ble_eq_true rfl⟩ ⟨Nat.le_of_ble_eq_true rfl, Nat.le_of_ble_eq_true rfl⟩ rfl rfl (Nat.le_of_ble_eq_true rfl) dX8_want_52 hl.1 rfl (ci := 6) rfl (q0 := 1) rfl hP hK hD hS hA [1, 2] [0] [0, 1, 2] rfl rfl (by decide) (by decide) (by decide) (by decide) rfl (fun H locs hP hD hS => ?_)
            exact zz_iret (x13, g14) hx hb hr hlocks dX8_want_55 (Option.some.inj h) hP hK hD hS
          · have h := zz_ifn c11 h
            refine lv_bipush (v := (-4)) hx hb dX8_want_42 (by decide) ?_
            exact zz_iret (t_wishes_wants, t_wishes_against) hx hb hr hlocks dX8_want_44 (Option.some.inj h) hP hK hD hS
        · have h := zz_ifn c10 h
          refine lv_bipush (v := (-2)) hx hb dX8_want_27 (by decide) ?_
          exact zz_iret (t_wishes_wants, t_wishes_against) hx hb hr hlocks dX8_want_29 (Option.some.inj h) hP hK hD hS
    · have h := zz_if c8 h
      refine lv_iconst (v := (-1)) hx hb dX8_want_14 (by decide) ?_
      exact zz_iret (t_wishes_wants, t_wishes_against) hx hb hr hlocks dX8_want_15 (Option.some.inj h) hP hK hD hS
theorem hd_X8_unwant : yX8_unwant.cls ≠ "java/lang/invoke/MethodHandle" ∧ yX8_unwant.cls ≠ "java/lang/invoke/VarHandle" ∧ (parseMethodDescriptor yX8_unwant.desc).map (fun d => d.parameters.length) = some 0 := by decide +kernel
set_option maxRecDepth 20000 in
theorem in_X8_unwant_X8 : ∀ w ∈ u_ws RX8 TX8 10, w ∈ wsX8_unwant := by decide +kernel
set_option maxRecDepth 20000 in
theorem in_X8_unwant_X7 : ∀ w ∈ u_ws RX7 TX7 5, w ∈ wsX8_unwant := by decide +kernel
set_option maxRecDepth 20000 in
theorem lk_X8_unwant_0 : Cond.fieldLink RX8 32 "TwoHousesOneChild" "wishes" "LTwoHousesOneChild$Wishes;" ∈ wsX8_unwant := by decide +kernel
set_option maxRecDepth 20000 in
theorem lk_X8_unwant_1 : Cond.fieldLink RX8 171 "TwoHousesOneChild$Wishes" "wants" "I" ∈ wsX8_unwant := by decide +kernel
set_option maxHeartbeats 4000000 in
set_option maxRecDepth 100000 in
theorem ct_X8_unwant (l : Launch) (dC : Nat → ClassId) (dI : Nat → Nat → Nat) (cI cJ cB cZ : ClassId) (a_t a_t_wishes a_t_wishes_against a_t_text a_t_now a_t_slotZero a_t_slotOne a_t_planner a_t_mending a_t_reading a_t_otherReading : Nat) (t_theYear : Int32) (t_wishes_longest : Int32) (t_wishes_perLong : Int32) (t_wishes_perHanding : Int32) (t_wishes_wants : Int32) (t_wishes_against : (Nat → Int32)) (rr : Int32) (o1 : Int32) (o2 : (Nat → Int32)) (h : fn_X8_unwant t_wishes_wants t_wishes_against = some (rr, o1, o2)) : zz_M l yX8_unwant wsX8_unwant ({ frames := 1, cells := 0, slots := 0, locals := 21 }) (dC, dI) (zz_T cI cJ cB cZ) [.ref a_t] [(a_t, .inr (7, [.ref a_t_text, .ref a_t_now, .ref a_t_slotZero, .ref a_t_slotOne, .ref a_t_wishes, .ref a_t_planner, .ref a_t_mending, .ref a_t_reading, .ref a_t_otherReading, .int t_theYear])), (a_t_wishes, .inr (6, [.int t_wishes_longest, .int t_wishes_perLong, .int t_wishes_perHanding, .int t_wishes_wants, .ref a_t_wishes_against])), (a_t_wishes_against, .inl (cI, 112, .inl t_wishes_against))] (zz_QI (dC, dI) (zz_T cI cJ cB cZ) (rr, o1, o2) (fun (u : Int32 × (Nat → Int32)) => [(a_t, .inr (7, [.ref a_t_text, .ref a_t_now, .ref a_t_slotZero, .ref a_t_slotOne, .ref a_t_wishes, .ref a_t_planner, .ref a_t_mending, .ref a_t_reading, .ref a_t_otherReading, .int t_theYear])), (a_t_wishes, .inr (6, [.int t_wishes_longest, .int t_wishes_perLong, .int t_wishes_perHanding, .int u.1, .ref a_t_wishes_against])), (a_t_wishes_against, .inl (cI, 112, .inl u.2))])) := by
  unfold fn_X8_unwant at h
  refine zz_of (by decide) rfl (Nat.le_of_ble_eq_true rfl) ?_
  intro p e s m below meth c A ls hx hb hr hml hts hown hlocks hA hS hP hK hD hl
  have hown : s.vm.findClass RX8 = some m.cls := hown
  have hl : lv_has ls 2 [(0, .ref a_t)] := hl
  refine lv_aload_n hx hb dX8_unwant_0 rfl (lv_at hl 0 rfl) ?_
  refine va_get (ci := 7) (v := .ref a_t_wishes) (C := RX8) (T := TX8) (N := 10) hx hb hts in_X8_unwant_X8 hown hK hP 0 rfl rfl 4 (by decide) (hts _ lk_X8_unwant_0) (fun _ h9 => h9) rfl dX8_unwant_1 ?_
  refine va_get (ci := 6) (v := .int t_wishes_wants) (C := RX7) (T := TX7) (N := 5) hx hb hts in_X8_unwant_X7 hown hK hP 1 rfl rfl 3 (by decide) (hts _ lk_X8_unwant_1) (fun _ h9 => h9) rfl dX8_unwant_4 ?_
  refine lv_istore_n (lv' := [(1, .int t_wishes_wants), (0, .ref a_t)]) hx hb dX8_unwant_7 rfl hl (by decide) rfl (fun ls hl => ?_)
  refine lv_aload_n hx hb dX8_unwant_8 rfl (lv_at hl 1 rfl) ?_
  refine va_get (ci := 7) (v := .ref a_t_wishes) (C := RX8) (T := TX8) (N := 10) hx hb hts in_X8_unwant_X8 hown hK hP 0 rfl rfl 4 (by decide) (hts _ lk_X8_unwant_0) (fun _ h9 => h9) rfl dX8_unwant_9 ?_
  obtain ⟨x1, g2, he3, h⟩ := zz_b2E h
  refine zz_VV (q := (RX7, TX7, 5)) (As := []) (rest := []) (wr := [(a_t, .inr (7, [.ref a_t_text, .ref a_t_now, .ref a_t_slotZero, .ref a_t_slotOne, .ref a_t_wishes, .ref a_t_planner, .ref a_t_mending, .ref a_t_reading, .ref a_t_otherReading, .int t_theYear]))]) (wm := [(a_t, .inr (7, [.ref a_t_text, .ref a_t_now, .ref a_t_slotZero, .ref a_t_slotOne, .ref a_t_wishes, .ref a_t_planner, .ref a_t_mending, .ref a_t_reading, .ref a_t_otherReading, .int t_theYear])), (a_t_wishes, .inr (6, [.int t_wishes_longest, .int t_wishes_perLong, .int t_wishes_perHanding, .int x1, .ref a_t_wishes_against])), (a_t_wishes_against, .inl (cI, 112, .inl g2))]) ⟨hx, hb, hml, hown, hts⟩ (ct_X7_dropWants l dC dI cI cJ cB cZ a_t_wishes a_t_wishes_against t_wishes_longest t_wishes_perLong t_wishes_perHanding t_wishes_wants t_wishes_against x1 g2 he3) gX8_unwant_X7_dropWants hd_X7_dropWants rfl rfl rfl ⟨Nat.le_of_ble_eq_true rfl, Nat.le_of_ble_eq_true rfl⟩ ⟨Nat.le_of_ble_eq_true rfl, Nat.le_of_ble_eq_true rfl⟩ rfl rfl (Nat.le_of_ble_eq_true rfl) dX8_unwant_12 hl.1 rfl (ci := 6) rfl (q0 := 1) rfl hP hK hD hS hA [1, 2] [0] [0, 1, 2] rfl rfl (by decide) (by decide) (by decide) (by decide) rfl (fun H locs hP hD hS => ?_)
  refine lv_iload_n hx hb dX8_unwant_15 rfl (lv_at hl 0 rfl) ?_
  exact zz_iret (x1, g2) hx hb hr hlocks dX8_unwant_16 (Option.some.inj h) hP hK hD hS
theorem hd_X8_cost : yX8_cost.cls ≠ "java/lang/invoke/MethodHandle" ∧ yX8_cost.cls ≠ "java/lang/invoke/VarHandle" ∧ (parseMethodDescriptor yX8_cost.desc).map (fun d => d.parameters.length) = some 0 := by decide +kernel
set_option maxRecDepth 20000 in
theorem in_X8_cost_X8 : ∀ w ∈ u_ws RX8 TX8 10, w ∈ wsX8_cost := by decide +kernel
set_option maxRecDepth 20000 in
theorem in_X8_cost_X5 : ∀ w ∈ u_ws RX5 TX5 5, w ∈ wsX8_cost := by decide +kernel
set_option maxRecDepth 20000 in
theorem lk_X8_cost_0 : Cond.fieldLink RX8 32 "TwoHousesOneChild" "wishes" "LTwoHousesOneChild$Wishes;" ∈ wsX8_cost := by decide +kernel
set_option maxRecDepth 20000 in
theorem lk_X8_cost_1 : Cond.fieldLink RX8 19 "TwoHousesOneChild" "now" "LTwoHousesOneChild$Standing;" ∈ wsX8_cost := by decide +kernel
set_option maxRecDepth 20000 in
theorem lk_X8_cost_2 : Cond.fieldLink RX8 136 "TwoHousesOneChild$Standing" "plan" "J" ∈ wsX8_cost := by decide +kernel
set_option maxHeartbeats 4000000 in
set_option maxRecDepth 100000 in
theorem ct_X8_cost (l : Launch) (dC : Nat → ClassId) (dI : Nat → Nat → Nat) (cI cJ cB cZ : ClassId) (a_t a_t_now a_t_wishes a_t_wishes_against a_t_text a_t_slotZero a_t_slotOne a_t_planner a_t_mending a_t_reading a_t_otherReading a_t_now_paper a_t_now_timesLate a_t_now_paid : Nat) (t_theYear : Int32) (t_now_plan : Int64) (t_now_isKept : Int32) (t_wishes_longest : Int32) (t_wishes_perLong : Int32) (t_wishes_perHanding : Int32) (t_wishes_wants : Int32) (t_wishes_against : (Nat → Int32)) (rr : Int32) (u0 : Unit) (h : fn_X8_cost t_now_plan t_wishes_longest t_wishes_perLong t_wishes_perHanding t_wishes_wants t_wishes_against = some (rr, u0)) : zz_M l yX8_cost wsX8_cost ({ frames := 3, cells := 0, slots := 0, locals := 72 }) (dC, dI) (zz_T cI cJ cB cZ) [.ref a_t] [(a_t, .inr (7, [.ref a_t_text, .ref a_t_now, .ref a_t_slotZero, .ref a_t_slotOne, .ref a_t_wishes, .ref a_t_planner, .ref a_t_mending, .ref a_t_reading, .ref a_t_otherReading, .int t_theYear])), (a_t_now, .inr (4, [.ref a_t_now_paper, .long t_now_plan, .ref a_t_now_timesLate, .ref a_t_now_paid, .int t_now_isKept])), (a_t_wishes, .inr (6, [.int t_wishes_longest, .int t_wishes_perLong, .int t_wishes_perHanding, .int t_wishes_wants, .ref a_t_wishes_against])), (a_t_wishes_against, .inl (cI, 112, .inl t_wishes_against))] (zz_QI (dC, dI) (zz_T cI cJ cB cZ) (rr, u0) (fun (u : Unit) => [(a_t, .inr (7, [.ref a_t_text, .ref a_t_now, .ref a_t_slotZero, .ref a_t_slotOne, .ref a_t_wishes, .ref a_t_planner, .ref a_t_mending, .ref a_t_reading, .ref a_t_otherReading, .int t_theYear])), (a_t_now, .inr (4, [.ref a_t_now_paper, .long t_now_plan, .ref a_t_now_timesLate, .ref a_t_now_paid, .int t_now_isKept])), (a_t_wishes, .inr (6, [.int t_wishes_longest, .int t_wishes_perLong, .int t_wishes_perHanding, .int t_wishes_wants, .ref a_t_wishes_against])), (a_t_wishes_against, .inl (cI, 112, .inl t_wishes_against))])) := by
  unfold fn_X8_cost at h
  refine zz_of (by decide) rfl (Nat.le_of_ble_eq_true rfl) ?_
  intro p e s m below meth c A ls hx hb hr hml hts hown hlocks hA hS hP hK hD hl
  have hown : s.vm.findClass RX8 = some m.cls := hown
  have hl : lv_has ls 1 [(0, .ref a_t)] := hl
  refine lv_aload_n hx hb dX8_cost_0 rfl (lv_at hl 0 rfl) ?_
  refine va_get (ci := 7) (v := .ref a_t_wishes) (C := RX8) (T := TX8) (N := 10) hx hb hts in_X8_cost_X8 hown hK hP 0 rfl rfl 4 (by decide) (hts _ lk_X8_cost_0) (fun _ h9 => h9) rfl dX8_cost_1 ?_
  refine lv_aload_n hx hb dX8_cost_4 rfl (lv_at hl 0 rfl) ?_
  refine va_get (ci := 7) (v := .ref a_t_now) (C := RX8) (T := TX8) (N := 10) hx hb hts in_X8_cost_X8 hown hK hP 0 rfl rfl 1 (by decide) (hts _ lk_X8_cost_1) (fun _ h9 => h9) rfl dX8_cost_5 ?_
  refine va_get (ci := 4) (v := .long t_now_plan) (C := RX5) (T := TX5) (N := 5) hx hb hts in_X8_cost_X5 hown hK hP 1 rfl rfl 1 (by decide) (hts _ lk_X8_cost_2) (fun _ h9 => h9) rfl dX8_cost_8 ?_
  obtain ⟨x1, u2, he3, h⟩ := zz_b2E h
  refine zz_VI (q := (RX7, TX7, 5)) (As := [.long t_now_plan]) (rest := []) (wr := [(a_t, .inr (7, [.ref a_t_text, .ref a_t_now, .ref a_t_slotZero, .ref a_t_slotOne, .ref a_t_wishes, .ref a_t_planner, .ref a_t_mending, .ref a_t_reading, .ref a_t_otherReading, .int t_theYear])), (a_t_now, .inr (4, [.ref a_t_now_paper, .long t_now_plan, .ref a_t_now_timesLate, .ref a_t_now_paid, .int t_now_isKept]))]) (wm := [(a_t, .inr (7, [.ref a_t_text, .ref a_t_now, .ref a_t_slotZero, .ref a_t_slotOne, .ref a_t_wishes, .ref a_t_planner, .ref a_t_mending, .ref a_t_reading, .ref a_t_otherReading, .int t_theYear])), (a_t_now, .inr (4, [.ref a_t_now_paper, .long t_now_plan, .ref a_t_now_timesLate, .ref a_t_now_paid, .int t_now_isKept])), (a_t_wishes, .inr (6, [.int t_wishes_longest, .int t_wishes_perLong, .int t_wishes_perHanding, .int t_wishes_wants, .ref a_t_wishes_against])), (a_t_wishes_against, .inl (cI, 112, .inl t_wishes_against))]) ⟨hx, hb, hml, hown, hts⟩ (ct_X7_costOf l dC dI cI cJ cB cZ a_t_wishes a_t_wishes_against t_wishes_longest t_wishes_perLong t_wishes_perHanding t_wishes_wants t_wishes_against t_now_plan x1 u2 he3) gX8_cost_X7_costOf hd_X7_costOf rfl rfl rfl ⟨Nat.le_of_ble_eq_true rfl, Nat.le_of_ble_eq_true rfl⟩ ⟨Nat.le_of_ble_eq_true rfl, Nat.le_of_ble_eq_true rfl⟩ rfl rfl (Nat.le_of_ble_eq_true rfl) dX8_cost_11 hl.1 rfl (ci := 6) rfl (q0 := 2) rfl hP hK hD hS hA [2, 3] [0, 1] [0, 1, 2, 3] rfl rfl (by decide) (by decide) (by decide) (by decide) rfl (fun H locs hP hD hS => ?_)
  exact zz_iret () hx hb hr hlocks dX8_cost_14 (Option.some.inj h) hP hK hD hS
theorem hd_X8_findBest : yX8_findBest.cls ≠ "java/lang/invoke/MethodHandle" ∧ yX8_findBest.cls ≠ "java/lang/invoke/VarHandle" ∧ (parseMethodDescriptor yX8_findBest.desc).map (fun d => d.parameters.length) = some 0 := by decide +kernel
set_option maxRecDepth 20000 in
theorem in_X8_findBest_X8 : ∀ w ∈ u_ws RX8 TX8 10, w ∈ wsX8_findBest := by decide +kernel
set_option maxRecDepth 20000 in
theorem in_X8_findBest_X4 : ∀ w ∈ u_ws RX4 TX4 3, w ∈ wsX8_findBest := by decide +kernel
set_option maxRecDepth 20000 in
theorem lk_X8_findBest_0 : Cond.fieldLink RX8 39 "TwoHousesOneChild" "planner" "LTwoHousesOneChild$Planner;" ∈ wsX8_findBest := by decide +kernel
set_option maxRecDepth 20000 in
theorem lk_X8_findBest_1 : Cond.fieldLink RX8 32 "TwoHousesOneChild" "wishes" "LTwoHousesOneChild$Wishes;" ∈ wsX8_findBest := by decide +kernel
set_option maxRecDepth 20000 in
theorem lk_X8_findBest_2 : Cond.fieldLink RX8 232 "TwoHousesOneChild$Reading" "zero" "J" ∈ wsX8_findBest := by decide +kernel
set_option maxRecDepth 20000 in
theorem lk_X8_findBest_3 : Cond.fieldLink RX8 226 "TwoHousesOneChild$Reading" "one" "J" ∈ wsX8_findBest := by decide +kernel
set_option maxHeartbeats 4000000 in
set_option maxRecDepth 100000 in
theorem ct_X8_findBest (l : Launch) (dC : Nat → ClassId) (dI : Nat → Nat → Nat) (cI cJ cB cZ : ClassId) (a_t a_t_now a_t_now_paper a_t_now_paper_numbers a_t_now_paper_ones a_t_now_paper_ranks a_t_now_paper_told a_t_now_paper_turnsByYear a_t_planner a_t_planner_costBehind a_t_planner_planBehind a_t_reading a_t_wishes a_t_wishes_against a_t_text a_t_slotZero a_t_slotOne a_t_mending a_t_otherReading a_t_now_timesLate a_t_now_paid : Nat) (t_theYear : Int32) (t_now_plan : Int64) (t_now_isKept : Int32) (t_now_paper_size : Int32) (t_now_paper_numbers : (Nat → Int32)) (t_now_paper_ones : (Nat → Int64)) (t_now_paper_ranks : (Nat → Int32)) (t_now_paper_told : (Nat → Int64)) (t_now_paper_turnsByYear : (Nat → Int32)) (t_planner_leastCost : Int32) (t_planner_bestPlan : Int64) (t_planner_costBehind : (Nat → Int32)) (t_planner_planBehind : (Nat → Int64)) (t_reading_zero : Int64) (t_reading_one : Int64) (t_reading_fights : Int64) (t_wishes_longest : Int32) (t_wishes_perLong : Int32) (t_wishes_perHanding : Int32) (t_wishes_wants : Int32) (t_wishes_against : (Nat → Int32)) (o1 : Int32) (o2 : Int64) (o3 : (Nat → Int32)) (o4 : (Nat → Int64)) (o5 : Int64) (o6 : Int64) (o7 : Int64) (h : fn_X8_findBest t_theYear t_now_paper_size t_now_paper_numbers t_now_paper_ones t_now_paper_ranks t_now_paper_told t_now_paper_turnsByYear t_planner_costBehind t_planner_planBehind t_wishes_longest t_wishes_perLong t_wishes_perHanding t_wishes_against = some (o1, o2, o3, o4, o5, o6, o7)) : zz_M l yX8_findBest wsX8_findBest ({ frames := 4, cells := 0, slots := 0, locals := 98 }) (dC, dI) (zz_T cI cJ cB cZ) [.ref a_t] [(a_t, .inr (7, [.ref a_t_text, .ref a_t_now, .ref a_t_slotZero, .ref a_t_slotOne, .ref a_t_wishes, .ref a_t_planner, .ref a_t_mending, .ref a_t_reading, .ref a_t_otherReading, .int t_theYear])), (a_t_now, .inr (4, [.ref a_t_now_paper, .long t_now_plan, .ref a_t_now_timesLate, .ref a_t_now_paid, .int t_now_isKept])), (a_t_now_paper, .inr (1, [.int t_now_paper_size, .ref a_t_now_paper_numbers, .ref a_t_now_paper_ranks, .ref a_t_now_paper_told, .ref a_t_now_paper_ones, .ref a_t_now_paper_turnsByYear])), (a_t_now_paper_numbers, .inl (cI, 10, .inl t_now_paper_numbers)), (a_t_now_paper_ones, .inl (cJ, 10, .inr (.inl t_now_paper_ones))), (a_t_now_paper_ranks, .inl (cI, 10, .inl t_now_paper_ranks)), (a_t_now_paper_told, .inl (cJ, 10, .inr (.inl t_now_paper_told))), (a_t_now_paper_turnsByYear, .inl (cZ, 10, .inl t_now_paper_turnsByYear)), (a_t_planner, .inr (2, [.ref a_t_planner_costBehind, .ref a_t_planner_planBehind, .int t_planner_leastCost, .long t_planner_bestPlan])), (a_t_planner_costBehind, .inl (cI, 30, .inl t_planner_costBehind)), (a_t_planner_planBehind, .inl (cJ, 30, .inr (.inl t_planner_planBehind))), (a_t_reading, .inr (3, [.long t_reading_zero, .long t_reading_one, .long t_reading_fights])), (a_t_wishes, .inr (6, [.int t_wishes_longest, .int t_wishes_perLong, .int t_wishes_perHanding, .int t_wishes_wants, .ref a_t_wishes_against])), (a_t_wishes_against, .inl (cI, 112, .inl t_wishes_against))] (zz_QV (dC, dI) (zz_T cI cJ cB cZ) (o1, o2, o3, o4, o5, o6, o7) (fun (u : Int32 × Int64 × (Nat → Int32) × (Nat → Int64) × Int64 × Int64 × Int64) => [(a_t, .inr (7, [.ref a_t_text, .ref a_t_now, .ref a_t_slotZero, .ref a_t_slotOne, .ref a_t_wishes, .ref a_t_planner, .ref a_t_mending, .ref a_t_reading, .ref a_t_otherReading, .int t_theYear])), (a_t_now, .inr (4, [.ref a_t_now_paper, .long t_now_plan, .ref a_t_now_timesLate, .ref a_t_now_paid, .int t_now_isKept])), (a_t_now_paper, .inr (1, [.int t_now_paper_size, .ref a_t_now_paper_numbers, .ref a_t_now_paper_ranks, .ref a_t_now_paper_told, .ref a_t_now_paper_ones, .ref a_t_now_paper_turnsByYear])), (a_t_now_paper_numbers, .inl (cI, 10, .inl t_now_paper_numbers)), (a_t_now_paper_ones, .inl (cJ, 10, .inr (.inl t_now_paper_ones))), (a_t_now_paper_ranks, .inl (cI, 10, .inl t_now_paper_ranks)), (a_t_now_paper_told, .inl (cJ, 10, .inr (.inl t_now_paper_told))), (a_t_now_paper_turnsByYear, .inl (cZ, 10, .inl t_now_paper_turnsByYear)), (a_t_planner, .inr (2, [.ref a_t_planner_costBehind, .ref a_t_planner_planBehind, .int u.1, .long u.2.1])), (a_t_planner_costBehind, .inl (cI, 30, .inl u.2.2.1)), (a_t_planner_planBehind, .inl (cJ, 30, .inr (.inl u.2.2.2.1))), (a_t_reading, .inr (3, [.long u.2.2.2.2.1, .long u.2.2.2.2.2.1, .long u.2.2.2.2.2.2])), (a_t_wishes, .inr (6, [.int t_wishes_longest, .int t_wishes_perLong, .int t_wishes_perHanding, .int t_wishes_wants, .ref a_t_wishes_against])), (a_t_wishes_against, .inl (cI, 112, .inl t_wishes_against))])) := by
  unfold fn_X8_findBest at h
  refine zz_of (by decide) rfl (Nat.le_of_ble_eq_true rfl) ?_
  intro p e s m below meth c A ls hx hb hr hml hts hown hlocks hA hS hP hK hD hl
  have hown : s.vm.findClass RX8 = some m.cls := hown
  have hl : lv_has ls 2 [(0, .ref a_t)] := hl
  refine lv_aload_n hx hb dX8_findBest_0 rfl (lv_at hl 0 rfl) ?_
  obtain ⟨x1, x2, x3, he4, h⟩ := zz_b3E h
  refine zz_VR (q := (RX8, TX8, 10)) (As := []) (rest := []) (wr := [(a_t_planner, .inr (2, [.ref a_t_planner_costBehind, .ref a_t_planner_planBehind, .int t_planner_leastCost, .long t_planner_bestPlan])), (a_t_planner_costBehind, .inl (cI, 30, .inl t_planner_costBehind)), (a_t_planner_planBehind, .inl (cJ, 30, .inr (.inl t_planner_planBehind))), (a_t_wishes, .inr (6, [.int t_wishes_longest, .int t_wishes_perLong, .int t_wishes_perHanding, .int t_wishes_wants, .ref a_t_wishes_against])), (a_t_wishes_against, .inl (cI, 112, .inl t_wishes_against))]) (wm := [(a_t, .inr (7, [.ref a_t_text, .ref a_t_now, .ref a_t_slotZero, .ref a_t_slotOne, .ref a_t_wishes, .ref a_t_planner, .ref a_t_mending, .ref a_t_reading, .ref a_t_otherReading, .int t_theYear])), (a_t_now, .inr (4, [.ref a_t_now_paper, .long t_now_plan, .ref a_t_now_timesLate, .ref a_t_now_paid, .int t_now_isKept])), (a_t_now_paper, .inr (1, [.int t_now_paper_size, .ref a_t_now_paper_numbers, .ref a_t_now_paper_ranks, .ref a_t_now_paper_told, .ref a_t_now_paper_ones, .ref a_t_now_paper_turnsByYear])), (a_t_now_paper_numbers, .inl (cI, 10, .inl t_now_paper_numbers)), (a_t_now_paper_ones, .inl (cJ, 10, .inr (.inl t_now_paper_ones))), (a_t_now_paper_ranks, .inl (cI, 10, .inl t_now_paper_ranks)), (a_t_now_paper_told, .inl (cJ, 10, .inr (.inl t_now_paper_told))), (a_t_now_paper_turnsByYear, .inl (cZ, 10, .inl t_now_paper_turnsByYear)), (a_t_planner, .inr (2, [.ref a_t_planner_costBehind, .ref a_t_planner_planBehind, .int t_planner_leastCost, .long t_planner_bestPlan])), (a_t_planner_costBehind, .inl (cI, 30, .inl t_planner_costBehind)), (a_t_planner_planBehind, .inl (cJ, 30, .inr (.inl t_planner_planBehind))), (a_t_reading, .inr (3, [.long x1, .long x2, .long x3])), (a_t_wishes, .inr (6, [.int t_wishes_longest, .int t_wishes_perLong, .int t_wishes_perHanding, .int t_wishes_wants, .ref a_t_wishes_against])), (a_t_wishes_against, .inl (cI, 112, .inl t_wishes_against))]) ⟨hx, hb, hml, hown, hts⟩ (ct_X8_readPaper l dC dI cI cJ cB cZ a_t a_t_now a_t_now_paper a_t_now_paper_numbers a_t_now_paper_ones a_t_now_paper_ranks a_t_now_paper_told a_t_now_paper_turnsByYear a_t_reading a_t_text a_t_slotZero a_t_slotOne a_t_wishes a_t_planner a_t_mending a_t_otherReading a_t_now_timesLate a_t_now_paid t_theYear t_now_plan t_now_isKept t_now_paper_size t_now_paper_numbers t_now_paper_ones t_now_paper_ranks t_now_paper_told t_now_paper_turnsByYear t_reading_zero t_reading_one t_reading_fights x1 x2 x3 he4) gX8_findBest_X8_readPaper hd_X8_readPaper rfl rfl rfl ⟨Nat.le_of_ble_eq_true rfl, Nat.le_of_ble_eq_true rfl⟩ ⟨Nat.le_of_ble_eq_true rfl, Nat.le_of_ble_eq_true rfl⟩ rfl rfl (Nat.le_of_ble_eq_true rfl) dX8_findBest_1 hl.1 rfl (ci := 7) rfl (q0 := 0) rfl hP hK hD hS hA [0, 1, 2, 3, 4, 5, 6, 7, 11] [8, 9, 10, 12, 13] [5, 6, 7, 8, 9, 10, 11, 12, 0, 1, 2, 13, 3, 4] rfl rfl (by decide) (by decide) (by decide) (by decide) rfl (fun H locs hP hD hS => ?_)
  refine lv_astore_n (lv' := [(1, .ref a_t_reading), (0, .ref a_t)]) hx hb dX8_findBest_4 rfl hl (by decide) rfl (fun ls hl => ?_)
  refine lv_aload_n hx hb dX8_findBest_5 rfl (lv_at hl 1 rfl) ?_
  refine va_get (ci := 7) (v := .ref a_t_planner) (C := RX8) (T := TX8) (N := 10) hx hb hts in_X8_findBest_X8 hown hK hP 0 rfl rfl 5 (by decide) (hts _ lk_X8_findBest_0) (fun _ h9 => h9) rfl dX8_findBest_6 ?_
  refine lv_aload_n hx hb dX8_findBest_9 rfl (lv_at hl 1 rfl) ?_
  refine va_get (ci := 7) (v := .ref a_t_wishes) (C := RX8) (T := TX8) (N := 10) hx hb hts in_X8_findBest_X8 hown hK hP 0 rfl rfl 4 (by decide) (hts _ lk_X8_findBest_1) (fun _ h9 => h9) rfl dX8_findBest_10 ?_
  refine lv_aload_n hx hb dX8_findBest_13 rfl (lv_at hl 0 rfl) ?_
  refine va_get (ci := 3) (v := .long x1) (C := RX4) (T := TX4) (N := 3) hx hb hts in_X8_findBest_X4 hown hK hP 11 rfl rfl 0 (by decide) (hts _ lk_X8_findBest_2) (fun _ h9 => h9) rfl dX8_findBest_14 ?_
  refine lv_aload_n hx hb dX8_findBest_17 rfl (lv_at hl 0 rfl) ?_
  refine va_get (ci := 3) (v := .long x2) (C := RX4) (T := TX4) (N := 3) hx hb hts in_X8_findBest_X4 hown hK hP 11 rfl rfl 1 (by decide) (hts _ lk_X8_findBest_3) (fun _ h9 => h9) rfl dX8_findBest_18 ?_
  obtain ⟨x5, x6, g7, g8, he9, h⟩ := zz_b4E h
  refine zz_VV (q := (RX3, TX3, 4)) (As := [.ref a_t_wishes, .long x1, .long x2]) (rest := []) (wr := [(a_t, .inr (7, [.ref a_t_text, .ref a_t_now, .ref a_t_slotZero, .ref a_t_slotOne, .ref a_t_wishes, .ref a_t_planner, .ref a_t_mending, .ref a_t_reading, .ref a_t_otherReading, .int t_theYear])), (a_t_now, .inr (4, [.ref a_t_now_paper, .long t_now_plan, .ref a_t_now_timesLate, .ref a_t_now_paid, .int t_now_isKept])), (a_t_now_paper, .inr (1, [.int t_now_paper_size, .ref a_t_now_paper_numbers, .ref a_t_now_paper_ranks, .ref a_t_now_paper_told, .ref a_t_now_paper_ones, .ref a_t_now_paper_turnsByYear])), (a_t_now_paper_numbers, .inl (cI, 10, .inl t_now_paper_numbers)), (a_t_now_paper_ones, .inl (cJ, 10, .inr (.inl t_now_paper_ones))), (a_t_now_paper_ranks, .inl (cI, 10, .inl t_now_paper_ranks)), (a_t_now_paper_told, .inl (cJ, 10, .inr (.inl t_now_paper_told))), (a_t_now_paper_turnsByYear, .inl (cZ, 10, .inl t_now_paper_turnsByYear)), (a_t_reading, .inr (3, [.long x1, .long x2, .long x3]))]) (wm := [(a_t, .inr (7, [.ref a_t_text, .ref a_t_now, .ref a_t_slotZero, .ref a_t_slotOne, .ref a_t_wishes, .ref a_t_planner, .ref a_t_mending, .ref a_t_reading, .ref a_t_otherReading, .int t_theYear])), (a_t_now, .inr (4, [.ref a_t_now_paper, .long t_now_plan, .ref a_t_now_timesLate, .ref a_t_now_paid, .int t_now_isKept])), (a_t_now_paper, .inr (1, [.int t_now_paper_size, .ref a_t_now_paper_numbers, .ref a_t_now_paper_ranks, .ref a_t_now_paper_told, .ref a_t_now_paper_ones, .ref a_t_now_paper_turnsByYear])), (a_t_now_paper_numbers, .inl (cI, 10, .inl t_now_paper_numbers)), (a_t_now_paper_ones, .inl (cJ, 10, .inr (.inl t_now_paper_ones))), (a_t_now_paper_ranks, .inl (cI, 10, .inl t_now_paper_ranks)), (a_t_now_paper_told, .inl (cJ, 10, .inr (.inl t_now_paper_told))), (a_t_now_paper_turnsByYear, .inl (cZ, 10, .inl t_now_paper_turnsByYear)), (a_t_planner, .inr (2, [.ref a_t_planner_costBehind, .ref a_t_planner_planBehind, .int x5, .long x6])), (a_t_planner_costBehind, .inl (cI, 30, .inl g7)), (a_t_planner_planBehind, .inl (cJ, 30, .inr (.inl g8))), (a_t_reading, .inr (3, [.long x1, .long x2, .long x3])), (a_t_wishes, .inr (6, [.int t_wishes_longest, .int t_wishes_perLong, .int t_wishes_perHanding, .int t_wishes_wants, .ref a_t_wishes_against])), (a_t_wishes_against, .inl (cI, 112, .inl t_wishes_against))]) ⟨hx, hb, hml, hown, hts⟩ (ct_X3_find l dC dI cI cJ cB cZ a_t_wishes a_t_wishes_against a_t_planner a_t_planner_costBehind a_t_planner_planBehind t_wishes_longest t_wishes_perLong t_wishes_perHanding t_wishes_wants t_wishes_against t_planner_leastCost t_planner_bestPlan t_planner_costBehind t_planner_planBehind x1 x2 x5 x6 g7 g8 he9) gX8_findBest_X3_find hd_X3_find rfl rfl rfl ⟨Nat.le_of_ble_eq_true rfl, Nat.le_of_ble_eq_true rfl⟩ ⟨Nat.le_of_ble_eq_true rfl, Nat.le_of_ble_eq_true rfl⟩ rfl rfl (Nat.le_of_ble_eq_true rfl) dX8_findBest_21 hl.1 rfl (ci := 2) rfl (q0 := 8) rfl hP hK hD hS hA [12, 13, 8, 9, 10] [0, 1, 2, 3, 4, 5, 6, 7, 11] [0, 1, 2, 3, 4, 5, 6, 7, 11, 12, 13, 8, 9, 10] rfl rfl (by decide) (by decide) (by decide) (by decide) rfl (fun H locs hP hD hS => ?_)
  exact zz_vret (x5, x6, g7, g8, x1, x2, x3) hx hb hr hlocks dX8_findBest_24 (Option.some.inj h) hP hK hD hS
theorem hd_X8_best : yX8_best.cls ≠ "java/lang/invoke/MethodHandle" ∧ yX8_best.cls ≠ "java/lang/invoke/VarHandle" ∧ (parseMethodDescriptor yX8_best.desc).map (fun d => d.parameters.length) = some 0 := by decide +kernel
set_option maxRecDepth 20000 in
theorem in_X8_best_X8 : ∀ w ∈ u_ws RX8 TX8 10, w ∈ wsX8_best := by decide +kernel
set_option maxRecDepth 20000 in
theorem in_X8_best_X3 : ∀ w ∈ u_ws RX3 TX3 4, w ∈ wsX8_best := by decide +kernel
set_option maxRecDepth 20000 in
theorem lk_X8_best_0 : Cond.fieldLink RX8 39 "TwoHousesOneChild" "planner" "LTwoHousesOneChild$Planner;" ∈ wsX8_best := by decide +kernel
set_option maxRecDepth 20000 in
theorem lk_X8_best_1 : Cond.fieldLink RX8 186 "TwoHousesOneChild$Planner" "leastCost" "I" ∈ wsX8_best := by decide +kernel
set_option maxHeartbeats 4000000 in
set_option maxRecDepth 100000 in
theorem ct_X8_best (l : Launch) (dC : Nat → ClassId) (dI : Nat → Nat → Nat) (cI cJ cB cZ : ClassId) (a_t a_t_now a_t_now_paper a_t_now_paper_numbers a_t_now_paper_ones a_t_now_paper_ranks a_t_now_paper_told a_t_now_paper_turnsByYear a_t_planner a_t_planner_costBehind a_t_planner_planBehind a_t_reading a_t_wishes a_t_wishes_against a_t_text a_t_slotZero a_t_slotOne a_t_mending a_t_otherReading a_t_now_timesLate a_t_now_paid : Nat) (t_theYear : Int32) (t_now_plan : Int64) (t_now_isKept : Int32) (t_now_paper_size : Int32) (t_now_paper_numbers : (Nat → Int32)) (t_now_paper_ones : (Nat → Int64)) (t_now_paper_ranks : (Nat → Int32)) (t_now_paper_told : (Nat → Int64)) (t_now_paper_turnsByYear : (Nat → Int32)) (t_planner_leastCost : Int32) (t_planner_bestPlan : Int64) (t_planner_costBehind : (Nat → Int32)) (t_planner_planBehind : (Nat → Int64)) (t_reading_zero : Int64) (t_reading_one : Int64) (t_reading_fights : Int64) (t_wishes_longest : Int32) (t_wishes_perLong : Int32) (t_wishes_perHanding : Int32) (t_wishes_wants : Int32) (t_wishes_against : (Nat → Int32)) (rr : Int32) (o1 : Int32) (o2 : Int64) (o3 : (Nat → Int32)) (o4 : (Nat → Int64)) (o5 : Int64) (o6 : Int64) (o7 : Int64) (h : fn_X8_best t_theYear t_now_paper_size t_now_paper_numbers t_now_paper_ones t_now_paper_ranks t_now_paper_told t_now_paper_turnsByYear t_planner_costBehind t_planner_planBehind t_wishes_longest t_wishes_perLong t_wishes_perHanding t_wishes_against = some (rr, o1, o2, o3, o4, o5, o6, o7)) : zz_M l yX8_best wsX8_best ({ frames := 5, cells := 0, slots := 0, locals := 119 }) (dC, dI) (zz_T cI cJ cB cZ) [.ref a_t] [(a_t, .inr (7, [.ref a_t_text, .ref a_t_now, .ref a_t_slotZero, .ref a_t_slotOne, .ref a_t_wishes, .ref a_t_planner, .ref a_t_mending, .ref a_t_reading, .ref a_t_otherReading, .int t_theYear])), (a_t_now, .inr (4, [.ref a_t_now_paper, .long t_now_plan, .ref a_t_now_timesLate, .ref a_t_now_paid, .int t_now_isKept])), (a_t_now_paper, .inr (1, [.int t_now_paper_size, .ref a_t_now_paper_numbers, .ref a_t_now_paper_ranks, .ref a_t_now_paper_told, .ref a_t_now_paper_ones, .ref a_t_now_paper_turnsByYear])), (a_t_now_paper_numbers, .inl (cI, 10, .inl t_now_paper_numbers)), (a_t_now_paper_ones, .inl (cJ, 10, .inr (.inl t_now_paper_ones))), (a_t_now_paper_ranks, .inl (cI, 10, .inl t_now_paper_ranks)), (a_t_now_paper_told, .inl (cJ, 10, .inr (.inl t_now_paper_told))), (a_t_now_paper_turnsByYear, .inl (cZ, 10, .inl t_now_paper_turnsByYear)), (a_t_planner, .inr (2, [.ref a_t_planner_costBehind, .ref a_t_planner_planBehind, .int t_planner_leastCost, .long t_planner_bestPlan])), (a_t_planner_costBehind, .inl (cI, 30, .inl t_planner_costBehind)), (a_t_planner_planBehind, .inl (cJ, 30, .inr (.inl t_planner_planBehind))), (a_t_reading, .inr (3, [.long t_reading_zero, .long t_reading_one, .long t_reading_fights])), (a_t_wishes, .inr (6, [.int t_wishes_longest, .int t_wishes_perLong, .int t_wishes_perHanding, .int t_wishes_wants, .ref a_t_wishes_against])), (a_t_wishes_against, .inl (cI, 112, .inl t_wishes_against))] (zz_QI (dC, dI) (zz_T cI cJ cB cZ) (rr, o1, o2, o3, o4, o5, o6, o7) (fun (u : Int32 × Int64 × (Nat → Int32) × (Nat → Int64) × Int64 × Int64 × Int64) => [(a_t, .inr (7, [.ref a_t_text, .ref a_t_now, .ref a_t_slotZero, .ref a_t_slotOne, .ref a_t_wishes, .ref a_t_planner, .ref a_t_mending, .ref a_t_reading, .ref a_t_otherReading, .int t_theYear])), (a_t_now, .inr (4, [.ref a_t_now_paper, .long t_now_plan, .ref a_t_now_timesLate, .ref a_t_now_paid, .int t_now_isKept])), (a_t_now_paper, .inr (1, [.int t_now_paper_size, .ref a_t_now_paper_numbers, .ref a_t_now_paper_ranks, .ref a_t_now_paper_told, .ref a_t_now_paper_ones, .ref a_t_now_paper_turnsByYear])), (a_t_now_paper_numbers, .inl (cI, 10, .inl t_now_paper_numbers)), (a_t_now_paper_ones, .inl (cJ, 10, .inr (.inl t_now_paper_ones))), (a_t_now_paper_ranks, .inl (cI, 10, .inl t_now_paper_ranks)), (a_t_now_paper_told, .inl (cJ, 10, .inr (.inl t_now_paper_told))), (a_t_now_paper_turnsByYear, .inl (cZ, 10, .inl t_now_paper_turnsByYear)), (a_t_planner, .inr (2, [.ref a_t_planner_costBehind, .ref a_t_planner_planBehind, .int u.1, .long u.2.1])), (a_t_planner_costBehind, .inl (cI, 30, .inl u.2.2.1)), (a_t_planner_planBehind, .inl (cJ, 30, .inr (.inl u.2.2.2.1))), (a_t_reading, .inr (3, [.long u.2.2.2.2.1, .long u.2.2.2.2.2.1, .long u.2.2.2.2.2.2])), (a_t_wishes, .inr (6, [.int t_wishes_longest, .int t_wishes_perLong, .int t_wishes_perHanding, .int t_wishes_wants, .ref a_t_wishes_against])), (a_t_wishes_against, .inl (cI, 112, .inl t_wishes_against))])) := by
  unfold fn_X8_best at h
  refine zz_of (by decide) rfl (Nat.le_of_ble_eq_true rfl) ?_
  intro p e s m below meth c A ls hx hb hr hml hts hown hlocks hA hS hP hK hD hl
  have hown : s.vm.findClass RX8 = some m.cls := hown
  have hl : lv_has ls 1 [(0, .ref a_t)] := hl
  refine lv_aload_n hx hb dX8_best_0 rfl (lv_at hl 0 rfl) ?_
  obtain ⟨x1, x2, g3, g4, x5, x6, x7, he8, h⟩ := zz_b7E h
  refine zz_VV (q := (RX8, TX8, 10)) (As := []) (rest := []) (wr := []) (wm := [(a_t, .inr (7, [.ref a_t_text, .ref a_t_now, .ref a_t_slotZero, .ref a_t_slotOne, .ref a_t_wishes, .ref a_t_planner, .ref a_t_mending, .ref a_t_reading, .ref a_t_otherReading, .int t_theYear])), (a_t_now, .inr (4, [.ref a_t_now_paper, .long t_now_plan, .ref a_t_now_timesLate, .ref a_t_now_paid, .int t_now_isKept])), (a_t_now_paper, .inr (1, [.int t_now_paper_size, .ref a_t_now_paper_numbers, .ref a_t_now_paper_ranks, .ref a_t_now_paper_told, .ref a_t_now_paper_ones, .ref a_t_now_paper_turnsByYear])), (a_t_now_paper_numbers, .inl (cI, 10, .inl t_now_paper_numbers)), (a_t_now_paper_ones, .inl (cJ, 10, .inr (.inl t_now_paper_ones))), (a_t_now_paper_ranks, .inl (cI, 10, .inl t_now_paper_ranks)), (a_t_now_paper_told, .inl (cJ, 10, .inr (.inl t_now_paper_told))), (a_t_now_paper_turnsByYear, .inl (cZ, 10, .inl t_now_paper_turnsByYear)), (a_t_planner, .inr (2, [.ref a_t_planner_costBehind, .ref a_t_planner_planBehind, .int x1, .long x2])), (a_t_planner_costBehind, .inl (cI, 30, .inl g3)), (a_t_planner_planBehind, .inl (cJ, 30, .inr (.inl g4))), (a_t_reading, .inr (3, [.long x5, .long x6, .long x7])), (a_t_wishes, .inr (6, [.int t_wishes_longest, .int t_wishes_perLong, .int t_wishes_perHanding, .int t_wishes_wants, .ref a_t_wishes_against])), (a_t_wishes_against, .inl (cI, 112, .inl t_wishes_against))]) ⟨hx, hb, hml, hown, hts⟩ (ct_X8_findBest l dC dI cI cJ cB cZ a_t a_t_now a_t_now_paper a_t_now_paper_numbers a_t_now_paper_ones a_t_now_paper_ranks a_t_now_paper_told a_t_now_paper_turnsByYear a_t_planner a_t_planner_costBehind a_t_planner_planBehind a_t_reading a_t_wishes a_t_wishes_against a_t_text a_t_slotZero a_t_slotOne a_t_mending a_t_otherReading a_t_now_timesLate a_t_now_paid t_theYear t_now_plan t_now_isKept t_now_paper_size t_now_paper_numbers t_now_paper_ones t_now_paper_ranks t_now_paper_told t_now_paper_turnsByYear t_planner_leastCost t_planner_bestPlan t_planner_costBehind t_planner_planBehind t_reading_zero t_reading_one t_reading_fights t_wishes_longest t_wishes_perLong t_wishes_perHanding t_wishes_wants t_wishes_against x1 x2 g3 g4 x5 x6 x7 he8) gX8_best_X8_findBest hd_X8_findBest rfl rfl rfl ⟨Nat.le_of_ble_eq_true rfl, Nat.le_of_ble_eq_true rfl⟩ ⟨Nat.le_of_ble_eq_true rfl, Nat.le_of_ble_eq_true rfl⟩ rfl rfl (Nat.le_of_ble_eq_true rfl) dX8_best_1 hl.1 rfl (ci := 7) rfl (q0 := 0) rfl hP hK hD hS hA [0, 1, 2, 3, 4, 5, 6, 7, 8, 9, 10, 11, 12, 13] [] [0, 1, 2, 3, 4, 5, 6, 7, 8, 9, 10, 11, 12, 13] rfl rfl (by decide) (by decide) (by decide) (by decide) rfl (fun H locs hP hD hS => ?_)
  refine lv_aload_n hx hb dX8_best_4 rfl (lv_at hl 0 rfl) ?_
  refine va_get (ci := 7) (v := .ref a_t_planner) (C := RX8) (T := TX8) (N := 10) hx hb hts in_X8_best_X8 hown hK hP 0 rfl rfl 5 (by decide) (hts _ lk_X8_best_0) (fun _ h9 => h9) rfl dX8_best_5 ?_
  refine va_get (ci := 2) (v := .int x1) (C := RX3) (T := TX3) (N := 4) hx hb hts in_X8_best_X3 hown hK hP 8 rfl rfl 2 (by decide) (hts _ lk_X8_best_1) (fun _ h9 => h9) rfl dX8_best_8 ?_
  exact zz_iret (x1, x2, g3, g4, x5, x6, x7) hx hb hr hlocks dX8_best_11 (Option.some.inj h) hP hK hD hS
theorem hd_X8_bestAt : yX8_bestAt.cls ≠ "java/lang/invoke/MethodHandle" ∧ yX8_bestAt.cls ≠ "java/lang/invoke/VarHandle" ∧ (parseMethodDescriptor yX8_bestAt.desc).map (fun d => d.parameters.length) = some 1 := by decide +kernel
set_option maxRecDepth 20000 in
theorem in_X8_bestAt_X8 : ∀ w ∈ u_ws RX8 TX8 10, w ∈ wsX8_bestAt := by decide +kernel
set_option maxRecDepth 20000 in
theorem in_X8_bestAt_X3 : ∀ w ∈ u_ws RX3 TX3 4, w ∈ wsX8_bestAt := by decide +kernel
set_option maxRecDepth 20000 in
theorem lk_X8_bestAt_0 : Cond.fieldLink RX8 39 "TwoHousesOneChild" "planner" "LTwoHousesOneChild$Planner;" ∈ wsX8_bestAt := by decide +kernel
set_option maxRecDepth 20000 in
theorem lk_X8_bestAt_1 : Cond.fieldLink RX8 189 "TwoHousesOneChild$Planner" "bestPlan" "J" ∈ wsX8_bestAt := by decide +kernel
set_option maxHeartbeats 4000000 in
set_option maxRecDepth 100000 in
theorem ct_X8_bestAt (l : Launch) (dC : Nat → ClassId) (dI : Nat → Nat → Nat) (cI cJ cB cZ : ClassId) (a_t a_t_now a_t_now_paper a_t_now_paper_numbers a_t_now_paper_ones a_t_now_paper_ranks a_t_now_paper_told a_t_now_paper_turnsByYear a_t_planner a_t_planner_costBehind a_t_planner_planBehind a_t_reading a_t_wishes a_t_wishes_against a_t_text a_t_slotZero a_t_slotOne a_t_mending a_t_otherReading a_t_now_timesLate a_t_now_paid : Nat) (t_theYear : Int32) (t_now_plan : Int64) (t_now_isKept : Int32) (t_now_paper_size : Int32) (t_now_paper_numbers : (Nat → Int32)) (t_now_paper_ones : (Nat → Int64)) (t_now_paper_ranks : (Nat → Int32)) (t_now_paper_told : (Nat → Int64)) (t_now_paper_turnsByYear : (Nat → Int32)) (t_planner_leastCost : Int32) (t_planner_bestPlan : Int64) (t_planner_costBehind : (Nat → Int32)) (t_planner_planBehind : (Nat → Int64)) (t_reading_zero : Int64) (t_reading_one : Int64) (t_reading_fights : Int64) (t_wishes_longest : Int32) (t_wishes_perLong : Int32) (t_wishes_perHanding : Int32) (t_wishes_wants : Int32) (t_wishes_against : (Nat → Int32)) (p1 : Int32) (rr : Int32) (o1 : Int32) (o2 : Int64) (o3 : (Nat → Int32)) (o4 : (Nat → Int64)) (o5 : Int64) (o6 : Int64) (o7 : Int64) (h : fn_X8_bestAt t_theYear t_now_paper_size t_now_paper_numbers t_now_paper_ones t_now_paper_ranks t_now_paper_told t_now_paper_turnsByYear t_planner_leastCost t_planner_bestPlan t_planner_costBehind t_planner_planBehind t_reading_zero t_reading_one t_reading_fights t_wishes_longest t_wishes_perLong t_wishes_perHanding t_wishes_against p1 = some (rr, o1, o2, o3, o4, o5, o6, o7)) : zz_M l yX8_bestAt wsX8_bestAt ({ frames := 5, cells := 0, slots := 0, locals := 119 }) (dC, dI) (zz_T cI cJ cB cZ) [.ref a_t, .int p1] [(a_t, .inr (7, [.ref a_t_text, .ref a_t_now, .ref a_t_slotZero, .ref a_t_slotOne, .ref a_t_wishes, .ref a_t_planner, .ref a_t_mending, .ref a_t_reading, .ref a_t_otherReading, .int t_theYear])), (a_t_now, .inr (4, [.ref a_t_now_paper, .long t_now_plan, .ref a_t_now_timesLate, .ref a_t_now_paid, .int t_now_isKept])), (a_t_now_paper, .inr (1, [.int t_now_paper_size, .ref a_t_now_paper_numbers, .ref a_t_now_paper_ranks, .ref a_t_now_paper_told, .ref a_t_now_paper_ones, .ref a_t_now_paper_turnsByYear])), (a_t_now_paper_numbers, .inl (cI, 10, .inl t_now_paper_numbers)), (a_t_now_paper_ones, .inl (cJ, 10, .inr (.inl t_now_paper_ones))), (a_t_now_paper_ranks, .inl (cI, 10, .inl t_now_paper_ranks)), (a_t_now_paper_told, .inl (cJ, 10, .inr (.inl t_now_paper_told))), (a_t_now_paper_turnsByYear, .inl (cZ, 10, .inl t_now_paper_turnsByYear)), (a_t_planner, .inr (2, [.ref a_t_planner_costBehind, .ref a_t_planner_planBehind, .int t_planner_leastCost, .long t_planner_bestPlan])), (a_t_planner_costBehind, .inl (cI, 30, .inl t_planner_costBehind)), (a_t_planner_planBehind, .inl (cJ, 30, .inr (.inl t_planner_planBehind))), (a_t_reading, .inr (3, [.long t_reading_zero, .long t_reading_one, .long t_reading_fights])), (a_t_wishes, .inr (6, [.int t_wishes_longest, .int t_wishes_perLong, .int t_wishes_perHanding, .int t_wishes_wants, .ref a_t_wishes_against])), (a_t_wishes_against, .inl (cI, 112, .inl t_wishes_against))] (zz_QI (dC, dI) (zz_T cI cJ cB cZ) (rr, o1, o2, o3, o4, o5, o6, o7) (fun (u : Int32 × Int64 × (Nat → Int32) × (Nat → Int64) × Int64 × Int64 × Int64) => [(a_t, .inr (7, [.ref a_t_text, .ref a_t_now, .ref a_t_slotZero, .ref a_t_slotOne, .ref a_t_wishes, .ref a_t_planner, .ref a_t_mending, .ref a_t_reading, .ref a_t_otherReading, .int t_theYear])), (a_t_now, .inr (4, [.ref a_t_now_paper, .long t_now_plan, .ref a_t_now_timesLate, .ref a_t_now_paid, .int t_now_isKept])), (a_t_now_paper, .inr (1, [.int t_now_paper_size, .ref a_t_now_paper_numbers, .ref a_t_now_paper_ranks, .ref a_t_now_paper_told, .ref a_t_now_paper_ones, .ref a_t_now_paper_turnsByYear])), (a_t_now_paper_numbers, .inl (cI, 10, .inl t_now_paper_numbers)), (a_t_now_paper_ones, .inl (cJ, 10, .inr (.inl t_now_paper_ones))), (a_t_now_paper_ranks, .inl (cI, 10, .inl t_now_paper_ranks)), (a_t_now_paper_told, .inl (cJ, 10, .inr (.inl t_now_paper_told))), (a_t_now_paper_turnsByYear, .inl (cZ, 10, .inl t_now_paper_turnsByYear)), (a_t_planner, .inr (2, [.ref a_t_planner_costBehind, .ref a_t_planner_planBehind, .int u.1, .long u.2.1])), (a_t_planner_costBehind, .inl (cI, 30, .inl u.2.2.1)), (a_t_planner_planBehind, .inl (cJ, 30, .inr (.inl u.2.2.2.1))), (a_t_reading, .inr (3, [.long u.2.2.2.2.1, .long u.2.2.2.2.2.1, .long u.2.2.2.2.2.2])), (a_t_wishes, .inr (6, [.int t_wishes_longest, .int t_wishes_perLong, .int t_wishes_perHanding, .int t_wishes_wants, .ref a_t_wishes_against])), (a_t_wishes_against, .inl (cI, 112, .inl t_wishes_against))])) := by
  unfold fn_X8_bestAt at h
  refine zz_of (by decide) rfl (Nat.le_of_ble_eq_true rfl) ?_
  intro p e s m below meth c A ls hx hb hr hml hts hown hlocks hA hS hP hK hD hl
  have hown : s.vm.findClass RX8 = some m.cls := hown
  have hl : lv_has ls 2 [(0, .ref a_t), (1, .int p1)] := hl
  refine lv_iload_n hx hb dX8_bestAt_0 rfl (lv_at hl 1 rfl) ?_
  obtain ⟨x1, u2, he3, h⟩ := zz_b2E h
  refine zz_PI (As := [.int p1]) (rest := []) ⟨hx, hb, hml, hown, hts⟩ (ct_X8_isNight l dC dI cI cJ cB cZ p1 x1 u2 he3) gX8_bestAt_X8_isNight hd_X8_isNight rfl rfl rfl ⟨Nat.le_of_ble_eq_true rfl, Nat.le_of_ble_eq_true rfl⟩ ⟨Nat.le_of_ble_eq_true rfl, Nat.le_of_ble_eq_true rfl⟩ rfl rfl (Nat.le_of_ble_eq_true rfl) dX8_bestAt_1 hl.1 hP hK hS hA (fun H locs hP hS => ?_)
  refine lv_if_ne (tgt := 9) hx hb dX8_bestAt_4 (by decide) (fun c4 => ?_) (fun c4 => ?_)
  · have h := zz_ifn c4 h
    refine lv_aload_n hx hb dX8_bestAt_9 rfl (lv_at hl 0 rfl) ?_
    obtain ⟨x5, x6, g7, g8, x9, x10, x11, he12, h⟩ := zz_b7E h
    refine zz_VV (q := (RX8, TX8, 10)) (As := []) (rest := []) (wr := []) (wm := [(a_t, .inr (7, [.ref a_t_text, .ref a_t_now, .ref a_t_slotZero, .ref a_t_slotOne, .ref a_t_wishes, .ref a_t_planner, .ref a_t_mending, .ref a_t_reading, .ref a_t_otherReading, .int t_theYear])), (a_t_now, .inr (4, [.ref a_t_now_paper, .long t_now_plan, .ref a_t_now_timesLate, .ref a_t_now_paid, .int t_now_isKept])), (a_t_now_paper, .inr (1, [.int t_now_paper_size, .ref a_t_now_paper_numbers, .ref a_t_now_paper_ranks, .ref a_t_now_paper_told, .ref a_t_now_paper_ones, .ref a_t_now_paper_turnsByYear])), (a_t_now_paper_numbers, .inl (cI, 10, .inl t_now_paper_numbers)), (a_t_now_paper_ones, .inl (cJ, 10, .inr (.inl t_now_paper_ones))), (a_t_now_paper_ranks, .inl (cI, 10, .inl t_now_paper_ranks)), (a_t_now_paper_told, .inl (cJ, 10, .inr (.inl t_now_paper_told))), (a_t_now_paper_turnsByYear, .inl (cZ, 10, .inl t_now_paper_turnsByYear)), (a_t_planner, .inr (2, [.ref a_t_planner_costBehind, .ref a_t_planner_planBehind, .int x5, .long x6])), (a_t_planner_costBehind, .inl (cI, 30, .inl g7)), (a_t_planner_planBehind, .inl (cJ, 30, .inr (.inl g8))), (a_t_reading, .inr (3, [.long x9, .long x10, .long x11])), (a_t_wishes, .inr (6, [.int t_wishes_longest, .int t_wishes_perLong, .int t_wishes_perHanding, .int t_wishes_wants, .ref a_t_wishes_against])), (a_t_wishes_against, .inl (cI, 112, .inl t_wishes_against))]) ⟨hx, hb, hml, hown, hts⟩ (ct_X8_findBest l dC dI cI cJ cB cZ a_t a_t_now a_t_now_paper a_t_now_paper_numbers a_t_now_paper_ones a_t_now_paper_ranks a_t_now_paper_told a_t_now_paper_turnsByYear a_t_planner a_t_planner_costBehind a_t_planner_planBehind a_t_reading a_t_wishes a_t_wishes_against a_t_text a_t_slotZero a_t_slotOne a_t_mending a_t_otherReading a_t_now_timesLate a_t_now_paid t_theYear t_now_plan t_now_isKept t_now_paper_size t_now_paper_numbers t_now_paper_ones t_now_paper_ranks t_now_paper_told t_now_paper_turnsByYear t_planner_leastCost t_planner_bestPlan t_planner_costBehind t_planner_planBehind t_reading_zero t_reading_one t_reading_fights t_wishes_longest t_wishes_perLong t_wishes_perHanding t_wishes_wants t_wishes_against x5 x6 g7 g8 x9 x10 x11 he12) gX8_bestAt_X8_findBest hd_X8_findBest rfl rfl rfl ⟨Nat.le_of_ble_eq_true rfl, Nat.le_of_ble_eq_true rfl⟩ ⟨Nat.le_of_ble_eq_true rfl, Nat.le_of_ble_eq_true rfl⟩ rfl rfl (Nat.le_of_ble_eq_true rfl) dX8_bestAt_10 hl.1 rfl (ci := 7) rfl (q0 := 0) rfl hP hK hD hS hA [0, 1, 2, 3, 4, 5, 6, 7, 8, 9, 10, 11, 12, 13] [] [0, 1, 2, 3, 4, 5, 6, 7, 8, 9, 10, 11, 12, 13] rfl rfl (by decide) (by decide) (by decide) (by decide) rfl (fun H locs hP hD hS => ?_)
    refine lv_aload_n hx hb dX8_bestAt_13 rfl (lv_at hl 0 rfl) ?_
    refine va_get (ci := 7) (v := .ref a_t_planner) (C := RX8) (T := TX8) (N := 10) hx hb hts in_X8_bestAt_X8 hown hK hP 0 rfl rfl 5 (by decide) (hts _ lk_X8_bestAt_0) (fun _ h9 => h9) rfl dX8_bestAt_14 ?_
    refine va_get (ci := 2) (v := .long x6) (C := RX3) (T := TX3) (N := 4) hx hb hts in_X8_bestAt_X3 hown hK hP 8 rfl rfl 3 (by decide) (hts _ lk_X8_bestAt_1) (fun _ h9 => h9) rfl dX8_bestAt_17 ?_
    refine lv_iload_n hx hb dX8_bestAt_20 rfl (lv_at hl 1 rfl) ?_
    obtain ⟨x13, u14, he15, h⟩ := zz_b2E h
    refine zz_PI (As := [.long x6, .int p1]) (rest := []) ⟨hx, hb, hml, hown, hts⟩ (ct_X1_houseAt l dC dI cI cJ cB cZ x6 p1 x13 u14 he15) gX8_bestAt_X1_houseAt hd_X1_houseAt rfl rfl rfl ⟨Nat.le_of_ble_eq_true rfl, Nat.le_of_ble_eq_true rfl⟩ ⟨Nat.le_of_ble_eq_true rfl, Nat.le_of_ble_eq_true rfl⟩ rfl rfl (Nat.le_of_ble_eq_true rfl) dX8_bestAt_21 hl.1 hP hK hS hA (fun H locs hP hS => ?_)
    exact zz_iret (x5, x6, g7, g8, x9, x10, x11) hx hb hr hlocks dX8_bestAt_24 (Option.some.inj h) hP hK hD hS
  · have h := zz_if c4 h
    refine lv_iconst (v := (-1)) hx hb dX8_bestAt_7 (by decide) ?_
    exact zz_iret (t_planner_leastCost, t_planner_bestPlan, t_planner_costBehind, t_planner_planBehind, t_reading_zero, t_reading_one, t_reading_fights) hx hb hr hlocks dX8_bestAt_8 (Option.some.inj h) hP hK hD hS
theorem hd_X8_take : yX8_take.cls ≠ "java/lang/invoke/MethodHandle" ∧ yX8_take.cls ≠ "java/lang/invoke/VarHandle" ∧ (parseMethodDescriptor yX8_take.desc).map (fun d => d.parameters.length) = some 0 := by decide +kernel
set_option maxRecDepth 20000 in
theorem in_X8_take_X8 : ∀ w ∈ u_ws RX8 TX8 10, w ∈ wsX8_take := by decide +kernel
set_option maxRecDepth 20000 in
theorem in_X8_take_X5 : ∀ w ∈ u_ws RX5 TX5 5, w ∈ wsX8_take := by decide +kernel
set_option maxRecDepth 20000 in
theorem in_X8_take_X3 : ∀ w ∈ u_ws RX3 TX3 4, w ∈ wsX8_take := by decide +kernel
set_option maxRecDepth 20000 in
theorem lk_X8_take_0 : Cond.fieldLink RX8 19 "TwoHousesOneChild" "now" "LTwoHousesOneChild$Standing;" ∈ wsX8_take := by decide +kernel
set_option maxRecDepth 20000 in
theorem lk_X8_take_1 : Cond.fieldLink RX8 136 "TwoHousesOneChild$Standing" "plan" "J" ∈ wsX8_take := by decide +kernel
set_option maxRecDepth 20000 in
theorem lk_X8_take_2 : Cond.fieldLink RX8 39 "TwoHousesOneChild" "planner" "LTwoHousesOneChild$Planner;" ∈ wsX8_take := by decide +kernel
set_option maxRecDepth 20000 in
theorem lk_X8_take_3 : Cond.fieldLink RX8 189 "TwoHousesOneChild$Planner" "bestPlan" "J" ∈ wsX8_take := by decide +kernel
set_option maxHeartbeats 4000000 in
set_option maxRecDepth 100000 in
theorem ct_X8_take (l : Launch) (dC : Nat → ClassId) (dI : Nat → Nat → Nat) (cI cJ cB cZ : ClassId) (a_t a_t_now a_t_now_paper a_t_now_paper_numbers a_t_now_paper_ones a_t_now_paper_ranks a_t_now_paper_told a_t_now_paper_turnsByYear a_t_planner a_t_planner_costBehind a_t_planner_planBehind a_t_reading a_t_wishes a_t_wishes_against a_t_text a_t_slotZero a_t_slotOne a_t_mending a_t_otherReading a_t_now_timesLate a_t_now_paid : Nat) (t_theYear : Int32) (t_now_plan : Int64) (t_now_isKept : Int32) (t_now_paper_size : Int32) (t_now_paper_numbers : (Nat → Int32)) (t_now_paper_ones : (Nat → Int64)) (t_now_paper_ranks : (Nat → Int32)) (t_now_paper_told : (Nat → Int64)) (t_now_paper_turnsByYear : (Nat → Int32)) (t_planner_leastCost : Int32) (t_planner_bestPlan : Int64) (t_planner_costBehind : (Nat → Int32)) (t_planner_planBehind : (Nat → Int64)) (t_reading_zero : Int64) (t_reading_one : Int64) (t_reading_fights : Int64) (t_wishes_longest : Int32) (t_wishes_perLong : Int32) (t_wishes_perHanding : Int32) (t_wishes_wants : Int32) (t_wishes_against : (Nat → Int32)) (rr : Int32) (o1 : Int64) (o2 : Int32) (o3 : Int64) (o4 : (Nat → Int32)) (o5 : (Nat → Int64)) (o6 : Int64) (o7 : Int64) (o8 : Int64) (h : fn_X8_take t_theYear t_now_plan t_now_paper_size t_now_paper_numbers t_now_paper_ones t_now_paper_ranks t_now_paper_told t_now_paper_turnsByYear t_planner_costBehind t_planner_planBehind t_wishes_longest t_wishes_perLong t_wishes_perHanding t_wishes_against = some (rr, o1, o2, o3, o4, o5, o6, o7, o8)) : zz_M l yX8_take wsX8_take ({ frames := 5, cells := 0, slots := 0, locals := 119 }) (dC, dI) (zz_T cI cJ cB cZ) [.ref a_t] [(a_t, .inr (7, [.ref a_t_text, .ref a_t_now, .ref a_t_slotZero, .ref a_t_slotOne, .ref a_t_wishes, .ref a_t_planner, .ref a_t_mending, .ref a_t_reading, .ref a_t_otherReading, .int t_theYear])), (a_t_now, .inr (4, [.ref a_t_now_paper, .long t_now_plan, .ref a_t_now_timesLate, .ref a_t_now_paid, .int t_now_isKept])), (a_t_now_paper, .inr (1, [.int t_now_paper_size, .ref a_t_now_paper_numbers, .ref a_t_now_paper_ranks, .ref a_t_now_paper_told, .ref a_t_now_paper_ones, .ref a_t_now_paper_turnsByYear])), (a_t_now_paper_numbers, .inl (cI, 10, .inl t_now_paper_numbers)), (a_t_now_paper_ones, .inl (cJ, 10, .inr (.inl t_now_paper_ones))), (a_t_now_paper_ranks, .inl (cI, 10, .inl t_now_paper_ranks)), (a_t_now_paper_told, .inl (cJ, 10, .inr (.inl t_now_paper_told))), (a_t_now_paper_turnsByYear, .inl (cZ, 10, .inl t_now_paper_turnsByYear)), (a_t_planner, .inr (2, [.ref a_t_planner_costBehind, .ref a_t_planner_planBehind, .int t_planner_leastCost, .long t_planner_bestPlan])), (a_t_planner_costBehind, .inl (cI, 30, .inl t_planner_costBehind)), (a_t_planner_planBehind, .inl (cJ, 30, .inr (.inl t_planner_planBehind))), (a_t_reading, .inr (3, [.long t_reading_zero, .long t_reading_one, .long t_reading_fights])), (a_t_wishes, .inr (6, [.int t_wishes_longest, .int t_wishes_perLong, .int t_wishes_perHanding, .int t_wishes_wants, .ref a_t_wishes_against])), (a_t_wishes_against, .inl (cI, 112, .inl t_wishes_against))] (zz_QI (dC, dI) (zz_T cI cJ cB cZ) (rr, o1, o2, o3, o4, o5, o6, o7, o8) (fun (u : Int64 × Int32 × Int64 × (Nat → Int32) × (Nat → Int64) × Int64 × Int64 × Int64) => [(a_t, .inr (7, [.ref a_t_text, .ref a_t_now, .ref a_t_slotZero, .ref a_t_slotOne, .ref a_t_wishes, .ref a_t_planner, .ref a_t_mending, .ref a_t_reading, .ref a_t_otherReading, .int t_theYear])), (a_t_now, .inr (4, [.ref a_t_now_paper, .long u.1, .ref a_t_now_timesLate, .ref a_t_now_paid, .int t_now_isKept])), (a_t_now_paper, .inr (1, [.int t_now_paper_size, .ref a_t_now_paper_numbers, .ref a_t_now_paper_ranks, .ref a_t_now_paper_told, .ref a_t_now_paper_ones, .ref a_t_now_paper_turnsByYear])), (a_t_now_paper_numbers, .inl (cI, 10, .inl t_now_paper_numbers)), (a_t_now_paper_ones, .inl (cJ, 10, .inr (.inl t_now_paper_ones))), (a_t_now_paper_ranks, .inl (cI, 10, .inl t_now_paper_ranks)), (a_t_now_paper_told, .inl (cJ, 10, .inr (.inl t_now_paper_told))), (a_t_now_paper_turnsByYear, .inl (cZ, 10, .inl t_now_paper_turnsByYear)), (a_t_planner, .inr (2, [.ref a_t_planner_costBehind, .ref a_t_planner_planBehind, .int u.2.1, .long u.2.2.1])), (a_t_planner_costBehind, .inl (cI, 30, .inl u.2.2.2.1)), (a_t_planner_planBehind, .inl (cJ, 30, .inr (.inl u.2.2.2.2.1))), (a_t_reading, .inr (3, [.long u.2.2.2.2.2.1, .long u.2.2.2.2.2.2.1, .long u.2.2.2.2.2.2.2])), (a_t_wishes, .inr (6, [.int t_wishes_longest, .int t_wishes_perLong, .int t_wishes_perHanding, .int t_wishes_wants, .ref a_t_wishes_against])), (a_t_wishes_against, .inl (cI, 112, .inl t_wishes_against))])) := by
  unfold fn_X8_take at h
  refine zz_of (by decide) rfl (Nat.le_of_ble_eq_true rfl) ?_
  intro p e s m below meth c A ls hx hb hr hml hts hown hlocks hA hS hP hK hD hl
  have hown : s.vm.findClass RX8 = some m.cls := hown
  have hl : lv_has ls 2 [(0, .ref a_t)] := hl
  refine lv_aload_n hx hb dX8_take_0 rfl (lv_at hl 0 rfl) ?_
  obtain ⟨x1, x2, g3, g4, x5, x6, x7, he8, h⟩ := zz_b7E h
  refine zz_VV (q := (RX8, TX8, 10)) (As := []) (rest := []) (wr := []) (wm := [(a_t, .inr (7, [.ref a_t_text, .ref a_t_now, .ref a_t_slotZero, .ref a_t_slotOne, .ref a_t_wishes, .ref a_t_planner, .ref a_t_mending, .ref a_t_reading, .ref a_t_otherReading, .int t_theYear])), (a_t_now, .inr (4, [.ref a_t_now_paper, .long t_now_plan, .ref a_t_now_timesLate, .ref a_t_now_paid, .int t_now_isKept])), (a_t_now_paper, .inr (1, [.int t_now_paper_size, .ref a_t_now_paper_numbers, .ref a_t_now_paper_ranks, .ref a_t_now_paper_told, .ref a_t_now_paper_ones, .ref a_t_now_paper_turnsByYear])), (a_t_now_paper_numbers, .inl (cI, 10, .inl t_now_paper_numbers)), (a_t_now_paper_ones, .inl (cJ, 10, .inr (.inl t_now_paper_ones))), (a_t_now_paper_ranks, .inl (cI, 10, .inl t_now_paper_ranks)), (a_t_now_paper_told, .inl (cJ, 10, .inr (.inl t_now_paper_told))), (a_t_now_paper_turnsByYear, .inl (cZ, 10, .inl t_now_paper_turnsByYear)), (a_t_planner, .inr (2, [.ref a_t_planner_costBehind, .ref a_t_planner_planBehind, .int x1, .long x2])), (a_t_planner_costBehind, .inl (cI, 30, .inl g3)), (a_t_planner_planBehind, .inl (cJ, 30, .inr (.inl g4))), (a_t_reading, .inr (3, [.long x5, .long x6, .long x7])), (a_t_wishes, .inr (6, [.int t_wishes_longest, .int t_wishes_perLong, .int t_wishes_perHanding, .int t_wishes_wants, .ref a_t_wishes_against])), (a_t_wishes_against, .inl (cI, 112, .inl t_wishes_against))]) ⟨hx, hb, hml, hown, hts⟩ (ct_X8_findBest l dC dI cI cJ cB cZ a_t a_t_now a_t_now_paper a_t_now_paper_numbers a_t_now_paper_ones a_t_now_paper_ranks a_t_now_paper_told a_t_now_paper_turnsByYear a_t_planner a_t_planner_costBehind a_t_planner_planBehind a_t_reading a_t_wishes a_t_wishes_against a_t_text a_t_slotZero a_t_slotOne a_t_mending a_t_otherReading a_t_now_timesLate a_t_now_paid t_theYear t_now_plan t_now_isKept t_now_paper_size t_now_paper_numbers t_now_paper_ones t_now_paper_ranks t_now_paper_told t_now_paper_turnsByYear t_planner_leastCost t_planner_bestPlan t_planner_costBehind t_planner_planBehind t_reading_zero t_reading_one t_reading_fights t_wishes_longest t_wishes_perLong t_wishes_perHanding t_wishes_wants t_wishes_against x1 x2 g3 g4 x5 x6 x7 he8) gX8_take_X8_findBest hd_X8_findBest rfl rfl rfl ⟨Nat.le_of_ble_eq_true rfl, Nat.le_of_ble_eq_true rfl⟩ ⟨Nat.le_of_ble_eq_true rfl, Nat.le_of_ble_eq_true rfl⟩ rfl rfl (Nat.le_of_ble_eq_true rfl) dX8_take_1 hl.1 rfl (ci := 7) rfl (q0 := 0) rfl hP hK hD hS hA [0, 1, 2, 3, 4, 5, 6, 7, 8, 9, 10, 11, 12, 13] [] [0, 1, 2, 3, 4, 5, 6, 7, 8, 9, 10, 11, 12, 13] rfl rfl (by decide) (by decide) (by decide) (by decide) rfl (fun H locs hP hD hS => ?_)
  refine lv_aload_n hx hb dX8_take_4 rfl (lv_at hl 0 rfl) ?_
  refine va_get (ci := 7) (v := .ref a_t_now) (C := RX8) (T := TX8) (N := 10) hx hb hts in_X8_take_X8 hown hK hP 0 rfl rfl 1 (by decide) (hts _ lk_X8_take_0) (fun _ h9 => h9) rfl dX8_take_5 ?_
  refine va_get (ci := 4) (v := .long t_now_plan) (C := RX5) (T := TX5) (N := 5) hx hb hts in_X8_take_X5 hown hK hP 1 rfl rfl 1 (by decide) (hts _ lk_X8_take_1) (fun _ h9 => h9) rfl dX8_take_8 ?_
  refine lv_aload_n hx hb dX8_take_11 rfl (lv_at hl 0 rfl) ?_
  refine va_get (ci := 7) (v := .ref a_t_planner) (C := RX8) (T := TX8) (N := 10) hx hb hts in_X8_take_X8 hown hK hP 0 rfl rfl 5 (by decide) (hts _ lk_X8_take_2) (fun _ h9 => h9) rfl dX8_take_12 ?_
  refine va_get (ci := 2) (v := .long x2) (C := RX3) (T := TX3) (N := 4) hx hb hts in_X8_take_X3 hown hK hP 8 rfl rfl 3 (by decide) (hts _ lk_X8_take_3) (fun _ h9 => h9) rfl dX8_take_15 ?_
  refine lv_lxor hx hb dX8_take_18 ?_
  obtain ⟨x9, u10, he11, h⟩ := zz_b2E h
  refine zz_PI (As := [.long (t_now_plan ^^^ x2)]) (rest := []) ⟨hx, hb, hml, hown, hts⟩ (ct_J13_bitCount_95d88 l dC dI cI cJ cB cZ (t_now_plan ^^^ x2) x9 u10 he11) gX8_take_J13_bitCount_95d88 hd_J13_bitCount_95d88 rfl rfl rfl ⟨Nat.le_of_ble_eq_true rfl, Nat.le_of_ble_eq_true rfl⟩ ⟨Nat.le_of_ble_eq_true rfl, Nat.le_of_ble_eq_true rfl⟩ rfl rfl (Nat.le_of_ble_eq_true rfl) dX8_take_19 hl.1 hP hK hS hA (fun H locs hP hS => ?_)
  refine lv_istore_n (lv' := [(1, .int x9), (0, .ref a_t)]) hx hb dX8_take_22 rfl hl (by decide) rfl (fun ls hl => ?_)
  refine lv_aload_n hx hb dX8_take_23 rfl (lv_at hl 1 rfl) ?_
  refine va_get (ci := 7) (v := .ref a_t_now) (C := RX8) (T := TX8) (N := 10) hx hb hts in_X8_take_X8 hown hK hP 0 rfl rfl 1 (by decide) (hts _ lk_X8_take_0) (fun _ h9 => h9) rfl dX8_take_24 ?_
  refine lv_aload_n hx hb dX8_take_27 rfl (lv_at hl 1 rfl) ?_
  refine va_get (ci := 7) (v := .ref a_t_planner) (C := RX8) (T := TX8) (N := 10) hx hb hts in_X8_take_X8 hown hK hP 0 rfl rfl 5 (by decide) (hts _ lk_X8_take_2) (fun _ h9 => h9) rfl dX8_take_28 ?_
  refine va_get (ci := 2) (v := .long x2) (C := RX3) (T := TX3) (N := 4) hx hb hts in_X8_take_X3 hown hK hP 8 rfl rfl 3 (by decide) (hts _ lk_X8_take_3) (fun _ h9 => h9) rfl dX8_take_31 ?_
  refine va_put (ci := 4) (v := .long x2) (ty := .long) (C := RX5) (T := TX5) (N := 5) hx hb hts in_X8_take_X5 tyX5 tyX5_ok nmX5 hown hK hP hD hS 1 rfl rfl 1 (by decide) (hts _ lk_X8_take_1) (fun _ h9 => h9) rfl (by decide +kernel) rfl rfl (Nat.le_of_ble_eq_true rfl) dX8_take_34 (fun H locs hP hD hS => ?_)
  have hP : va_P (dC, dI) vwCl [(a_t, .inr (7, [.ref a_t_text, .ref a_t_now, .ref a_t_slotZero, .ref a_t_slotOne, .ref a_t_wishes, .ref a_t_planner, .ref a_t_mending, .ref a_t_reading, .ref a_t_otherReading, .int t_theYear])), (a_t_now, .inr (4, [.ref a_t_now_paper, .long x2, .ref a_t_now_timesLate, .ref a_t_now_paid, .int t_now_isKept])), (a_t_now_paper, .inr (1, [.int t_now_paper_size, .ref a_t_now_paper_numbers, .ref a_t_now_paper_ranks, .ref a_t_now_paper_told, .ref a_t_now_paper_ones, .ref a_t_now_paper_turnsByYear])), (a_t_now_paper_numbers, .inl (cI, 10, .inl t_now_paper_numbers)), (a_t_now_paper_ones, .inl (cJ, 10, .inr (.inl t_now_paper_ones))), (a_t_now_paper_ranks, .inl (cI, 10, .inl t_now_paper_ranks)), (a_t_now_paper_told, .inl (cJ, 10, .inr (.inl t_now_paper_told))), (a_t_now_paper_turnsByYear, .inl (cZ, 10, .inl t_now_paper_turnsByYear)), (a_t_planner, .inr (2, [.ref a_t_planner_costBehind, .ref a_t_planner_planBehind, .int x1, .long x2])), (a_t_planner_costBehind, .inl (cI, 30, .inl g3)), (a_t_planner_planBehind, .inl (cJ, 30, .inr (.inl g4))), (a_t_reading, .inr (3, [.long x5, .long x6, .long x7])), (a_t_wishes, .inr (6, [.int t_wishes_longest, .int t_wishes_perLong, .int t_wishes_perHanding, .int t_wishes_wants, .ref a_t_wishes_against])), (a_t_wishes_against, .inl (cI, 112, .inl t_wishes_against))] H := hP
  have hD : va_D A [(a_t, .inr (7, [.ref a_t_text, .ref a_t_now, .ref a_t_slotZero, .ref a_t_slotOne, .ref a_t_wishes, .ref a_t_planner, .ref a_t_mending, .ref a_t_reading, .ref a_t_otherReading, .int t_theYear])), (a_t_now, .inr (4, [.ref a_t_now_paper, .long x2, .ref a_t_now_timesLate, .ref a_t_now_paid, .int t_now_isKept])), (a_t_now_paper, .inr (1, [.int t_now_paper_size, .ref a_t_now_paper_numbers, .ref a_t_now_paper_ranks, .ref a_t_now_paper_told, .ref a_t_now_paper_ones, .ref a_t_now_paper_turnsByYear])), (a_t_now_paper_numbers, .inl (cI, 10, .inl t_now_paper_numbers)), (a_t_now_paper_ones, .inl (cJ, 10, .inr (.inl t_now_paper_ones))), (a_t_now_paper_ranks, .inl (cI, 10, .inl t_now_paper_ranks)), (a_t_now_paper_told, .inl (cJ, 10, .inr (.inl t_now_paper_told))), (a_t_now_paper_turnsByYear, .inl (cZ, 10, .inl t_now_paper_turnsByYear)), (a_t_planner, .inr (2, [.ref a_t_planner_costBehind, .ref a_t_planner_planBehind, .int x1, .long x2])), (a_t_planner_costBehind, .inl (cI, 30, .inl g3)), (a_t_planner_planBehind, .inl (cJ, 30, .inr (.inl g4))), (a_t_reading, .inr (3, [.long x5, .long x6, .long x7])), (a_t_wishes, .inr (6, [.int t_wishes_longest, .int t_wishes_perLong, .int t_wishes_perHanding, .int t_wishes_wants, .ref a_t_wishes_against])), (a_t_wishes_against, .inl (cI, 112, .inl t_wishes_against))] := hD
  refine lv_iload_n hx hb dX8_take_37 rfl (lv_at hl 0 rfl) ?_
  exact zz_iret (x2, x1, x2, g3, g4, x5, x6, x7) hx hb hr hlocks dX8_take_38 (Option.some.inj h) hP hK hD hS
theorem hd_X8_offWeeks : yX8_offWeeks.cls ≠ "java/lang/invoke/MethodHandle" ∧ yX8_offWeeks.cls ≠ "java/lang/invoke/VarHandle" ∧ (parseMethodDescriptor yX8_offWeeks.desc).map (fun d => d.parameters.length) = some 1 := by decide +kernel
set_option maxRecDepth 20000 in
theorem in_X8_offWeeks_X8 : ∀ w ∈ u_ws RX8 TX8 10, w ∈ wsX8_offWeeks := by decide +kernel
set_option maxRecDepth 20000 in
theorem in_X8_offWeeks_X5 : ∀ w ∈ u_ws RX5 TX5 5, w ∈ wsX8_offWeeks := by decide +kernel
set_option maxRecDepth 20000 in
theorem lk_X8_offWeeks_0 : Cond.initialized "java/lang/Math" ∈ wsX8_offWeeks := by decide +kernel
set_option maxRecDepth 20000 in
theorem lk_X8_offWeeks_1 : Cond.methodLink RX8 262 Lib.Math.max.name ∈ wsX8_offWeeks := by decide +kernel
set_option maxRecDepth 20000 in
theorem lk_X8_offWeeks_2 : Cond.static Lib.Math.max.name ∈ wsX8_offWeeks := by decide +kernel
set_option maxRecDepth 20000 in
theorem lk_X8_offWeeks_3 : Cond.code Lib.Math.max.name Lib.Math.max.code 2 (some .int) ∈ wsX8_offWeeks := by decide +kernel
set_option maxRecDepth 20000 in
theorem lk_X8_offWeeks_4 : Cond.fieldLink RX8 19 "TwoHousesOneChild" "now" "LTwoHousesOneChild$Standing;" ∈ wsX8_offWeeks := by decide +kernel
set_option maxRecDepth 20000 in
theorem lk_X8_offWeeks_5 : Cond.fieldLink RX8 136 "TwoHousesOneChild$Standing" "plan" "J" ∈ wsX8_offWeeks := by decide +kernel
set_option maxRecDepth 20000 in
theorem lk_X8_offWeeks_6 : Cond.methodLink RX8 267 Lib.Math.min.name ∈ wsX8_offWeeks := by decide +kernel
set_option maxRecDepth 20000 in
theorem lk_X8_offWeeks_7 : Cond.static Lib.Math.min.name ∈ wsX8_offWeeks := by decide +kernel
set_option maxRecDepth 20000 in
theorem lk_X8_offWeeks_8 : Cond.code Lib.Math.min.name Lib.Math.min.code 2 (some .int) ∈ wsX8_offWeeks := by decide +kernel
set_option maxHeartbeats 4000000 in
set_option maxRecDepth 100000 in
theorem ct_X8_offWeeks (l : Launch) (dC : Nat → ClassId) (dI : Nat → Nat → Nat) (cI cJ cB cZ : ClassId) (a_t a_t_now a_t_text a_t_slotZero a_t_slotOne a_t_wishes a_t_planner a_t_mending a_t_reading a_t_otherReading a_t_now_paper a_t_now_timesLate a_t_now_paid : Nat) (t_theYear : Int32) (t_now_plan : Int64) (t_now_isKept : Int32) (p1 : Int32) (rr : Int32) (u0 : Unit) (h : fn_X8_offWeeks t_now_plan p1 = some (rr, u0)) : zz_M l yX8_offWeeks wsX8_offWeeks ({ frames := 1, cells := 0, slots := 0, locals := 22 }) (dC, dI) (zz_T cI cJ cB cZ) [.ref a_t, .int p1] [(a_t, .inr (7, [.ref a_t_text, .ref a_t_now, .ref a_t_slotZero, .ref a_t_slotOne, .ref a_t_wishes, .ref a_t_planner, .ref a_t_mending, .ref a_t_reading, .ref a_t_otherReading, .int t_theYear])), (a_t_now, .inr (4, [.ref a_t_now_paper, .long t_now_plan, .ref a_t_now_timesLate, .ref a_t_now_paid, .int t_now_isKept]))] (zz_QI (dC, dI) (zz_T cI cJ cB cZ) (rr, u0) (fun (u : Unit) => [(a_t, .inr (7, [.ref a_t_text, .ref a_t_now, .ref a_t_slotZero, .ref a_t_slotOne, .ref a_t_wishes, .ref a_t_planner, .ref a_t_mending, .ref a_t_reading, .ref a_t_otherReading, .int t_theYear])), (a_t_now, .inr (4, [.ref a_t_now_paper, .long t_now_plan, .ref a_t_now_timesLate, .ref a_t_now_paid, .int t_now_isKept]))])) := by
  unfold fn_X8_offWeeks at h
  refine zz_of (by decide) rfl (Nat.le_of_ble_eq_true rfl) ?_
  intro p e s m below meth c A ls hx hb hr hml hts hown hlocks hA hS hP hK hD hl
  have hown : s.vm.findClass RX8 = some m.cls := hown
  have hl : lv_has ls 8 [(0, .ref a_t), (1, .int p1)] := hl
  refine lv_iload_n hx hb dX8_offWeeks_0 rfl (lv_at hl 1 rfl) ?_
  refine lv_iconst (v := 1) hx hb dX8_offWeeks_1 (by decide) ?_
  refine va_mmax hx hb (hml.trans hl.1.symm) hown (hts _ lk_X8_offWeeks_1) (hts _ lk_X8_offWeeks_2) (hts _ lk_X8_offWeeks_0) (hts _ lk_X8_offWeeks_3) (Nat.le_of_ble_eq_true rfl) (Nat.le_of_ble_eq_true rfl) (Nat.le_of_ble_eq_true rfl) (Nat.le_of_ble_eq_true rfl) dX8_offWeeks_2 ?_
  refine lv_bipush (v := 7) hx hb dX8_offWeeks_5 (by decide) ?_
  refine lv_imul hx hb dX8_offWeeks_7 ?_
  refine lv_topi (fun x1 ex1 => ?_)
  have h := zz_nmE ex1 h
  refine lv_istore_n (lv' := [(2, .int x1), (0, .ref a_t), (1, .int p1)]) hx hb dX8_offWeeks_8 rfl hl (by decide) rfl (fun ls hl => ?_)
  refine lv_iconst (v := 0) hx hb dX8_offWeeks_9 (by decide) ?_
  refine lv_istore_n (lv' := [(3, .int 0), (2, .int x1), (0, .ref a_t), (1, .int p1)]) hx hb dX8_offWeeks_10 rfl hl (by decide) rfl (fun ls hl => ?_)
  refine lv_iconst (v := 0) hx hb dX8_offWeeks_11 (by decide) ?_
  refine lv_istore (lv' := [(4, .int 0), (3, .int 0), (2, .int x1), (0, .ref a_t), (1, .int p1)]) hx hb dX8_offWeeks_12 hl (by decide) rfl (fun ls hl => ?_)
  obtain ⟨x77, hit76, h⟩ := zz_b1E h
  refine zz_cut (fun V => ∀ (H : Heap) (locs : List Loc) (ls : Array Slot), va_P (dC, dI) vwCl [(a_t, .inr (7, [.ref a_t_text, .ref a_t_now, .ref a_t_slotZero, .ref a_t_slotOne, .ref a_t_wishes, .ref a_t_planner, .ref a_t_mending, .ref a_t_reading, .ref a_t_otherReading, .int t_theYear])), (a_t_now, .inr (4, [.ref a_t_now_paper, .long t_now_plan, .ref a_t_now_timesLate, .ref a_t_now_paid, .int t_now_isKept]))] H → va_D A [(a_t, .inr (7, [.ref a_t_text, .ref a_t_now, .ref a_t_slotZero, .ref a_t_slotOne, .ref a_t_wishes, .ref a_t_planner, .ref a_t_mending, .ref a_t_reading, .ref a_t_otherReading, .int t_theYear])), (a_t_now, .inr (4, [.ref a_t_now_paper, .long t_now_plan, .ref a_t_now_timesLate, .ref a_t_now_paid, .int t_now_isKept]))] → va_S A s.heap H locs → lv_has ls 8 [(3, .int x77)] → V H locs (F0 m 93 ls [])) ?_ (fun hE76 => ?_)
  · intro H locs ls hP hD hS hl
    refine lv_iload_n hx hb dX8_offWeeks_93 rfl (lv_at hl 0 rfl) ?_
    exact zz_iret () hx hb hr hlocks dX8_offWeeks_94 (Option.some.inj h) hP hK hD hS
  refine zz_cut (fun V => ∀ (n : Nat) (x75 : Int32) (x76 : Int32) (H : Heap) (locs : List Loc) (ls : Array Slot), zz_it (fun z => fb_X8_offWeeks_14 x1 t_now_plan z.1 z.2) n (x75, x76) = some x77 → va_P (dC, dI) vwCl [(a_t, .inr (7, [.ref a_t_text, .ref a_t_now, .ref a_t_slotZero, .ref a_t_slotOne, .ref a_t_wishes, .ref a_t_planner, .ref a_t_mending, .ref a_t_reading, .ref a_t_otherReading, .int t_theYear])), (a_t_now, .inr (4, [.ref a_t_now_paper, .long t_now_plan, .ref a_t_now_timesLate, .ref a_t_now_paid, .int t_now_isKept]))] H → va_D A [(a_t, .inr (7, [.ref a_t_text, .ref a_t_now, .ref a_t_slotZero, .ref a_t_slotOne, .ref a_t_wishes, .ref a_t_planner, .ref a_t_mending, .ref a_t_reading, .ref a_t_otherReading, .int t_theYear])), (a_t_now, .inr (4, [.ref a_t_now_paper, .long t_now_plan, .ref a_t_now_timesLate, .ref a_t_now_paid, .int t_now_isKept]))] → va_S A s.heap H locs → lv_has ls 8 [(0, .ref a_t), (2, .int x1), (3, .int x75), (4, .int x76)] → V H locs (F0 m 14 ls [])) ?_ (fun hL76 => ?_)
  · intro n
    induction n with
    | zero => intro x75 x76 H locs ls hit76; exact (zz_it0 hit76).elim
    | succ n ih76 =>
      intro x75 x76 H locs ls hit76 hP hD hS hl
      obtain ⟨y76, hb76, hy76⟩ := zz_itE hit76
      have hb76 : fb_X8_offWeeks_14 x1 t_now_plan x75 x76 = some y76 := hb76
      unfold fb_X8_offWeeks_14 at hb76
      refine lv_iload hx hb dX8_offWeeks_14 (lv_at hl 3 rfl) ?_
      refine lv_iload_n hx hb dX8_offWeeks_16 rfl (lv_at hl 1 rfl) ?_
      refine lv_icmp_ge (tgt := 93) hx hb dX8_offWeeks_17 (by decide) (fun c78 => ?_) (fun c78 => ?_)
      · have hb76 := zz_if c78 hb76
        obtain rfl := Option.some.inj hb76
        have hy76 := Option.some.inj hy76
        cases hy76
        exact hE76 _ _ ls hP hD hS (lv_sub hl [2] rfl)
      · have hb76 := zz_ifn c78 hb76
        refine lv_iload hx hb dX8_offWeeks_20 (lv_at hl 3 rfl) ?_
        refine lv_bipush (v := 56) hx hb dX8_offWeeks_22 (by decide) ?_
        refine lv_icmp_ge (tgt := 93) hx hb dX8_offWeeks_24 (by decide) (fun c79 => ?_) (fun c79 => ?_)
        · have hb76 := zz_if c79 hb76
          obtain rfl := Option.some.inj hb76
          have hy76 := Option.some.inj hy76
          cases hy76
          exact hE76 _ _ ls hP hD hS (lv_sub hl [2] rfl)
        · have hb76 := zz_ifn c79 hb76
          refine lv_iconst (v := 0) hx hb dX8_offWeeks_27 (by decide) ?_
          refine lv_istore (lv' := [(5, .int 0), (0, .ref a_t), (2, .int x1), (3, .int x75), (4, .int x76)]) hx hb dX8_offWeeks_28 hl (by decide) rfl (fun ls hl => ?_)
          refine lv_iconst (v := 0) hx hb dX8_offWeeks_30 (by decide) ?_
          refine lv_istore (lv' := [(6, .int 0), (5, .int 0), (0, .ref a_t), (2, .int x1), (3, .int x75), (4, .int x76)]) hx hb dX8_offWeeks_31 hl (by decide) rfl (fun ls hl => ?_)
          refine lv_iload hx hb dX8_offWeeks_33 (lv_at hl 5 rfl) ?_
          refine lv_istore (lv' := [(7, .int x76), (6, .int 0), (5, .int 0), (0, .ref a_t), (2, .int x1), (3, .int x75), (4, .int x76)]) hx hb dX8_offWeeks_35 hl (by decide) rfl (fun ls hl => ?_)
          obtain ⟨x101, x102, hit100, hb76⟩ := zz_b2E hb76
          refine zz_cut (fun V => ∀ (H : Heap) (locs : List Loc) (ls : Array Slot), va_P (dC, dI) vwCl [(a_t, .inr (7, [.ref a_t_text, .ref a_t_now, .ref a_t_slotZero, .ref a_t_slotOne, .ref a_t_wishes, .ref a_t_planner, .ref a_t_mending, .ref a_t_reading, .ref a_t_otherReading, .int t_theYear])), (a_t_now, .inr (4, [.ref a_t_now_paper, .long t_now_plan, .ref a_t_now_timesLate, .ref a_t_now_paid, .int t_now_isKept]))] H → va_D A [(a_t, .inr (7, [.ref a_t_text, .ref a_t_now, .ref a_t_slotZero, .ref a_t_slotOne, .ref a_t_wishes, .ref a_t_planner, .ref a_t_mending, .ref a_t_reading, .ref a_t_otherReading, .int t_theYear])), (a_t_now, .inr (4, [.ref a_t_now_paper, .long t_now_plan, .ref a_t_now_timesLate, .ref a_t_now_paid, .int t_now_isKept]))] → va_S A s.heap H locs → lv_has ls 8 [(0, .ref a_t), (2, .int x1), (3, .int x75), (4, .int x76), (5, .int x101), (6, .int x102)] → V H locs (F0 m 77 ls [])) ?_ (fun hE100 => ?_)
          · intro H locs ls hP hD hS hl
            refine lv_iload_n hx hb dX8_offWeeks_77 rfl (lv_at hl 2 rfl) ?_
            refine lv_iload hx hb dX8_offWeeks_78 (lv_at hl 4 rfl) ?_
            refine lv_iload hx hb dX8_offWeeks_80 (lv_at hl 5 rfl) ?_
            refine va_mmin hx hb (hml.trans hl.1.symm) hown (hts _ lk_X8_offWeeks_6) (hts _ lk_X8_offWeeks_7) (hts _ lk_X8_offWeeks_0) (hts _ lk_X8_offWeeks_8) (Nat.le_of_ble_eq_true rfl) (Nat.le_of_ble_eq_true rfl) (Nat.le_of_ble_eq_true rfl) (Nat.le_of_ble_eq_true rfl) dX8_offWeeks_82 ?_
            refine lv_iadd hx hb dX8_offWeeks_85 ?_
            refine lv_topi (fun x103 ex103 => ?_)
            have hb76 := zz_nmE ex103 hb76
            refine lv_istore_n (lv' := [(3, .int x103), (0, .ref a_t), (2, .int x1), (4, .int x76), (5, .int x101), (6, .int x102)]) hx hb dX8_offWeeks_86 rfl hl (by decide) rfl (fun ls hl => ?_)
            obtain ⟨x104, ex104⟩ : ∃ z : Int32, z = x76 + 1 := ⟨_, rfl⟩
            have hb76 := zz_nmE ex104 hb76
            refine lv_iinc (v := x104) (lv' := [(4, .int x104), (3, .int x103), (0, .ref a_t), (2, .int x1), (5, .int x101), (6, .int x102)]) hx hb dX8_offWeeks_87 hl (k := 3) rfl (by rw [ex104]; rfl) (by decide) rfl (fun ls hl => ?_)
            refine lv_goto (tgt := 14) hx hb dX8_offWeeks_90 (by decide) ?_
            obtain rfl := Option.some.inj hb76
            exact ih76 x103 x104 _ _ ls hy76 hP hD hS (lv_sub hl [2, 3, 1, 0] rfl)
          refine zz_cut (fun V => ∀ (n : Nat) (x98 : Int32) (x99 : Int32) (x100 : Int32) (H : Heap) (locs : List Loc) (ls : Array Slot), zz_it (fun z => fb_X8_offWeeks_37 x1 t_now_plan z.1 z.2.1 z.2.2) n (x98, x99, x100) = some (x101, x102) → va_P (dC, dI) vwCl [(a_t, .inr (7, [.ref a_t_text, .ref a_t_now, .ref a_t_slotZero, .ref a_t_slotOne, .ref a_t_wishes, .ref a_t_planner, .ref a_t_mending, .ref a_t_reading, .ref a_t_otherReading, .int t_theYear])), (a_t_now, .inr (4, [.ref a_t_now_paper, .long t_now_plan, .ref a_t_now_timesLate, .ref a_t_now_paid, .int t_now_isKept]))] H → va_D A [(a_t, .inr (7, [.ref a_t_text, .ref a_t_now, .ref a_t_slotZero, .ref a_t_slotOne, .ref a_t_wishes, .ref a_t_planner, .ref a_t_mending, .ref a_t_reading, .ref a_t_otherReading, .int t_theYear])), (a_t_now, .inr (4, [.ref a_t_now_paper, .long t_now_plan, .ref a_t_now_timesLate, .ref a_t_now_paid, .int t_now_isKept]))] → va_S A s.heap H locs → lv_has ls 8 [(0, .ref a_t), (2, .int x1), (3, .int x75), (4, .int x76), (5, .int x98), (6, .int x99), (7, .int x100)] → V H locs (F0 m 37 ls [])) ?_ (fun hL100 => ?_)
          · intro n
            induction n with
            | zero => intro x98 x99 x100 H locs ls hit100; exact (zz_it0 hit100).elim
            | succ n ih100 =>
              intro x98 x99 x100 H locs ls hit100 hP hD hS hl
              obtain ⟨y100, hb100, hy100⟩ := zz_itE hit100
              have hb100 : fb_X8_offWeeks_37 x1 t_now_plan x98 x99 x100 = some y100 := hb100
              unfold fb_X8_offWeeks_37 at hb100
              refine lv_iload hx hb dX8_offWeeks_37 (lv_at hl 6 rfl) ?_
              refine lv_bipush (v := 56) hx hb dX8_offWeeks_39 (by decide) ?_
              refine lv_icmp_ge (tgt := 77) hx hb dX8_offWeeks_41 (by decide) (fun c105 => ?_) (fun c105 => ?_)
              · have hb100 := zz_if c105 hb100
                obtain rfl := Option.some.inj hb100
                have hy100 := Option.some.inj hy100
                cases hy100
                exact hE100 _ _ ls hP hD hS (lv_sub hl [0, 1, 2, 3, 4, 5] rfl)
              · have hb100 := zz_ifn c105 hb100
                refine lv_aload_n hx hb dX8_offWeeks_44 rfl (lv_at hl 0 rfl) ?_
                refine va_get (ci := 7) (v := .ref a_t_now) (C := RX8) (T := TX8) (N := 10) hx hb hts in_X8_offWeeks_X8 hown hK hP 0 rfl rfl 1 (by decide) (hts _ lk_X8_offWeeks_4) (fun _ h9 => h9) rfl dX8_offWeeks_45 ?_
                refine va_get (ci := 4) (v := .long t_now_plan) (C := RX5) (T := TX5) (N := 5) hx hb hts in_X8_offWeeks_X5 hown hK hP 1 rfl rfl 1 (by decide) (hts _ lk_X8_offWeeks_5) (fun _ h9 => h9) rfl dX8_offWeeks_48 ?_
                refine lv_iload hx hb dX8_offWeeks_51 (lv_at hl 6 rfl) ?_
                obtain ⟨x106, u107, he108, hb100⟩ := zz_b2E hb100
                refine zz_PI (As := [.long t_now_plan, .int x100]) (rest := []) ⟨hx, hb, hml, hown, hts⟩ (ct_X1_houseAt l dC dI cI cJ cB cZ t_now_plan x100 x106 u107 he108) gX8_offWeeks_X1_houseAt hd_X1_houseAt rfl rfl rfl ⟨Nat.le_of_ble_eq_true rfl, Nat.le_of_ble_eq_true rfl⟩ ⟨Nat.le_of_ble_eq_true rfl, Nat.le_of_ble_eq_true rfl⟩ rfl rfl (Nat.le_of_ble_eq_true rfl) dX8_offWeeks_53 hl.1 hP hK hS hA (fun H locs hP hS => ?_)
                refine lv_if_ne (tgt := 65) hx hb dX8_offWeeks_56 (by decide) (fun c109 => ?_) (fun c109 => ?_)
                · have hb100 := zz_ifn c109 hb100
                  obtain ⟨x110, ex110⟩ : ∃ z : Int32, z = x99 + 1 := ⟨_, rfl⟩
                  have hb100 := zz_nmE ex110 hb100
                  refine lv_iinc (v := x110) (lv' := [(6, .int x110), (0, .ref a_t), (2, .int x1), (3, .int x75), (4, .int x76), (5, .int x98), (7, .int x100)]) hx hb dX8_offWeeks_65 hl (k := 5) rfl (by rw [ex110]; rfl) (by decide) rfl (fun ls hl => ?_)
                  refine lv_iload hx hb dX8_offWeeks_68 (lv_at hl 6 rfl) ?_
                  refine lv_iload_n hx hb dX8_offWeeks_70 rfl (lv_at hl 2 rfl) ?_
                  refine lv_iadd hx hb dX8_offWeeks_71 ?_
                  refine lv_topi (fun x111 ex111 => ?_)
                  have hb100 := zz_nmE ex111 hb100
                  refine lv_istore (lv' := [(7, .int x111), (6, .int x110), (0, .ref a_t), (2, .int x1), (3, .int x75), (4, .int x76), (5, .int x98)]) hx hb dX8_offWeeks_72 hl (by decide) rfl (fun ls hl => ?_)
                  refine lv_goto (tgt := 37) hx hb dX8_offWeeks_74 (by decide) ?_
                  obtain rfl := Option.some.inj hb100
                  exact ih100 x98 x110 x111 _ _ ls hy100 hP hD hS (lv_sub hl [2, 3, 4, 5, 6, 1, 0] rfl)
                · have hb100 := zz_if c109 hb100
                  obtain ⟨x112, ex112⟩ : ∃ z : Int32, z = x98 + 1 := ⟨_, rfl⟩
                  have hb100 := zz_nmE ex112 hb100
                  refine lv_iinc (v := x112) (lv' := [(5, .int x112), (0, .ref a_t), (2, .int x1), (3, .int x75), (4, .int x76), (6, .int x99), (7, .int x100)]) hx hb dX8_offWeeks_59 hl (k := 4) rfl (by rw [ex112]; rfl) (by decide) rfl (fun ls hl => ?_)
                  refine lv_goto (tgt := 68) hx hb dX8_offWeeks_62 (by decide) ?_
                  refine lv_iload hx hb dX8_offWeeks_68 (lv_at hl 6 rfl) ?_
                  refine lv_iload_n hx hb dX8_offWeeks_70 rfl (lv_at hl 2 rfl) ?_
                  refine lv_iadd hx hb dX8_offWeeks_71 ?_
                  refine lv_topi (fun x113 ex113 => ?_)
                  have hb100 := zz_nmE ex113 hb100
                  refine lv_istore (lv' := [(7, .int x113), (5, .int x112), (0, .ref a_t), (2, .int x1), (3, .int x75), (4, .int x76), (6, .int x99)]) hx hb dX8_offWeeks_72 hl (by decide) rfl (fun ls hl => ?_)
                  refine lv_goto (tgt := 37) hx hb dX8_offWeeks_74 (by decide) ?_
                  obtain rfl := Option.some.inj hb100
                  exact ih100 x112 x99 x113 _ _ ls hy100 hP hD hS (lv_sub hl [2, 3, 4, 5, 1, 6, 0] rfl)
          exact hL100 zz_fuel 0 0 x76 _ _ ls hit100 hP hD hS (lv_sub hl [3, 4, 5, 6, 2, 1, 0] rfl)
  exact hL76 zz_fuel 0 0 _ _ ls hit76 hP hD hS (lv_sub hl [3, 2, 1, 0] rfl)
theorem hd_X8_near : yX8_near.cls ≠ "java/lang/invoke/MethodHandle" ∧ yX8_near.cls ≠ "java/lang/invoke/VarHandle" ∧ (parseMethodDescriptor yX8_near.desc).map (fun d => d.parameters.length) = some 1 := by decide +kernel
set_option maxHeartbeats 4000000 in
set_option maxRecDepth 100000 in
theorem ct_X8_near (l : Launch) (dC : Nat → ClassId) (dI : Nat → Nat → Nat) (cI cJ cB cZ : ClassId) (a_t a_t_now a_t_text a_t_slotZero a_t_slotOne a_t_wishes a_t_planner a_t_mending a_t_reading a_t_otherReading a_t_now_paper a_t_now_timesLate a_t_now_paid : Nat) (t_theYear : Int32) (t_now_plan : Int64) (t_now_isKept : Int32) (p1 : Int32) (rr : Int32) (u0 : Unit) (h : fn_X8_near t_now_plan p1 = some (rr, u0)) : zz_M l yX8_near wsX8_near ({ frames := 2, cells := 0, slots := 0, locals := 49 }) (dC, dI) (zz_T cI cJ cB cZ) [.ref a_t, .int p1] [(a_t, .inr (7, [.ref a_t_text, .ref a_t_now, .ref a_t_slotZero, .ref a_t_slotOne, .ref a_t_wishes, .ref a_t_planner, .ref a_t_mending, .ref a_t_reading, .ref a_t_otherReading, .int t_theYear])), (a_t_now, .inr (4, [.ref a_t_now_paper, .long t_now_plan, .ref a_t_now_timesLate, .ref a_t_now_paid, .int t_now_isKept]))] (zz_QI (dC, dI) (zz_T cI cJ cB cZ) (rr, u0) (fun (u : Unit) => [(a_t, .inr (7, [.ref a_t_text, .ref a_t_now, .ref a_t_slotZero, .ref a_t_slotOne, .ref a_t_wishes, .ref a_t_planner, .ref a_t_mending, .ref a_t_reading, .ref a_t_otherReading, .int t_theYear])), (a_t_now, .inr (4, [.ref a_t_now_paper, .long t_now_plan, .ref a_t_now_timesLate, .ref a_t_now_paid, .int t_now_isKept]))])) := by
  unfold fn_X8_near at h
  refine zz_of (by decide) rfl (Nat.le_of_ble_eq_true rfl) ?_
  intro p e s m below meth c A ls hx hb hr hml hts hown hlocks hA hS hP hK hD hl
  have hown : s.vm.findClass RX8 = some m.cls := hown
  have hl : lv_has ls 2 [(0, .ref a_t), (1, .int p1)] := hl
  refine lv_iload_n hx hb dX8_near_0 rfl (lv_at hl 1 rfl) ?_
  refine lv_iconst (v := 1) hx hb dX8_near_1 (by decide) ?_
  refine lv_icmp_lt (tgt := 11) hx hb dX8_near_2 (by decide) (fun c1 => ?_) (fun c1 => ?_)
  · have h := zz_if c1 h
    refine lv_bipush (v := (-2)) hx hb dX8_near_11 (by decide) ?_
    refine lv_goto (tgt := 21) hx hb dX8_near_13 (by decide) ?_
    exact zz_iret () hx hb hr hlocks dX8_near_21 (Option.some.inj h) hP hK hD hS
  · have h := zz_ifn c1 h
    refine lv_iload_n hx hb dX8_near_5 rfl (lv_at hl 1 rfl) ?_
    refine lv_bipush (v := 8) hx hb dX8_near_6 (by decide) ?_
    refine lv_icmp_le (tgt := 16) hx hb dX8_near_8 (by decide) (fun c2 => ?_) (fun c2 => ?_)
    · have h := zz_if c2 h
      refine lv_aload_n hx hb dX8_near_16 rfl (lv_at hl 0 rfl) ?_
      refine lv_iload_n hx hb dX8_near_17 rfl (lv_at hl 1 rfl) ?_
      obtain ⟨x3, u4, he5, h⟩ := zz_b2E h
      refine zz_VI (q := (RX8, TX8, 10)) (As := [.int p1]) (rest := []) (wr := []) (wm := [(a_t, .inr (7, [.ref a_t_text, .ref a_t_now, .ref a_t_slotZero, .ref a_t_slotOne, .ref a_t_wishes, .ref a_t_planner, .ref a_t_mending, .ref a_t_reading, .ref a_t_otherReading, .int t_theYear])), (a_t_now, .inr (4, [.ref a_t_now_paper, .long t_now_plan, .ref a_t_now_timesLate, .ref a_t_now_paid, .int t_now_isKept]))]) ⟨hx, hb, hml, hown, hts⟩ (ct_X8_offWeeks l dC dI cI cJ cB cZ a_t a_t_now a_t_text a_t_slotZero a_t_slotOne a_t_wishes a_t_planner a_t_mending a_t_reading a_t_otherReading a_t_now_paper a_t_now_timesLate a_t_now_paid t_theYear t_now_plan t_now_isKept p1 x3 u4 he5) gX8_near_X8_offWeeks hd_X8_offWeeks rfl rfl rfl ⟨Nat.le_of_ble_eq_true rfl, Nat.le_of_ble_eq_true rfl⟩ ⟨Nat.le_of_ble_eq_true rfl, Nat.le_of_ble_eq_true rfl⟩ rfl rfl (Nat.le_of_ble_eq_true rfl) dX8_near_18 hl.1 rfl (ci := 7) rfl (q0 := 0) rfl hP hK hD hS hA [0, 1] [] [0, 1] rfl rfl (by decide) (by decide) (by decide) (by decide) rfl (fun H locs hP hD hS => ?_)
      exact zz_iret () hx hb hr hlocks dX8_near_21 (Option.some.inj h) hP hK hD hS
    · have h := zz_ifn c2 h
      refine lv_bipush (v := (-2)) hx hb dX8_near_11 (by decide) ?_
      refine lv_goto (tgt := 21) hx hb dX8_near_13 (by decide) ?_
      exact zz_iret () hx hb hr hlocks dX8_near_21 (Option.some.inj h) hP hK hD hS
theorem hd_X8_brief : yX8_brief.cls ≠ "java/lang/invoke/MethodHandle" ∧ yX8_brief.cls ≠ "java/lang/invoke/VarHandle" ∧ (parseMethodDescriptor yX8_brief.desc).map (fun d => d.parameters.length) = some 1 := by decide +kernel
set_option maxHeartbeats 4000000 in
set_option maxRecDepth 100000 in
theorem ct_X8_brief (l : Launch) (dC : Nat → ClassId) (dI : Nat → Nat → Nat) (cI cJ cB cZ : ClassId) (a_t a_t_now a_t_text a_t_slotZero a_t_slotOne a_t_wishes a_t_planner a_t_mending a_t_reading a_t_otherReading a_t_now_paper a_t_now_timesLate a_t_now_paid : Nat) (t_theYear : Int32) (t_now_plan : Int64) (t_now_isKept : Int32) (p1 : Int32) (rr : Int32) (u0 : Unit) (h : fn_X8_brief t_now_plan p1 = some (rr, u0)) : zz_M l yX8_brief wsX8_brief ({ frames := 2, cells := 0, slots := 0, locals := 49 }) (dC, dI) (zz_T cI cJ cB cZ) [.ref a_t, .int p1] [(a_t, .inr (7, [.ref a_t_text, .ref a_t_now, .ref a_t_slotZero, .ref a_t_slotOne, .ref a_t_wishes, .ref a_t_planner, .ref a_t_mending, .ref a_t_reading, .ref a_t_otherReading, .int t_theYear])), (a_t_now, .inr (4, [.ref a_t_now_paper, .long t_now_plan, .ref a_t_now_timesLate, .ref a_t_now_paid, .int t_now_isKept]))] (zz_QI (dC, dI) (zz_T cI cJ cB cZ) (rr, u0) (fun (u : Unit) => [(a_t, .inr (7, [.ref a_t_text, .ref a_t_now, .ref a_t_slotZero, .ref a_t_slotOne, .ref a_t_wishes, .ref a_t_planner, .ref a_t_mending, .ref a_t_reading, .ref a_t_otherReading, .int t_theYear])), (a_t_now, .inr (4, [.ref a_t_now_paper, .long t_now_plan, .ref a_t_now_timesLate, .ref a_t_now_paid, .int t_now_isKept]))])) := by
  unfold fn_X8_brief at h
  refine zz_of (by decide) rfl (Nat.le_of_ble_eq_true rfl) ?_
  intro p e s m below meth c A ls hx hb hr hml hts hown hlocks hA hS hP hK hD hl
  have hown : s.vm.findClass RX8 = some m.cls := hown
  have hl : lv_has ls 3 [(0, .ref a_t), (1, .int p1)] := hl
  refine lv_iload_n hx hb dX8_brief_0 rfl (lv_at hl 1 rfl) ?_
  refine lv_if_lt (tgt := 10) hx hb dX8_brief_1 (by decide) (fun c1 => ?_) (fun c1 => ?_)
  · have h := zz_if c1 h
    refine lv_bipush (v := (-2)) hx hb dX8_brief_10 (by decide) ?_
    exact zz_iret () hx hb hr hlocks dX8_brief_12 (Option.some.inj h) hP hK hD hS
  · have h := zz_ifn c1 h
    refine lv_iload_n hx hb dX8_brief_4 rfl (lv_at hl 1 rfl) ?_
    refine lv_bipush (v := 56) hx hb dX8_brief_5 (by decide) ?_
    refine lv_icmp_le (tgt := 13) hx hb dX8_brief_7 (by decide) (fun c2 => ?_) (fun c2 => ?_)
    · have h := zz_if c2 h
      refine lv_iconst (v := 1) hx hb dX8_brief_13 (by decide) ?_
      refine lv_istore_n (lv' := [(2, .int 1), (0, .ref a_t), (1, .int p1)]) hx hb dX8_brief_14 rfl hl (by decide) rfl (fun ls hl => ?_)
      obtain ⟨x16, hit15, h⟩ := zz_b1E h
      refine zz_cut (fun V => ∀ (H : Heap) (locs : List Loc) (ls : Array Slot), va_P (dC, dI) vwCl [(a_t, .inr (7, [.ref a_t_text, .ref a_t_now, .ref a_t_slotZero, .ref a_t_slotOne, .ref a_t_wishes, .ref a_t_planner, .ref a_t_mending, .ref a_t_reading, .ref a_t_otherReading, .int t_theYear])), (a_t_now, .inr (4, [.ref a_t_now_paper, .long t_now_plan, .ref a_t_now_timesLate, .ref a_t_now_paid, .int t_now_isKept]))] H → va_D A [(a_t, .inr (7, [.ref a_t_text, .ref a_t_now, .ref a_t_slotZero, .ref a_t_slotOne, .ref a_t_wishes, .ref a_t_planner, .ref a_t_mending, .ref a_t_reading, .ref a_t_otherReading, .int t_theYear])), (a_t_now, .inr (4, [.ref a_t_now_paper, .long t_now_plan, .ref a_t_now_timesLate, .ref a_t_now_paid, .int t_now_isKept]))] → va_S A s.heap H locs → lv_has ls 3 [(2, .int x16)] → V H locs (F0 m 36 ls [])) ?_ (fun hE15 => ?_)
      · intro H locs ls hP hD hS hl
        refine lv_iload_n hx hb dX8_brief_36 rfl (lv_at hl 0 rfl) ?_
        exact zz_iret () hx hb hr hlocks dX8_brief_37 (Option.some.inj h) hP hK hD hS
      refine zz_cut (fun V => ∀ (n : Nat) (x15 : Int32) (H : Heap) (locs : List Loc) (ls : Array Slot), zz_it (fun z => fb_X8_brief_15 p1 t_now_plan z) n x15 = some x16 → va_P (dC, dI) vwCl [(a_t, .inr (7, [.ref a_t_text, .ref a_t_now, .ref a_t_slotZero, .ref a_t_slotOne, .ref a_t_wishes, .ref a_t_planner, .ref a_t_mending, .ref a_t_reading, .ref a_t_otherReading, .int t_theYear])), (a_t_now, .inr (4, [.ref a_t_now_paper, .long t_now_plan, .ref a_t_now_timesLate, .ref a_t_now_paid, .int t_now_isKept]))] H → va_D A [(a_t, .inr (7, [.ref a_t_text, .ref a_t_now, .ref a_t_slotZero, .ref a_t_slotOne, .ref a_t_wishes, .ref a_t_planner, .ref a_t_mending, .ref a_t_reading, .ref a_t_otherReading, .int t_theYear])), (a_t_now, .inr (4, [.ref a_t_now_paper, .long t_now_plan, .ref a_t_now_timesLate, .ref a_t_now_paid, .int t_now_isKept]))] → va_S A s.heap H locs → lv_has ls 3 [(0, .ref a_t), (1, .int p1), (2, .int x15)] → V H locs (F0 m 15 ls [])) ?_ (fun hL15 => ?_)
      · intro n
        induction n with
        | zero => intro x15 H locs ls hit15; exact (zz_it0 hit15).elim
        | succ n ih15 =>
          intro x15 H locs ls hit15 hP hD hS hl
          obtain ⟨y15, hb15, hy15⟩ := zz_itE hit15
          have hb15 : fb_X8_brief_15 p1 t_now_plan x15 = some y15 := hb15
          unfold fb_X8_brief_15 at hb15
          refine lv_iload_n hx hb dX8_brief_15 rfl (lv_at hl 2 rfl) ?_
          refine lv_bipush (v := 8) hx hb dX8_brief_16 (by decide) ?_
          refine lv_icmp_ge (tgt := 36) hx hb dX8_brief_18 (by decide) (fun c17 => ?_) (fun c17 => ?_)
          · have hb15 := zz_if c17 hb15
            obtain rfl := Option.some.inj hb15
            have hy15 := Option.some.inj hy15
            cases hy15
            exact hE15 _ _ ls hP hD hS (lv_sub hl [2] rfl)
          · have hb15 := zz_ifn c17 hb15
            refine lv_aload_n hx hb dX8_brief_21 rfl (lv_at hl 0 rfl) ?_
            refine lv_iload_n hx hb dX8_brief_22 rfl (lv_at hl 2 rfl) ?_
            obtain ⟨x18, u19, he20, hb15⟩ := zz_b2E hb15
            refine zz_VI (q := (RX8, TX8, 10)) (As := [.int x15]) (rest := []) (wr := []) (wm := [(a_t, .inr (7, [.ref a_t_text, .ref a_t_now, .ref a_t_slotZero, .ref a_t_slotOne, .ref a_t_wishes, .ref a_t_planner, .ref a_t_mending, .ref a_t_reading, .ref a_t_otherReading, .int t_theYear])), (a_t_now, .inr (4, [.ref a_t_now_paper, .long t_now_plan, .ref a_t_now_timesLate, .ref a_t_now_paid, .int t_now_isKept]))]) ⟨hx, hb, hml, hown, hts⟩ (ct_X8_offWeeks l dC dI cI cJ cB cZ a_t a_t_now a_t_text a_t_slotZero a_t_slotOne a_t_wishes a_t_planner a_t_mending a_t_reading a_t_otherReading a_t_now_paper a_t_now_timesLate a_t_now_paid t_theYear t_now_plan t_now_isKept x15 x18 u19 he20) gX8_brief_X8_offWeeks hd_X8_offWeeks rfl rfl rfl ⟨Nat.le_of_ble_eq_true rfl, Nat.le_of_ble_eq_true rfl⟩ ⟨Nat.le_of_ble_eq_true rfl, Nat.le_of_ble_eq_true rfl⟩ rfl rfl (Nat.le_of_ble_eq_true rfl) dX8_brief_23 hl.1 rfl (ci := 7) rfl (q0 := 0) rfl hP hK hD hS hA [0, 1] [] [0, 1] rfl rfl (by decide) (by decide) (by decide) (by decide) rfl (fun H locs hP hD hS => ?_)
            refine lv_iload_n hx hb dX8_brief_26 rfl (lv_at hl 1 rfl) ?_
            refine lv_icmp_le (tgt := 36) hx hb dX8_brief_27 (by decide) (fun c21 => ?_) (fun c21 => ?_)
            · have hb15 := zz_if c21 hb15
              obtain rfl := Option.some.inj hb15
              have hy15 := Option.some.inj hy15
              cases hy15
              exact hE15 _ _ ls hP hD hS (lv_sub hl [2] rfl)
            · have hb15 := zz_ifn c21 hb15
              obtain ⟨x22, ex22⟩ : ∃ z : Int32, z = x15 + 1 := ⟨_, rfl⟩
              have hb15 := zz_nmE ex22 hb15
              refine lv_iinc (v := x22) (lv' := [(2, .int x22), (0, .ref a_t), (1, .int p1)]) hx hb dX8_brief_30 hl (k := 2) rfl (by rw [ex22]; rfl) (by decide) rfl (fun ls hl => ?_)
              refine lv_goto (tgt := 15) hx hb dX8_brief_33 (by decide) ?_
              obtain rfl := Option.some.inj hb15
              exact ih15 x22 _ _ ls hy15 hP hD hS (lv_sub hl [1, 2, 0] rfl)
      exact hL15 zz_fuel 1 _ _ ls hit15 hP hD hS (lv_sub hl [1, 2, 0] rfl)
    · have h := zz_ifn c2 h
      refine lv_bipush (v := (-2)) hx hb dX8_brief_10 (by decide) ?_
      exact zz_iret () hx hb hr hlocks dX8_brief_12 (Option.some.inj h) hP hK hD hS
