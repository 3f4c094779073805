theorem hd_X9_best : yX9_best.cls ≠ "java/lang/invoke/MethodHandle" ∧ yX9_best.cls ≠ "java/lang/invoke/VarHandle" ∧ (parseMethodDescriptor yX9_best.desc).map (fun d => d.parameters.length) = some 0 := by decide +kernel
set_option maxHeartbeats 4000000 in
set_option maxRecDepth 100000 in
theorem ct_X9_best (l : Launch) (dC : Nat → ClassId) (dI : Nat → Nat → Nat) (cI cJ cB cZ : ClassId) (a_t a_t_ahead a_t_best a_t_paperMany a_t_papers a_t_wantHouse a_t_wantNight a_t_wantWeight a_t_whose a_t_read a_t_text a_t_plan a_t_fines a_t_times a_t_isKept a_t_keptPlan a_t_keptFines a_t_keptTimes : Nat) (t_readMany : Int32) (t_length : Int32) (t_at : Int32) (t_faultAt : Int32) (t_year : Int32) (t_wordsNow : Int32) (t_mendChanges : Int32) (t_most : Int32) (t_above : Int32) (t_handing : Int32) (t_wants : Int32) (t_ahead : (Nat → Int32)) (t_best : (Nat → Int32)) (t_paperMany : (Nat → Int32)) (t_papers : (Nat → Int32)) (t_wantHouse : (Nat → Int32)) (t_wantNight : (Nat → Int32)) (t_wantWeight : (Nat → Int32)) (t_whose : (Nat → Int32)) (rr : Int32) (o1 : Int32) (o2 : (Nat → Int32)) (o3 : (Nat → Int32)) (o4 : (Nat → Int32)) (h : fn_X9_best t_year t_wordsNow t_most t_above t_handing t_wants t_ahead t_best t_paperMany t_papers t_wantHouse t_wantNight t_wantWeight t_whose = some (rr, o1, o2, o3, o4)) : zz_M l yX9_best wsX9_best ({ frames := 5, cells := 0, slots := 0, locals := 131 }) (dC, dI) (zz_T cI cJ cB cZ) [.ref a_t] [(a_t, .inr (8, [.ref a_t_read, .int t_readMany, .ref a_t_papers, .ref a_t_paperMany, .ref a_t_text, .int t_length, .int t_at, .int t_faultAt, .int t_year, .int t_wordsNow, .ref a_t_whose, .int t_mendChanges, .ref a_t_plan, .int t_most, .int t_above, .int t_handing, .int t_wants, .ref a_t_wantNight, .ref a_t_wantHouse, .ref a_t_wantWeight, .ref a_t_ahead, .ref a_t_best, .ref a_t_fines, .ref a_t_times, .ref a_t_isKept, .ref a_t_keptPlan, .ref a_t_keptFines, .ref a_t_keptTimes])), (a_t_ahead, .inl (cI, 1824, .inl t_ahead)), (a_t_best, .inl (cI, 56, .inl t_best)), (a_t_paperMany, .inl (cI, 3, .inl t_paperMany)), (a_t_papers, .inl (cI, 180, .inl t_papers)), (a_t_wantHouse, .inl (cI, 12, .inl t_wantHouse)), (a_t_wantNight, .inl (cI, 12, .inl t_wantNight)), (a_t_wantWeight, .inl (cI, 12, .inl t_wantWeight)), (a_t_whose, .inl (cI, 56, .inl t_whose))] (zz_QI (dC, dI) (zz_T cI cJ cB cZ) (rr, o1, o2, o3, o4) (fun (u : Int32 × (Nat → Int32) × (Nat → Int32) × (Nat → Int32)) => [(a_t, .inr (8, [.ref a_t_read, .int t_readMany, .ref a_t_papers, .ref a_t_paperMany, .ref a_t_text, .int t_length, .int t_at, .int t_faultAt, .int t_year, .int u.1, .ref a_t_whose, .int t_mendChanges, .ref a_t_plan, .int t_most, .int t_above, .int t_handing, .int t_wants, .ref a_t_wantNight, .ref a_t_wantHouse, .ref a_t_wantWeight, .ref a_t_ahead, .ref a_t_best, .ref a_t_fines, .ref a_t_times, .ref a_t_isKept, .ref a_t_keptPlan, .ref a_t_keptFines, .ref a_t_keptTimes])), (a_t_ahead, .inl (cI, 1824, .inl u.2.1)), (a_t_best, .inl (cI, 56, .inl u.2.2.1)), (a_t_paperMany, .inl (cI, 3, .inl t_paperMany)), (a_t_papers, .inl (cI, 180, .inl t_papers)), (a_t_wantHouse, .inl (cI, 12, .inl t_wantHouse)), (a_t_wantNight, .inl (cI, 12, .inl t_wantNight)), (a_t_wantWeight, .inl (cI, 12, .inl t_wantWeight)), (a_t_whose, .inl (cI, 56, .inl u.2.2.2))])) := by
  unfold fn_X9_best at h
  refine zz_of (by decide) rfl (Nat.le_of_ble_eq_true rfl) ?_
  intro p e s m below meth c A ls hx hb hr hml hts hown hlocks hA hS hP hK hD hl
  have hown : s.vm.findClass RX9 = some m.cls := hown
  have hl : lv_has ls 1 [(0, .ref a_t)] := hl
  refine lv_aload_n hx hb dX9_best_0 rfl (lv_at hl 0 rfl) ?_
  refine lv_iconst (v := 0) hx hb dX9_best_1 (by decide) ?_
  obtain ⟨x1, x2, g3, g4, g5, he6, h⟩ := zz_b5E h
  refine zz_VI (q := (RX9, TX9, 28)) (As := [.int 0]) (rest := []) (wr := []) (wm := [(a_t, .inr (8, [.ref a_t_read, .int t_readMany, .ref a_t_papers, .ref a_t_paperMany, .ref a_t_text, .int t_length, .int t_at, .int t_faultAt, .int t_year, .int x2, .ref a_t_whose, .int t_mendChanges, .ref a_t_plan, .int t_most, .int t_above, .int t_handing, .int t_wants, .ref a_t_wantNight, .ref a_t_wantHouse, .ref a_t_wantWeight, .ref a_t_ahead, .ref a_t_best, .ref a_t_fines, .ref a_t_times, .ref a_t_isKept, .ref a_t_keptPlan, .ref a_t_keptFines, .ref a_t_keptTimes])), (a_t_ahead, .inl (cI, 1824, .inl g3)), (a_t_best, .inl (cI, 56, .inl g4)), (a_t_paperMany, .inl (cI, 3, .inl t_paperMany)), (a_t_papers, .inl (cI, 180, .inl t_papers)), (a_t_wantHouse, .inl (cI, 12, .inl t_wantHouse)), (a_t_wantNight, .inl (cI, 12, .inl t_wantNight)), (a_t_wantWeight, .inl (cI, 12, .inl t_wantWeight)), (a_t_whose, .inl (cI, 56, .inl g5))]) ⟨hx, hb, hml, hown, hts⟩ (ct_X9_layBest l dC dI cI cJ cB cZ a_t a_t_ahead a_t_best a_t_paperMany a_t_papers a_t_wantHouse a_t_wantNight a_t_wantWeight a_t_whose a_t_read a_t_text a_t_plan a_t_fines a_t_times a_t_isKept a_t_keptPlan a_t_keptFines a_t_keptTimes t_readMany t_length t_at t_faultAt t_year t_wordsNow t_mendChanges t_most t_above t_handing t_wants t_ahead t_best t_paperMany t_papers t_wantHouse t_wantNight t_wantWeight t_whose (0 : Int32) x1 x2 g3 g4 g5 he6) gX9_best_X9_layBest hd_X9_layBest rfl rfl rfl ⟨Nat.le_of_ble_eq_true rfl, Nat.le_of_ble_eq_true rfl⟩ ⟨Nat.le_of_ble_eq_true rfl, Nat.le_of_ble_eq_true rfl⟩ rfl rfl (Nat.le_of_ble_eq_true rfl) dX9_best_2 hl.1 rfl (ci := 8) rfl (q0 := 0) rfl hP hK hD hS hA [0, 1, 2, 3, 4, 5, 6, 7, 8] [] [0, 1, 2, 3, 4, 5, 6, 7, 8] rfl rfl (by decide) (by decide) (by decide) (by decide) rfl (fun H locs hP hD hS => ?_)
  exact zz_iret (x2, g3, g4, g5) hx hb hr hlocks dX9_best_5 (Option.some.inj h) hP hK hD hS
theorem hd_X9_bestAt : yX9_bestAt.cls ≠ "java/lang/invoke/MethodHandle" ∧ yX9_bestAt.cls ≠ "java/lang/invoke/VarHandle" ∧ (parseMethodDescriptor yX9_bestAt.desc).map (fun d => d.parameters.length) = some 1 := by decide +kernel
set_option maxRecDepth 20000 in
theorem in_X9_bestAt_X9 : ∀ w ∈ u_ws RX9 TX9 28, w ∈ wsX9_bestAt := by decide +kernel
set_option maxRecDepth 20000 in
theorem lk_X9_bestAt_0 : Cond.fieldLink RX9 40 "TwoHousesOneChildModel" "best" "[I" ∈ wsX9_bestAt := by decide +kernel
set_option maxHeartbeats 4000000 in
set_option maxRecDepth 100000 in
theorem ct_X9_bestAt (l : Launch) (dC : Nat → ClassId) (dI : Nat → Nat → Nat) (cI cJ cB cZ : ClassId) (a_t a_t_ahead a_t_best a_t_paperMany a_t_papers a_t_wantHouse a_t_wantNight a_t_wantWeight a_t_whose a_t_read a_t_text a_t_plan a_t_fines a_t_times a_t_isKept a_t_keptPlan a_t_keptFines a_t_keptTimes : Nat) (t_readMany : Int32) (t_length : Int32) (t_at : Int32) (t_faultAt : Int32) (t_year : Int32) (t_wordsNow : Int32) (t_mendChanges : Int32) (t_most : Int32) (t_above : Int32) (t_handing : Int32) (t_wants : Int32) (t_ahead : (Nat → Int32)) (t_best : (Nat → Int32)) (t_paperMany : (Nat → Int32)) (t_papers : (Nat → Int32)) (t_wantHouse : (Nat → Int32)) (t_wantNight : (Nat → Int32)) (t_wantWeight : (Nat → Int32)) (t_whose : (Nat → Int32)) (p1 : Int32) (rr : Int32) (o1 : Int32) (o2 : (Nat → Int32)) (o3 : (Nat → Int32)) (o4 : (Nat → Int32)) (h : fn_X9_bestAt t_year t_wordsNow t_most t_above t_handing t_wants t_ahead t_best t_paperMany t_papers t_wantHouse t_wantNight t_wantWeight t_whose p1 = some (rr, o1, o2, o3, o4)) : zz_M l yX9_bestAt wsX9_bestAt ({ frames := 5, cells := 0, slots := 0, locals := 131 }) (dC, dI) (zz_T cI cJ cB cZ) [.ref a_t, .int p1] [(a_t, .inr (8, [.ref a_t_read, .int t_readMany, .ref a_t_papers, .ref a_t_paperMany, .ref a_t_text, .int t_length, .int t_at, .int t_faultAt, .int t_year, .int t_wordsNow, .ref a_t_whose, .int t_mendChanges, .ref a_t_plan, .int t_most, .int t_above, .int t_handing, .int t_wants, .ref a_t_wantNight, .ref a_t_wantHouse, .ref a_t_wantWeight, .ref a_t_ahead, .ref a_t_best, .ref a_t_fines, .ref a_t_times, .ref a_t_isKept, .ref a_t_keptPlan, .ref a_t_keptFines, .ref a_t_keptTimes])), (a_t_ahead, .inl (cI, 1824, .inl t_ahead)), (a_t_best, .inl (cI, 56, .inl t_best)), (a_t_paperMany, .inl (cI, 3, .inl t_paperMany)), (a_t_papers, .inl (cI, 180, .inl t_papers)), (a_t_wantHouse, .inl (cI, 12, .inl t_wantHouse)), (a_t_wantNight, .inl (cI, 12, .inl t_wantNight)), (a_t_wantWeight, .inl (cI, 12, .inl t_wantWeight)), (a_t_whose, .inl (cI, 56, .inl t_whose))] (zz_QI (dC, dI) (zz_T cI cJ cB cZ) (rr, o1, o2, o3, o4) (fun (u : Int32 × (Nat → Int32) × (Nat → Int32) × (Nat → Int32)) => [(a_t, .inr (8, [.ref a_t_read, .int t_readMany, .ref a_t_papers, .ref a_t_paperMany, .ref a_t_text, .int t_length, .int t_at, .int t_faultAt, .int t_year, .int u.1, .ref a_t_whose, .int t_mendChanges, .ref a_t_plan, .int t_most, .int t_above, .int t_handing, .int t_wants, .ref a_t_wantNight, .ref a_t_wantHouse, .ref a_t_wantWeight, .ref a_t_ahead, .ref a_t_best, .ref a_t_fines, .ref a_t_times, .ref a_t_isKept, .ref a_t_keptPlan, .ref a_t_keptFines, .ref a_t_keptTimes])), (a_t_ahead, .inl (cI, 1824, .inl u.2.1)), (a_t_best, .inl (cI, 56, .inl u.2.2.1)), (a_t_paperMany, .inl (cI, 3, .inl t_paperMany)), (a_t_papers, .inl (cI, 180, .inl t_papers)), (a_t_wantHouse, .inl (cI, 12, .inl t_wantHouse)), (a_t_wantNight, .inl (cI, 12, .inl t_wantNight)), (a_t_wantWeight, .inl (cI, 12, .inl t_wantWeight)), (a_t_whose, .inl (cI, 56, .inl u.2.2.2))])) := by
  unfold fn_X9_bestAt at h
  refine zz_of (by decide) rfl (Nat.le_of_ble_eq_true rfl) ?_
  intro p e s m below meth c A ls hx hb hr hml hts hown hlocks hA hS hP hK hD hl
  have hown : s.vm.findClass RX9 = some m.cls := hown
  have hl : lv_has ls 2 [(0, .ref a_t), (1, .int p1)] := hl
  refine lv_iload_n hx hb dX9_bestAt_0 rfl (lv_at hl 1 rfl) ?_
  obtain ⟨x1, u2, he3, h⟩ := zz_b2E h
  refine zz_PI (As := [.int p1]) (rest := []) ⟨hx, hb, hml, hown, hts⟩ (ct_X9_isNight l dC dI cI cJ cB cZ p1 x1 u2 he3) gX9_bestAt_X9_isNight hd_X9_isNight rfl rfl rfl ⟨Nat.le_of_ble_eq_true rfl, Nat.le_of_ble_eq_true rfl⟩ ⟨Nat.le_of_ble_eq_true rfl, Nat.le_of_ble_eq_true rfl⟩ rfl rfl (Nat.le_of_ble_eq_true rfl) dX9_bestAt_1 hl.1 hP hK hS hA (fun H locs hP hS => ?_)
  refine lv_if_ne (tgt := 9) hx hb dX9_bestAt_4 (by decide) (fun c4 => ?_) (fun c4 => ?_)
  · have h := zz_ifn c4 h
    refine lv_aload_n hx hb dX9_bestAt_9 rfl (lv_at hl 0 rfl) ?_
    refine lv_iconst (v := 0) hx hb dX9_bestAt_10 (by decide) ?_
    obtain ⟨x5, x6, g7, g8, g9, he10, h⟩ := zz_b5E h
    refine zz_VI (q := (RX9, TX9, 28)) (As := [.int 0]) (rest := []) (wr := []) (wm := [(a_t, .inr (8, [.ref a_t_read, .int t_readMany, .ref a_t_papers, .ref a_t_paperMany, .ref a_t_text, .int t_length, .int t_at, .int t_faultAt, .int t_year, .int x6, .ref a_t_whose, .int t_mendChanges, .ref a_t_plan, .int t_most, .int t_above, .int t_handing, .int t_wants, .ref a_t_wantNight, .ref a_t_wantHouse, .ref a_t_wantWeight, .ref a_t_ahead, .ref a_t_best, .ref a_t_fines, .ref a_t_times, .ref a_t_isKept, .ref a_t_keptPlan, .ref a_t_keptFines, .ref a_t_keptTimes])), (a_t_ahead, .inl (cI, 1824, .inl g7)), (a_t_best, .inl (cI, 56, .inl g8)), (a_t_paperMany, .inl (cI, 3, .inl t_paperMany)), (a_t_papers, .inl (cI, 180, .inl t_papers)), (a_t_wantHouse, .inl (cI, 12, .inl t_wantHouse)), (a_t_wantNight, .inl (cI, 12, .inl t_wantNight)), (a_t_wantWeight, .inl (cI, 12, .inl t_wantWeight)), (a_t_whose, .inl (cI, 56, .inl g9))]) ⟨hx, hb, hml, hown, hts⟩ (ct_X9_layBest l dC dI cI cJ cB cZ a_t a_t_ahead a_t_best a_t_paperMany a_t_papers a_t_wantHouse a_t_wantNight a_t_wantWeight a_t_whose a_t_read a_t_text a_t_plan a_t_fines a_t_times a_t_isKept a_t_keptPlan a_t_keptFines a_t_keptTimes t_readMany t_length t_at t_faultAt t_year t_wordsNow t_mendChanges t_most t_above t_handing t_wants t_ahead t_best t_paperMany t_papers t_wantHouse t_wantNight t_wantWeight t_whose (0 : Int32) x5 x6 g7 g8 g9 he10) gX9_bestAt_X9_layBest hd_X9_layBest rfl rfl rfl ⟨Nat.le_of_ble_eq_true rfl, Nat.le_of_ble_eq_true rfl⟩ ⟨Nat.le_of_ble_eq_true rfl, Nat.le_of_ble_eq_true rfl⟩ rfl rfl (Nat.le_of_ble_eq_true rfl) dX9_bestAt_11 hl.1 rfl (ci := 8) rfl (q0 := 0) rfl hP hK hD hS hA [0, 1, 2, 3, 4, 5, 6, 7, 8] [] [0, 1, 2, 3, 4, 5, 6, 7, 8] rfl rfl (by decide) (by decide) (by decide) (by decide) rfl (fun H locs hP hD hS => ?_)
    refine lv_pop hx hb dX9_bestAt_14 rfl ?_
    refine lv_aload_n hx hb dX9_bestAt_15 rfl (lv_at hl 0 rfl) ?_
    refine va_get (ci := 8) (v := .ref a_t_best) (C := RX9) (T := TX9) (N := 28) hx hb hts in_X9_bestAt_X9 hown hK hP 0 rfl rfl 21 (by decide) (hts _ lk_X9_bestAt_0) (fun _ h9 => h9) rfl dX9_bestAt_16 ?_
    refine lv_iload_n hx hb dX9_bestAt_19 rfl (lv_at hl 1 rfl) ?_
    obtain ⟨hi11, h⟩ := zz_chkE h
    refine va_iald hx hb hK hP 2 0 rfl rfl hi11 dX9_bestAt_20 ?_
    exact zz_iret (x6, g7, g8, g9) hx hb hr hlocks dX9_bestAt_21 (Option.some.inj h) hP hK hD hS
  · have h := zz_if c4 h
    refine lv_iconst (v := (-1)) hx hb dX9_bestAt_7 (by decide) ?_
    exact zz_iret (t_wordsNow, t_ahead, t_best, t_whose) hx hb hr hlocks dX9_bestAt_8 (Option.some.inj h) hP hK hD hS
theorem hd_X9_take : yX9_take.cls ≠ "java/lang/invoke/MethodHandle" ∧ yX9_take.cls ≠ "java/lang/invoke/VarHandle" ∧ (parseMethodDescriptor yX9_take.desc).map (fun d => d.parameters.length) = some 0 := by decide +kernel
set_option maxRecDepth 20000 in
theorem in_X9_take_X9 : ∀ w ∈ u_ws RX9 TX9 28, w ∈ wsX9_take := by decide +kernel
set_option maxRecDepth 20000 in
theorem lk_X9_take_0 : Cond.fieldLink RX9 25 "TwoHousesOneChildModel" "plan" "[I" ∈ wsX9_take := by decide +kernel
set_option maxRecDepth 20000 in
theorem lk_X9_take_1 : Cond.fieldLink RX9 40 "TwoHousesOneChildModel" "best" "[I" ∈ wsX9_take := by decide +kernel
set_option maxHeartbeats 4000000 in
set_option maxRecDepth 100000 in
theorem ct_X9_take (l : Launch) (dC : Nat → ClassId) (dI : Nat → Nat → Nat) (cI cJ cB cZ : ClassId) (a_t a_t_ahead a_t_best a_t_paperMany a_t_papers a_t_plan a_t_wantHouse a_t_wantNight a_t_wantWeight a_t_whose a_t_read a_t_text a_t_fines a_t_times a_t_isKept a_t_keptPlan a_t_keptFines a_t_keptTimes : Nat) (t_readMany : Int32) (t_length : Int32) (t_at : Int32) (t_faultAt : Int32) (t_year : Int32) (t_wordsNow : Int32) (t_mendChanges : Int32) (t_most : Int32) (t_above : Int32) (t_handing : Int32) (t_wants : Int32) (t_ahead : (Nat → Int32)) (t_best : (Nat → Int32)) (t_paperMany : (Nat → Int32)) (t_papers : (Nat → Int32)) (t_plan : (Nat → Int32)) (t_wantHouse : (Nat → Int32)) (t_wantNight : (Nat → Int32)) (t_wantWeight : (Nat → Int32)) (t_whose : (Nat → Int32)) (rr : Int32) (o1 : Int32) (o2 : (Nat → Int32)) (o3 : (Nat → Int32)) (o4 : (Nat → Int32)) (o5 : (Nat → Int32)) (h : fn_X9_take t_year t_wordsNow t_most t_above t_handing t_wants t_ahead t_best t_paperMany t_papers t_plan t_wantHouse t_wantNight t_wantWeight t_whose = some (rr, o1, o2, o3, o4, o5)) : zz_M l yX9_take wsX9_take ({ frames := 5, cells := 0, slots := 0, locals := 131 }) (dC, dI) (zz_T cI cJ cB cZ) [.ref a_t] [(a_t, .inr (8, [.ref a_t_read, .int t_readMany, .ref a_t_papers, .ref a_t_paperMany, .ref a_t_text, .int t_length, .int t_at, .int t_faultAt, .int t_year, .int t_wordsNow, .ref a_t_whose, .int t_mendChanges, .ref a_t_plan, .int t_most, .int t_above, .int t_handing, .int t_wants, .ref a_t_wantNight, .ref a_t_wantHouse, .ref a_t_wantWeight, .ref a_t_ahead, .ref a_t_best, .ref a_t_fines, .ref a_t_times, .ref a_t_isKept, .ref a_t_keptPlan, .ref a_t_keptFines, .ref a_t_keptTimes])), (a_t_ahead, .inl (cI, 1824, .inl t_ahead)), (a_t_best, .inl (cI, 56, .inl t_best)), (a_t_paperMany, .inl (cI, 3, .inl t_paperMany)), (a_t_papers, .inl (cI, 180, .inl t_papers)), (a_t_plan, .inl (cI, 56, .inl t_plan)), (a_t_wantHouse, .inl (cI, 12, .inl t_wantHouse)), (a_t_wantNight, .inl (cI, 12, .inl t_wantNight)), (a_t_wantWeight, .inl (cI, 12, .inl t_wantWeight)), (a_t_whose, .inl (cI, 56, .inl t_whose))] (zz_QI (dC, dI) (zz_T cI cJ cB cZ) (rr, o1, o2, o3, o4, o5) (fun (u : Int32 × (Nat → Int32) × (Nat → Int32) × (Nat → Int32) × (Nat → Int32)) => [(a_t, .inr (8, [.ref a_t_read, .int t_readMany, .ref a_t_papers, .ref a_t_paperMany, .ref a_t_text, .int t_length, .int t_at, .int t_faultAt, .int t_year, .int u.1, .ref a_t_whose, .int t_mendChanges, .ref a_t_plan, .int t_most, .int t_above, .int t_handing, .int t_wants, .ref a_t_wantNight, .ref a_t_wantHouse, .ref a_t_wantWeight, .ref a_t_ahead, .ref a_t_best, .ref a_t_fines, .ref a_t_times, .ref a_t_isKept, .ref a_t_keptPlan, .ref a_t_keptFines, .ref a_t_keptTimes])), (a_t_ahead, .inl (cI, 1824, .inl u.2.1)), (a_t_best, .inl (cI, 56, .inl u.2.2.1)), (a_t_paperMany, .inl (cI, 3, .inl t_paperMany)), (a_t_papers, .inl (cI, 180, .inl t_papers)), (a_t_plan, .inl (cI, 56, .inl u.2.2.2.1)), (a_t_wantHouse, .inl (cI, 12, .inl t_wantHouse)), (a_t_wantNight, .inl (cI, 12, .inl t_wantNight)), (a_t_wantWeight, .inl (cI, 12, .inl t_wantWeight)), (a_t_whose, .inl (cI, 56, .inl u.2.2.2.2))])) := by
  unfold fn_X9_take at h
  refine zz_of (by decide) rfl (Nat.le_of_ble_eq_true rfl) ?_
  intro p e s m below meth c A ls hx hb hr hml hts hown hlocks hA hS hP hK hD hl
  have hown : s.vm.findClass RX9 = some m.cls := hown
  have hl : lv_has ls 3 [(0, .ref a_t)] := hl
  refine lv_aload_n hx hb dX9_take_0 rfl (lv_at hl 0 rfl) ?_
  refine lv_iconst (v := 0) hx hb dX9_take_1 (by decide) ?_
  obtain ⟨x1, x2, g3, g4, g5, he6, h⟩ := zz_b5E h
  refine zz_VI (q := (RX9, TX9, 28)) (As := [.int 0]) (rest := []) (wr := [(a_t_plan, .inl (cI, 56, .inl t_plan))]) (wm := [(a_t, .inr (8, [.ref a_t_read, .int t_readMany, .ref a_t_papers, .ref a_t_paperMany, .ref a_t_text, .int t_length, .int t_at, .int t_faultAt, .int t_year, .int x2, .ref a_t_whose, .int t_mendChanges, .ref a_t_plan, .int t_most, .int t_above, .int t_handing, .int t_wants, .ref a_t_wantNight, .ref a_t_wantHouse, .ref a_t_wantWeight, .ref a_t_ahead, .ref a_t_best, .ref a_t_fines, .ref a_t_times, .ref a_t_isKept, .ref a_t_keptPlan, .ref a_t_keptFines, .ref a_t_keptTimes])), (a_t_ahead, .inl (cI, 1824, .inl g3)), (a_t_best, .inl (cI, 56, .inl g4)), (a_t_paperMany, .inl (cI, 3, .inl t_paperMany)), (a_t_papers, .inl (cI, 180, .inl t_papers)), (a_t_plan, .inl (cI, 56, .inl t_plan)), (a_t_wantHouse, .inl (cI, 12, .inl t_wantHouse)), (a_t_wantNight, .inl (cI, 12, .inl t_wantNight)), (a_t_wantWeight, .inl (cI, 12, .inl t_wantWeight)), (a_t_whose, .inl (cI, 56, .inl g5))]) ⟨hx, hb, hml, hown, hts⟩ (ct_X9_layBest l dC dI cI cJ cB cZ a_t a_t_ahead a_t_best a_t_paperMany a_t_papers a_t_wantHouse a_t_wantNight a_t_wantWeight a_t_whose a_t_read a_t_text a_t_plan a_t_fines a_t_times a_t_isKept a_t_keptPlan a_t_keptFines a_t_keptTimes t_readMany t_length t_at t_faultAt t_year t_wordsNow t_mendChanges t_most t_above t_handing t_wants t_ahead t_best t_paperMany t_papers t_wantHouse t_wantNight t_wantWeight t_whose (0 : Int32) x1 x2 g3 g4 g5 he6) gX9_take_X9_layBest hd_X9_layBest rfl rfl rfl ⟨Nat.le_of_ble_eq_true rfl, Nat.le_of_ble_eq_true rfl⟩ ⟨Nat.le_of_ble_eq_true rfl, Nat.le_of_ble_eq_true rfl⟩ rfl rfl (Nat.le_of_ble_eq_true rfl) dX9_take_2 hl.1 rfl (ci := 8) rfl (q0 := 0) rfl hP hK hD hS hA [0, 1, 2, 3, 4, 6, 7, 8, 9] [5] [1, 2, 3, 4, 5, 0, 6, 7, 8, 9] rfl rfl (by decide) (by decide) (by decide) (by decide) rfl (fun H locs hP hD hS => ?_)
  refine lv_pop hx hb dX9_take_5 rfl ?_
  refine lv_iconst (v := 0) hx hb dX9_take_6 (by decide) ?_
  refine lv_istore_n (lv' := [(1, .int 0), (0, .ref a_t)]) hx hb dX9_take_7 rfl hl (by decide) rfl (fun ls hl => ?_)
  refine lv_iconst (v := 0) hx hb dX9_take_8 (by decide) ?_
  refine lv_istore_n (lv' := [(2, .int 0), (1, .int 0), (0, .ref a_t)]) hx hb dX9_take_9 rfl hl (by decide) rfl (fun ls hl => ?_)
  obtain ⟨x32, g33, hit31, h⟩ := zz_b2E h
  refine zz_cut (fun V => ∀ (H : Heap) (locs : List Loc) (ls : Array Slot), va_P (dC, dI) vwCl [(a_t, .inr (8, [.ref a_t_read, .int t_readMany, .ref a_t_papers, .ref a_t_paperMany, .ref a_t_text, .int t_length, .int t_at, .int t_faultAt, .int t_year, .int x2, .ref a_t_whose, .int t_mendChanges, .ref a_t_plan, .int t_most, .int t_above, .int t_handing, .int t_wants, .ref a_t_wantNight, .ref a_t_wantHouse, .ref a_t_wantWeight, .ref a_t_ahead, .ref a_t_best, .ref a_t_fines, .ref a_t_times, .ref a_t_isKept, .ref a_t_keptPlan, .ref a_t_keptFines, .ref a_t_keptTimes])), (a_t_ahead, .inl (cI, 1824, .inl g3)), (a_t_best, .inl (cI, 56, .inl g4)), (a_t_paperMany, .inl (cI, 3, .inl t_paperMany)), (a_t_papers, .inl (cI, 180, .inl t_papers)), (a_t_plan, .inl (cI, 56, .inl g33)), (a_t_wantHouse, .inl (cI, 12, .inl t_wantHouse)), (a_t_wantNight, .inl (cI, 12, .inl t_wantNight)), (a_t_wantWeight, .inl (cI, 12, .inl t_wantWeight)), (a_t_whose, .inl (cI, 56, .inl g5))] H → va_D A [(a_t, .inr (8, [.ref a_t_read, .int t_readMany, .ref a_t_papers, .ref a_t_paperMany, .ref a_t_text, .int t_length, .int t_at, .int t_faultAt, .int t_year, .int x2, .ref a_t_whose, .int t_mendChanges, .ref a_t_plan, .int t_most, .int t_above, .int t_handing, .int t_wants, .ref a_t_wantNight, .ref a_t_wantHouse, .ref a_t_wantWeight, .ref a_t_ahead, .ref a_t_best, .ref a_t_fines, .ref a_t_times, .ref a_t_isKept, .ref a_t_keptPlan, .ref a_t_keptFines, .ref a_t_keptTimes])), (a_t_ahead, .inl (cI, 1824, .inl g3)), (a_t_best, .inl (cI, 56, .inl g4)), (a_t_paperMany, .inl (cI, 3, .inl t_paperMany)), (a_t_papers, .inl (cI, 180, .inl t_papers)), (a_t_plan, .inl (cI, 56, .inl g33)), (a_t_wantHouse, .inl (cI, 12, .inl t_wantHouse)), (a_t_wantNight, .inl (cI, 12, .inl t_wantNight)), (a_t_wantWeight, .inl (cI, 12, .inl t_wantWeight)), (a_t_whose, .inl (cI, 56, .inl g5))] → va_S A s.heap H locs → lv_has ls 3 [(1, .int x32)] → V H locs (F0 m 57 ls [])) ?_ (fun hE31 => ?_)
  · intro H locs ls hP hD hS hl
    refine lv_iload_n hx hb dX9_take_57 rfl (lv_at hl 0 rfl) ?_
    exact zz_iret (x2, g3, g4, g33, g5) hx hb hr hlocks dX9_take_58 (Option.some.inj h) hP hK hD hS
  refine zz_cut (fun V => ∀ (n : Nat) (x29 : Int32) (x30 : Int32) (g31 : (Nat → Int32)) (H : Heap) (locs : List Loc) (ls : Array Slot), zz_it (fun z => fb_X9_take_10 g4 z.1 z.2.1 z.2.2) n (x29, x30, g31) = some (x32, g33) → va_P (dC, dI) vwCl [(a_t, .inr (8, [.ref a_t_read, .int t_readMany, .ref a_t_papers, .ref a_t_paperMany, .ref a_t_text, .int t_length, .int t_at, .int t_faultAt, .int t_year, .int x2, .ref a_t_whose, .int t_mendChanges, .ref a_t_plan, .int t_most, .int t_above, .int t_handing, .int t_wants, .ref a_t_wantNight, .ref a_t_wantHouse, .ref a_t_wantWeight, .ref a_t_ahead, .ref a_t_best, .ref a_t_fines, .ref a_t_times, .ref a_t_isKept, .ref a_t_keptPlan, .ref a_t_keptFines, .ref a_t_keptTimes])), (a_t_ahead, .inl (cI, 1824, .inl g3)), (a_t_best, .inl (cI, 56, .inl g4)), (a_t_paperMany, .inl (cI, 3, .inl t_paperMany)), (a_t_papers, .inl (cI, 180, .inl t_papers)), (a_t_plan, .inl (cI, 56, .inl g31)), (a_t_wantHouse, .inl (cI, 12, .inl t_wantHouse)), (a_t_wantNight, .inl (cI, 12, .inl t_wantNight)), (a_t_wantWeight, .inl (cI, 12, .inl t_wantWeight)), (a_t_whose, .inl (cI, 56, .inl g5))] H → va_D A [(a_t, .inr (8, [.ref a_t_read, .int t_readMany, .ref a_t_papers, .ref a_t_paperMany, .ref a_t_text, .int t_length, .int t_at, .int t_faultAt, .int t_year, .int x2, .ref a_t_whose, .int t_mendChanges, .ref a_t_plan, .int t_most, .int t_above, .int t_handing, .int t_wants, .ref a_t_wantNight, .ref a_t_wantHouse, .ref a_t_wantWeight, .ref a_t_ahead, .ref a_t_best, .ref a_t_fines, .ref a_t_times, .ref a_t_isKept, .ref a_t_keptPlan, .ref a_t_keptFines, .ref a_t_keptTimes])), (a_t_ahead, .inl (cI, 1824, .inl g3)), (a_t_best, .inl (cI, 56, .inl g4)), (a_t_paperMany, .inl (cI, 3, .inl t_paperMany)), (a_t_papers, .inl (cI, 180, .inl t_papers)), (a_t_plan, .inl (cI, 56, .inl g31)), (a_t_wantHouse, .inl (cI, 12, .inl t_wantHouse)), (a_t_wantNight, .inl (cI, 12, .inl t_wantNight)), (a_t_wantWeight, .inl (cI, 12, .inl t_wantWeight)), (a_t_whose, .inl (cI, 56, .inl g5))] → va_S A s.heap H locs → lv_has ls 3 [(0, .ref a_t), (1, .int x29), (2, .int x30)] → V H locs (F0 m 10 ls [])) ?_ (fun hL31 => ?_)
  · intro n
    induction n with
    | zero => intro x29 x30 g31 H locs ls hit31; exact (zz_it0 hit31).elim
    | succ n ih31 =>
      intro x29 x30 g31 H locs ls hit31 hP hD hS hl
      obtain ⟨y31, hb31, hy31⟩ := zz_itE hit31
      have hb31 : fb_X9_take_10 g4 x29 x30 g31 = some y31 := hb31
      unfold fb_X9_take_10 at hb31
      refine lv_iload_n hx hb dX9_take_10 rfl (lv_at hl 2 rfl) ?_
      refine lv_bipush (v := 56) hx hb dX9_take_11 (by decide) ?_
      refine lv_icmp_ge (tgt := 57) hx hb dX9_take_13 (by decide) (fun c34 => ?_) (fun c34 => ?_)
      · have hb31 := zz_if c34 hb31
        obtain rfl := Option.some.inj hb31
        have hy31 := Option.some.inj hy31
        cases hy31
        exact hE31 _ _ ls hP hD hS (lv_sub hl [1] rfl)
      · have hb31 := zz_ifn c34 hb31
        refine lv_iload_n hx hb dX9_take_16 rfl (lv_at hl 1 rfl) ?_
        refine lv_aload_n hx hb dX9_take_17 rfl (lv_at hl 0 rfl) ?_
        refine va_get (ci := 8) (v := .ref a_t_plan) (C := RX9) (T := TX9) (N := 28) hx hb hts in_X9_take_X9 hown hK hP 0 rfl rfl 12 (by decide) (hts _ lk_X9_take_0) (fun _ h9 => h9) rfl dX9_take_18 ?_
        refine lv_iload_n hx hb dX9_take_21 rfl (lv_at hl 2 rfl) ?_
        obtain ⟨hi35, hb31⟩ := zz_chkE hb31
        refine va_iald hx hb hK hP 5 0 rfl rfl hi35 dX9_take_22 ?_
        refine lv_aload_n hx hb dX9_take_23 rfl (lv_at hl 0 rfl) ?_
        refine va_get (ci := 8) (v := .ref a_t_best) (C := RX9) (T := TX9) (N := 28) hx hb hts in_X9_take_X9 hown hK hP 0 rfl rfl 21 (by decide) (hts _ lk_X9_take_1) (fun _ h9 => h9) rfl dX9_take_24 ?_
        refine lv_iload_n hx hb dX9_take_27 rfl (lv_at hl 2 rfl) ?_
        obtain ⟨hi36, hb31⟩ := zz_chkE hb31
        refine va_iald hx hb hK hP 2 0 rfl rfl hi36 dX9_take_28 ?_
        obtain ⟨x38, hj39, hb31⟩ := zz_b1E hb31
        refine zz_cut (fun V => ∀ (H : Heap) (locs : List Loc) (ls : Array Slot), va_P (dC, dI) vwCl [(a_t, .inr (8, [.ref a_t_read, .int t_readMany, .ref a_t_papers, .ref a_t_paperMany, .ref a_t_text, .int t_length, .int t_at, .int t_faultAt, .int t_year, .int x2, .ref a_t_whose, .int t_mendChanges, .ref a_t_plan, .int t_most, .int t_above, .int t_handing, .int t_wants, .ref a_t_wantNight, .ref a_t_wantHouse, .ref a_t_wantWeight, .ref a_t_ahead, .ref a_t_best, .ref a_t_fines, .ref a_t_times, .ref a_t_isKept, .ref a_t_keptPlan, .ref a_t_keptFines, .ref a_t_keptTimes])), (a_t_ahead, .inl (cI, 1824, .inl g3)), (a_t_best, .inl (cI, 56, .inl g4)), (a_t_paperMany, .inl (cI, 3, .inl t_paperMany)), (a_t_papers, .inl (cI, 180, .inl t_papers)), (a_t_plan, .inl (cI, 56, .inl g31)), (a_t_wantHouse, .inl (cI, 12, .inl t_wantHouse)), (a_t_wantNight, .inl (cI, 12, .inl t_wantNight)), (a_t_wantWeight, .inl (cI, 12, .inl t_wantWeight)), (a_t_whose, .inl (cI, 56, .inl g5))] H → va_D A [(a_t, .inr (8, [.ref a_t_read, .int t_readMany, .ref a_t_papers, .ref a_t_paperMany, .ref a_t_text, .int t_length, .int t_at, .int t_faultAt, .int t_year, .int x2, .ref a_t_whose, .int t_mendChanges, .ref a_t_plan, .int t_most, .int t_above, .int t_handing, .int t_wants, .ref a_t_wantNight, .ref a_t_wantHouse, .ref a_t_wantWeight, .ref a_t_ahead, .ref a_t_best, .ref a_t_fines, .ref a_t_times, .ref a_t_isKept, .ref a_t_keptPlan, .ref a_t_keptFines, .ref a_t_keptTimes])), (a_t_ahead, .inl (cI, 1824, .inl g3)), (a_t_best, .inl (cI, 56, .inl g4)), (a_t_paperMany, .inl (cI, 3, .inl t_paperMany)), (a_t_papers, .inl (cI, 180, .inl t_papers)), (a_t_plan, .inl (cI, 56, .inl g31)), (a_t_wantHouse, .inl (cI, 12, .inl t_wantHouse)), (a_t_wantNight, .inl (cI, 12, .inl t_wantNight)), (a_t_wantWeight, .inl (cI, 12, .inl t_wantWeight)), (a_t_whose, .inl (cI, 56, .inl g5))] → va_S A s.heap H locs → lv_has ls 3 [(0, .ref a_t), (2, .int x30)] → V H locs (F0 m 37 ls [.int x38, .int x29])) ?_ (fun hJ39 => ?_)
        · intro H locs ls hP hD hS hl
          refine lv_iadd hx hb dX9_take_37 ?_
          refine lv_topi (fun x40 ex40 => ?_)
          have hb31 := zz_nmE ex40 hb31
          refine lv_istore_n (lv' := [(1, .int x40), (0, .ref a_t), (2, .int x30)]) hx hb dX9_take_38 rfl hl (by decide) rfl (fun ls hl => ?_)
          refine lv_aload_n hx hb dX9_take_39 rfl (lv_at hl 1 rfl) ?_
          refine va_get (ci := 8) (v := .ref a_t_plan) (C := RX9) (T := TX9) (N := 28) hx hb hts in_X9_take_X9 hown hK hP 0 rfl rfl 12 (by decide) (hts _ lk_X9_take_0) (fun _ h9 => h9) rfl dX9_take_40 ?_
          refine lv_iload_n hx hb dX9_take_43 rfl (lv_at hl 2 rfl) ?_
          refine lv_aload_n hx hb dX9_take_44 rfl (lv_at hl 1 rfl) ?_
          refine va_get (ci := 8) (v := .ref a_t_best) (C := RX9) (T := TX9) (N := 28) hx hb hts in_X9_take_X9 hown hK hP 0 rfl rfl 21 (by decide) (hts _ lk_X9_take_1) (fun _ h9 => h9) rfl dX9_take_45 ?_
          refine lv_iload_n hx hb dX9_take_48 rfl (lv_at hl 2 rfl) ?_
          obtain ⟨hi41, hb31⟩ := zz_chkE hb31
          refine va_iald hx hb hK hP 2 0 rfl rfl hi41 dX9_take_49 ?_
          obtain ⟨hi42, hb31⟩ := zz_chkE hb31
          refine zz_iast hx hb hK hP hD hS 5 0 rfl rfl hi42 dX9_take_50 (fun g43 => [(a_t, .inr (8, [.ref a_t_read, .int t_readMany, .ref a_t_papers, .ref a_t_paperMany, .ref a_t_text, .int t_length, .int t_at, .int t_faultAt, .int t_year, .int x2, .ref a_t_whose, .int t_mendChanges, .ref a_t_plan, .int t_most, .int t_above, .int t_handing, .int t_wants, .ref a_t_wantNight, .ref a_t_wantHouse, .ref a_t_wantWeight, .ref a_t_ahead, .ref a_t_best, .ref a_t_fines, .ref a_t_times, .ref a_t_isKept, .ref a_t_keptPlan, .ref a_t_keptFines, .ref a_t_keptTimes])), (a_t_ahead, .inl (cI, 1824, .inl g3)), (a_t_best, .inl (cI, 56, .inl g4)), (a_t_paperMany, .inl (cI, 3, .inl t_paperMany)), (a_t_papers, .inl (cI, 180, .inl t_papers)), (a_t_plan, .inl (cI, 56, .inl g43)), (a_t_wantHouse, .inl (cI, 12, .inl t_wantHouse)), (a_t_wantNight, .inl (cI, 12, .inl t_wantNight)), (a_t_wantWeight, .inl (cI, 12, .inl t_wantWeight)), (a_t_whose, .inl (cI, 56, .inl g5))]) (fun _ => rfl) (fun g43 H locs eg43 hP hD hS => ?_)
          have hb31 := zz_nmE eg43 hb31
          obtain ⟨x44, ex44⟩ : ∃ z : Int32, z = x30 + 1 := ⟨_, rfl⟩
          have hb31 := zz_nmE ex44 hb31
          refine lv_iinc (v := x44) (lv' := [(2, .int x44), (1, .int x40), (0, .ref a_t)]) hx hb dX9_take_51 hl (k := 2) rfl (by rw [ex44]; rfl) (by decide) rfl (fun ls hl => ?_)
          refine lv_goto (tgt := 10) hx hb dX9_take_54 (by decide) ?_
          obtain rfl := Option.some.inj hb31
          exact ih31 x40 x44 g43 _ _ ls hy31 hP hD hS (lv_sub hl [2, 1, 0] rfl)
        refine lv_icmp_ne (tgt := 36) hx hb dX9_take_29 (by decide) (fun c37 => ?_) (fun c37 => ?_)
        · have hj39 := zz_ifn c37 hj39
          refine lv_iconst (v := 1) hx hb dX9_take_36 (by decide) ?_
          cases hj39
          exact hJ39 _ _ ls hP hD hS (lv_sub hl [0, 2] rfl)
        · have hj39 := zz_if c37 hj39
          refine lv_iconst (v := 0) hx hb dX9_take_32 (by decide) ?_
          refine lv_goto (tgt := 37) hx hb dX9_take_33 (by decide) ?_
          cases hj39
          exact hJ39 _ _ ls hP hD hS (lv_sub hl [0, 2] rfl)
  exact hL31 zz_fuel 0 0 t_plan _ _ ls hit31 hP hD hS (lv_sub hl [2, 1, 0] rfl)
theorem hd_X9_nearOf : yX9_nearOf.cls ≠ "java/lang/invoke/MethodHandle" ∧ yX9_nearOf.cls ≠ "java/lang/invoke/VarHandle" ∧ (parseMethodDescriptor yX9_nearOf.desc).map (fun d => d.parameters.length) = some 1 := by decide +kernel
set_option maxRecDepth 20000 in
theorem in_X9_nearOf_X9 : ∀ w ∈ u_ws RX9 TX9 28, w ∈ wsX9_nearOf := by decide +kernel
set_option maxRecDepth 20000 in
theorem lk_X9_nearOf_0 : Cond.fieldLink RX9 25 "TwoHousesOneChildModel" "plan" "[I" ∈ wsX9_nearOf := by decide +kernel
set_option maxHeartbeats 4000000 in
set_option maxRecDepth 100000 in
theorem ct_X9_nearOf (l : Launch) (dC : Nat → ClassId) (dI : Nat → Nat → Nat) (cI cJ cB cZ : ClassId) (a_t a_t_plan a_t_read a_t_papers a_t_paperMany a_t_text a_t_whose a_t_wantNight a_t_wantHouse a_t_wantWeight a_t_ahead a_t_best a_t_fines a_t_times a_t_isKept a_t_keptPlan a_t_keptFines a_t_keptTimes : Nat) (t_readMany : Int32) (t_length : Int32) (t_at : Int32) (t_faultAt : Int32) (t_year : Int32) (t_wordsNow : Int32) (t_mendChanges : Int32) (t_most : Int32) (t_above : Int32) (t_handing : Int32) (t_wants : Int32) (t_plan : (Nat → Int32)) (p1 : Int32) (rr : Int32) (u0 : Unit) (h : fn_X9_nearOf t_plan p1 = some (rr, u0)) : zz_M l yX9_nearOf wsX9_nearOf ({ frames := 0, cells := 0, slots := 0, locals := 0 }) (dC, dI) (zz_T cI cJ cB cZ) [.ref a_t, .int p1] [(a_t, .inr (8, [.ref a_t_read, .int t_readMany, .ref a_t_papers, .ref a_t_paperMany, .ref a_t_text, .int t_length, .int t_at, .int t_faultAt, .int t_year, .int t_wordsNow, .ref a_t_whose, .int t_mendChanges, .ref a_t_plan, .int t_most, .int t_above, .int t_handing, .int t_wants, .ref a_t_wantNight, .ref a_t_wantHouse, .ref a_t_wantWeight, .ref a_t_ahead, .ref a_t_best, .ref a_t_fines, .ref a_t_times, .ref a_t_isKept, .ref a_t_keptPlan, .ref a_t_keptFines, .ref a_t_keptTimes])), (a_t_plan, .inl (cI, 56, .inl t_plan))] (zz_QI (dC, dI) (zz_T cI cJ cB cZ) (rr, u0) (fun (u : Unit) => [(a_t, .inr (8, [.ref a_t_read, .int t_readMany, .ref a_t_papers, .ref a_t_paperMany, .ref a_t_text, .int t_length, .int t_at, .int t_faultAt, .int t_year, .int t_wordsNow, .ref a_t_whose, .int t_mendChanges, .ref a_t_plan, .int t_most, .int t_above, .int t_handing, .int t_wants, .ref a_t_wantNight, .ref a_t_wantHouse, .ref a_t_wantWeight, .ref a_t_ahead, .ref a_t_best, .ref a_t_fines, .ref a_t_times, .ref a_t_isKept, .ref a_t_keptPlan, .ref a_t_keptFines, .ref a_t_keptTimes])), (a_t_plan, .inl (cI, 56, .inl t_plan))])) := by
  unfold fn_X9_nearOf at h
  refine zz_of (by decide) rfl (Nat.le_of_ble_eq_true rfl) ?_
  intro p e s m below meth c A ls hx hb hr hml hts hown hlocks hA hS hP hK hD hl
  have hown : s.vm.findClass RX9 = some m.cls := hown
  have hl : lv_has ls 7 [(0, .ref a_t), (1, .int p1)] := hl
  refine lv_iconst (v := 0) hx hb dX9_nearOf_0 (by decide) ?_
  refine lv_istore_n (lv' := [(2, .int 0), (0, .ref a_t), (1, .int p1)]) hx hb dX9_nearOf_1 rfl hl (by decide) rfl (fun ls hl => ?_)
  refine lv_iconst (v := 0) hx hb dX9_nearOf_2 (by decide) ?_
  refine lv_istore_n (lv' := [(3, .int 0), (2, .int 0), (0, .ref a_t), (1, .int p1)]) hx hb dX9_nearOf_3 rfl hl (by decide) rfl (fun ls hl => ?_)
  obtain ⟨x80, hit79, h⟩ := zz_b1E h
  refine zz_cut (fun V => ∀ (H : Heap) (locs : List Loc) (ls : Array Slot), va_P (dC, dI) vwCl [(a_t, .inr (8, [.ref a_t_read, .int t_readMany, .ref a_t_papers, .ref a_t_paperMany, .ref a_t_text, .int t_length, .int t_at, .int t_faultAt, .int t_year, .int t_wordsNow, .ref a_t_whose, .int t_mendChanges, .ref a_t_plan, .int t_most, .int t_above, .int t_handing, .int t_wants, .ref a_t_wantNight, .ref a_t_wantHouse, .ref a_t_wantWeight, .ref a_t_ahead, .ref a_t_best, .ref a_t_fines, .ref a_t_times, .ref a_t_isKept, .ref a_t_keptPlan, .ref a_t_keptFines, .ref a_t_keptTimes])), (a_t_plan, .inl (cI, 56, .inl t_plan))] H → va_D A [(a_t, .inr (8, [.ref a_t_read, .int t_readMany, .ref a_t_papers, .ref a_t_paperMany, .ref a_t_text, .int t_length, .int t_at, .int t_faultAt, .int t_year, .int t_wordsNow, .ref a_t_whose, .int t_mendChanges, .ref a_t_plan, .int t_most, .int t_above, .int t_handing, .int t_wants, .ref a_t_wantNight, .ref a_t_wantHouse, .ref a_t_wantWeight, .ref a_t_ahead, .ref a_t_best, .ref a_t_fines, .ref a_t_times, .ref a_t_isKept, .ref a_t_keptPlan, .ref a_t_keptFines, .ref a_t_keptTimes])), (a_t_plan, .inl (cI, 56, .inl t_plan))] → va_S A s.heap H locs → lv_has ls 7 [(2, .int x80)] → V H locs (F0 m 95 ls [])) ?_ (fun hE79 => ?_)
  · intro H locs ls hP hD hS hl
    refine lv_iload_n hx hb dX9_nearOf_95 rfl (lv_at hl 0 rfl) ?_
    exact zz_iret () hx hb hr hlocks dX9_nearOf_96 (Option.some.inj h) hP hK hD hS
  refine zz_cut (fun V => ∀ (n : Nat) (x78 : Int32) (x79 : Int32) (H : Heap) (locs : List Loc) (ls : Array Slot), zz_it (fun z => fb_X9_nearOf_4 p1 t_plan z.1 z.2) n (x78, x79) = some x80 → va_P (dC, dI) vwCl [(a_t, .inr (8, [.ref a_t_read, .int t_readMany, .ref a_t_papers, .ref a_t_paperMany, .ref a_t_text, .int t_length, .int t_at, .int t_faultAt, .int t_year, .int t_wordsNow, .ref a_t_whose, .int t_mendChanges, .ref a_t_plan, .int t_most, .int t_above, .int t_handing, .int t_wants, .ref a_t_wantNight, .ref a_t_wantHouse, .ref a_t_wantWeight, .ref a_t_ahead, .ref a_t_best, .ref a_t_fines, .ref a_t_times, .ref a_t_isKept, .ref a_t_keptPlan, .ref a_t_keptFines, .ref a_t_keptTimes])), (a_t_plan, .inl (cI, 56, .inl t_plan))] H → va_D A [(a_t, .inr (8, [.ref a_t_read, .int t_readMany, .ref a_t_papers, .ref a_t_paperMany, .ref a_t_text, .int t_length, .int t_at, .int t_faultAt, .int t_year, .int t_wordsNow, .ref a_t_whose, .int t_mendChanges, .ref a_t_plan, .int t_most, .int t_above, .int t_handing, .int t_wants, .ref a_t_wantNight, .ref a_t_wantHouse, .ref a_t_wantWeight, .ref a_t_ahead, .ref a_t_best, .ref a_t_fines, .ref a_t_times, .ref a_t_isKept, .ref a_t_keptPlan, .ref a_t_keptFines, .ref a_t_keptTimes])), (a_t_plan, .inl (cI, 56, .inl t_plan))] → va_S A s.heap H locs → lv_has ls 7 [(0, .ref a_t), (1, .int p1), (2, .int x78), (3, .int x79)] → V H locs (F0 m 4 ls [])) ?_ (fun hL79 => ?_)
  · intro n
    induction n with
    | zero => intro x78 x79 H locs ls hit79; exact (zz_it0 hit79).elim
    | succ n ih79 =>
      intro x78 x79 H locs ls hit79 hP hD hS hl
      obtain ⟨y79, hb79, hy79⟩ := zz_itE hit79
      have hb79 : fb_X9_nearOf_4 p1 t_plan x78 x79 = some y79 := hb79
      unfold fb_X9_nearOf_4 at hb79
      refine lv_iload_n hx hb dX9_nearOf_4 rfl (lv_at hl 3 rfl) ?_
      refine lv_bipush (v := 7) hx hb dX9_nearOf_5 (by decide) ?_
      refine lv_iload_n hx hb dX9_nearOf_7 rfl (lv_at hl 1 rfl) ?_
      refine lv_imul hx hb dX9_nearOf_8 ?_
      refine lv_icmp_ge (tgt := 95) hx hb dX9_nearOf_9 (by decide) (fun c81 => ?_) (fun c81 => ?_)
      · have hb79 := zz_if c81 hb79
        obtain rfl := Option.some.inj hb79
        have hy79 := Option.some.inj hy79
        cases hy79
        exact hE79 _ _ ls hP hD hS (lv_sub hl [2] rfl)
      · have hb79 := zz_ifn c81 hb79
        refine lv_iconst (v := 0) hx hb dX9_nearOf_12 (by decide) ?_
        refine lv_istore (lv' := [(4, .int 0), (0, .ref a_t), (1, .int p1), (2, .int x78), (3, .int x79)]) hx hb dX9_nearOf_13 hl (by decide) rfl (fun ls hl => ?_)
        refine lv_iconst (v := 0) hx hb dX9_nearOf_15 (by decide) ?_
        refine lv_istore (lv' := [(5, .int 0), (4, .int 0), (0, .ref a_t), (1, .int p1), (2, .int x78), (3, .int x79)]) hx hb dX9_nearOf_16 hl (by decide) rfl (fun ls hl => ?_)
        refine lv_iload_n hx hb dX9_nearOf_18 rfl (lv_at hl 5 rfl) ?_
        refine lv_istore (lv' := [(6, .int x79), (5, .int 0), (4, .int 0), (0, .ref a_t), (1, .int p1), (2, .int x78), (3, .int x79)]) hx hb dX9_nearOf_19 hl (by decide) rfl (fun ls hl => ?_)
        obtain ⟨x103, x104, hit102, hb79⟩ := zz_b2E hb79
        refine zz_cut (fun V => ∀ (H : Heap) (locs : List Loc) (ls : Array Slot), va_P (dC, dI) vwCl [(a_t, .inr (8, [.ref a_t_read, .int t_readMany, .ref a_t_papers, .ref a_t_paperMany, .ref a_t_text, .int t_length, .int t_at, .int t_faultAt, .int t_year, .int t_wordsNow, .ref a_t_whose, .int t_mendChanges, .ref a_t_plan, .int t_most, .int t_above, .int t_handing, .int t_wants, .ref a_t_wantNight, .ref a_t_wantHouse, .ref a_t_wantWeight, .ref a_t_ahead, .ref a_t_best, .ref a_t_fines, .ref a_t_times, .ref a_t_isKept, .ref a_t_keptPlan, .ref a_t_keptFines, .ref a_t_keptTimes])), (a_t_plan, .inl (cI, 56, .inl t_plan))] H → va_D A [(a_t, .inr (8, [.ref a_t_read, .int t_readMany, .ref a_t_papers, .ref a_t_paperMany, .ref a_t_text, .int t_length, .int t_at, .int t_faultAt, .int t_year, .int t_wordsNow, .ref a_t_whose, .int t_mendChanges, .ref a_t_plan, .int t_most, .int t_above, .int t_handing, .int t_wants, .ref a_t_wantNight, .ref a_t_wantHouse, .ref a_t_wantWeight, .ref a_t_ahead, .ref a_t_best, .ref a_t_fines, .ref a_t_times, .ref a_t_isKept, .ref a_t_keptPlan, .ref a_t_keptFines, .ref a_t_keptTimes])), (a_t_plan, .inl (cI, 56, .inl t_plan))] → va_S A s.heap H locs → lv_has ls 7 [(0, .ref a_t), (1, .int p1), (2, .int x78), (3, .int x79), (4, .int x103), (5, .int x104)] → V H locs (F0 m 72 ls [])) ?_ (fun hE102 => ?_)
        · intro H locs ls hP hD hS hl
          refine lv_iload_n hx hb dX9_nearOf_72 rfl (lv_at hl 2 rfl) ?_
          refine lv_iload hx hb dX9_nearOf_73 (lv_at hl 4 rfl) ?_
          refine lv_iload hx hb dX9_nearOf_75 (lv_at hl 5 rfl) ?_
          refine lv_icmp_ge (tgt := 85) hx hb dX9_nearOf_77 (by decide) (fun c105 => ?_) (fun c105 => ?_)
          · have hb79 := zz_if c105 hb79
            refine lv_iload hx hb dX9_nearOf_85 (lv_at hl 5 rfl) ?_
            refine lv_iadd hx hb dX9_nearOf_87 ?_
            refine lv_topi (fun x106 ex106 => ?_)
            have hb79 := zz_nmE ex106 hb79
            refine lv_istore_n (lv' := [(2, .int x106), (0, .ref a_t), (1, .int p1), (3, .int x79), (4, .int x103), (5, .int x104)]) hx hb dX9_nearOf_88 rfl hl (by decide) rfl (fun ls hl => ?_)
            obtain ⟨x107, ex107⟩ : ∃ z : Int32, z = x79 + 1 := ⟨_, rfl⟩
            have hb79 := zz_nmE ex107 hb79
            refine lv_iinc (v := x107) (lv' := [(3, .int x107), (2, .int x106), (0, .ref a_t), (1, .int p1), (4, .int x103), (5, .int x104)]) hx hb dX9_nearOf_89 hl (k := 3) rfl (by rw [ex107]; rfl) (by decide) rfl (fun ls hl => ?_)
            refine lv_goto (tgt := 4) hx hb dX9_nearOf_92 (by decide) ?_
            obtain rfl := Option.some.inj hb79
            exact ih79 x106 x107 _ _ ls hy79 hP hD hS (lv_sub hl [2, 3, 1, 0] rfl)
          · have hb79 := zz_ifn c105 hb79
            refine lv_iload hx hb dX9_nearOf_80 (lv_at hl 4 rfl) ?_
            refine lv_goto (tgt := 87) hx hb dX9_nearOf_82 (by decide) ?_
            refine lv_iadd hx hb dX9_nearOf_87 ?_
            refine lv_topi (fun x108 ex108 => ?_)
            have hb79 := zz_nmE ex108 hb79
            refine lv_istore_n (lv' := [(2, .int x108), (0, .ref a_t), (1, .int p1), (3, .int x79), (4, .int x103), (5, .int x104)]) hx hb dX9_nearOf_88 rfl hl (by decide) rfl (fun ls hl => ?_)
            obtain ⟨x109, ex109⟩ : ∃ z : Int32, z = x79 + 1 := ⟨_, rfl⟩
            have hb79 := zz_nmE ex109 hb79
            refine lv_iinc (v := x109) (lv' := [(3, .int x109), (2, .int x108), (0, .ref a_t), (1, .int p1), (4, .int x103), (5, .int x104)]) hx hb dX9_nearOf_89 hl (k := 3) rfl (by rw [ex109]; rfl) (by decide) rfl (fun ls hl => ?_)
            refine lv_goto (tgt := 4) hx hb dX9_nearOf_92 (by decide) ?_
            obtain rfl := Option.some.inj hb79
            exact ih79 x108 x109 _ _ ls hy79 hP hD hS (lv_sub hl [2, 3, 1, 0] rfl)
        refine zz_cut (fun V => ∀ (n : Nat) (x100 : Int32) (x101 : Int32) (x102 : Int32) (H : Heap) (locs : List Loc) (ls : Array Slot), zz_it (fun z => fb_X9_nearOf_21 p1 t_plan z.1 z.2.1 z.2.2) n (x100, x101, x102) = some (x103, x104) → va_P (dC, dI) vwCl [(a_t, .inr (8, [.ref a_t_read, .int t_readMany, .ref a_t_papers, .ref a_t_paperMany, .ref a_t_text, .int t_length, .int t_at, .int t_faultAt, .int t_year, .int t_wordsNow, .ref a_t_whose, .int t_mendChanges, .ref a_t_plan, .int t_most, .int t_above, .int t_handing, .int t_wants, .ref a_t_wantNight, .ref a_t_wantHouse, .ref a_t_wantWeight, .ref a_t_ahead, .ref a_t_best, .ref a_t_fines, .ref a_t_times, .ref a_t_isKept, .ref a_t_keptPlan, .ref a_t_keptFines, .ref a_t_keptTimes])), (a_t_plan, .inl (cI, 56, .inl t_plan))] H → va_D A [(a_t, .inr (8, [.ref a_t_read, .int t_readMany, .ref a_t_papers, .ref a_t_paperMany, .ref a_t_text, .int t_length, .int t_at, .int t_faultAt, .int t_year, .int t_wordsNow, .ref a_t_whose, .int t_mendChanges, .ref a_t_plan, .int t_most, .int t_above, .int t_handing, .int t_wants, .ref a_t_wantNight, .ref a_t_wantHouse, .ref a_t_wantWeight, .ref a_t_ahead, .ref a_t_best, .ref a_t_fines, .ref a_t_times, .ref a_t_isKept, .ref a_t_keptPlan, .ref a_t_keptFines, .ref a_t_keptTimes])), (a_t_plan, .inl (cI, 56, .inl t_plan))] → va_S A s.heap H locs → lv_has ls 7 [(0, .ref a_t), (1, .int p1), (2, .int x78), (3, .int x79), (4, .int x100), (5, .int x101), (6, .int x102)] → V H locs (F0 m 21 ls [])) ?_ (fun hL102 => ?_)
        · intro n
          induction n with
          | zero => intro x100 x101 x102 H locs ls hit102; exact (zz_it0 hit102).elim
          | succ n ih102 =>
            intro x100 x101 x102 H locs ls hit102 hP hD hS hl
            obtain ⟨y102, hb102, hy102⟩ := zz_itE hit102
            have hb102 : fb_X9_nearOf_21 p1 t_plan x100 x101 x102 = some y102 := hb102
            unfold fb_X9_nearOf_21 at hb102
            refine lv_iload hx hb dX9_nearOf_21 (lv_at hl 6 rfl) ?_
            refine lv_bipush (v := 56) hx hb dX9_nearOf_23 (by decide) ?_
            refine lv_icmp_ge (tgt := 72) hx hb dX9_nearOf_25 (by decide) (fun c110 => ?_) (fun c110 => ?_)
            · have hb102 := zz_if c110 hb102
              obtain rfl := Option.some.inj hb102
              have hy102 := Option.some.inj hy102
              cases hy102
              exact hE102 _ _ ls hP hD hS (lv_sub hl [0, 1, 2, 3, 4, 5] rfl)
            · have hb102 := zz_ifn c110 hb102
              refine lv_iload hx hb dX9_nearOf_28 (lv_at hl 4 rfl) ?_
              refine lv_aload_n hx hb dX9_nearOf_30 rfl (lv_at hl 0 rfl) ?_
              refine va_get (ci := 8) (v := .ref a_t_plan) (C := RX9) (T := TX9) (N := 28) hx hb hts in_X9_nearOf_X9 hown hK hP 0 rfl rfl 12 (by decide) (hts _ lk_X9_nearOf_0) (fun _ h9 => h9) rfl dX9_nearOf_31 ?_
              refine lv_iload hx hb dX9_nearOf_34 (lv_at hl 6 rfl) ?_
              obtain ⟨hi111, hb102⟩ := zz_chkE hb102
              refine va_iald hx hb hK hP 1 0 rfl rfl hi111 dX9_nearOf_36 ?_
              obtain ⟨x113, hj114, hb102⟩ := zz_b1E hb102
              refine zz_cut (fun V => ∀ (H : Heap) (locs : List Loc) (ls : Array Slot), va_P (dC, dI) vwCl [(a_t, .inr (8, [.ref a_t_read, .int t_readMany, .ref a_t_papers, .ref a_t_paperMany, .ref a_t_text, .int t_length, .int t_at, .int t_faultAt, .int t_year, .int t_wordsNow, .ref a_t_whose, .int t_mendChanges, .ref a_t_plan, .int t_most, .int t_above, .int t_handing, .int t_wants, .ref a_t_wantNight, .ref a_t_wantHouse, .ref a_t_wantWeight, .ref a_t_ahead, .ref a_t_best, .ref a_t_fines, .ref a_t_times, .ref a_t_isKept, .ref a_t_keptPlan, .ref a_t_keptFines, .ref a_t_keptTimes])), (a_t_plan, .inl (cI, 56, .inl t_plan))] H → va_D A [(a_t, .inr (8, [.ref a_t_read, .int t_readMany, .ref a_t_papers, .ref a_t_paperMany, .ref a_t_text, .int t_length, .int t_at, .int t_faultAt, .int t_year, .int t_wordsNow, .ref a_t_whose, .int t_mendChanges, .ref a_t_plan, .int t_most, .int t_above, .int t_handing, .int t_wants, .ref a_t_wantNight, .ref a_t_wantHouse, .ref a_t_wantWeight, .ref a_t_ahead, .ref a_t_best, .ref a_t_fines, .ref a_t_times, .ref a_t_isKept, .ref a_t_keptPlan, .ref a_t_keptFines, .ref a_t_keptTimes])), (a_t_plan, .inl (cI, 56, .inl t_plan))] → va_S A s.heap H locs → lv_has ls 7 [(0, .ref a_t), (1, .int p1), (2, .int x78), (3, .int x79), (5, .int x101), (6, .int x102)] → V H locs (F0 m 45 ls [.int x113, .int x100])) ?_ (fun hJ114 => ?_)
              · intro H locs ls hP hD hS hl
                refine lv_iadd hx hb dX9_nearOf_45 ?_
                refine lv_topi (fun x115 ex115 => ?_)
                have hb102 := zz_nmE ex115 hb102
                refine lv_istore (lv' := [(4, .int x115), (0, .ref a_t), (1, .int p1), (2, .int x78), (3, .int x79), (5, .int x101), (6, .int x102)]) hx hb dX9_nearOf_46 hl (by decide) rfl (fun ls hl => ?_)
                refine lv_iload hx hb dX9_nearOf_48 (lv_at hl 5 rfl) ?_
                refine lv_aload_n hx hb dX9_nearOf_50 rfl (lv_at hl 1 rfl) ?_
                refine va_get (ci := 8) (v := .ref a_t_plan) (C := RX9) (T := TX9) (N := 28) hx hb hts in_X9_nearOf_X9 hown hK hP 0 rfl rfl 12 (by decide) (hts _ lk_X9_nearOf_0) (fun _ h9 => h9) rfl dX9_nearOf_51 ?_
                refine lv_iload hx hb dX9_nearOf_54 (lv_at hl 6 rfl) ?_
                obtain ⟨hi116, hb102⟩ := zz_chkE hb102
                refine va_iald hx hb hK hP 1 0 rfl rfl hi116 dX9_nearOf_56 ?_
                refine lv_iadd hx hb dX9_nearOf_57 ?_
                refine lv_topi (fun x117 ex117 => ?_)
                have hb102 := zz_nmE ex117 hb102
                refine lv_istore (lv' := [(5, .int x117), (4, .int x115), (0, .ref a_t), (1, .int p1), (2, .int x78), (3, .int x79), (6, .int x102)]) hx hb dX9_nearOf_58 hl (by decide) rfl (fun ls hl => ?_)
                refine lv_iload hx hb dX9_nearOf_60 (lv_at hl 6 rfl) ?_
                refine lv_bipush (v := 7) hx hb dX9_nearOf_62 (by decide) ?_
                refine lv_iload_n hx hb dX9_nearOf_64 rfl (lv_at hl 3 rfl) ?_
                refine lv_imul hx hb dX9_nearOf_65 ?_
                refine lv_iadd hx hb dX9_nearOf_66 ?_
                refine lv_topi (fun x118 ex118 => ?_)
                have hb102 := zz_nmE ex118 hb102
                refine lv_istore (lv' := [(6, .int x118), (5, .int x117), (4, .int x115), (0, .ref a_t), (1, .int p1), (2, .int x78), (3, .int x79)]) hx hb dX9_nearOf_67 hl (by decide) rfl (fun ls hl => ?_)
                refine lv_goto (tgt := 21) hx hb dX9_nearOf_69 (by decide) ?_
                obtain rfl := Option.some.inj hb102
                exact ih102 x115 x117 x118 _ _ ls hy102 hP hD hS (lv_sub hl [3, 4, 5, 6, 2, 1, 0] rfl)
              refine lv_if_ne (tgt := 44) hx hb dX9_nearOf_37 (by decide) (fun c112 => ?_) (fun c112 => ?_)
              · have hj114 := zz_ifn c112 hj114
                refine lv_iconst (v := 0) hx hb dX9_nearOf_44 (by decide) ?_
                cases hj114
                exact hJ114 _ _ ls hP hD hS (lv_sub hl [0, 1, 2, 3, 5, 6] rfl)
              · have hj114 := zz_if c112 hj114
                refine lv_iconst (v := 1) hx hb dX9_nearOf_40 (by decide) ?_
                refine lv_goto (tgt := 45) hx hb dX9_nearOf_41 (by decide) ?_
                cases hj114
                exact hJ114 _ _ ls hP hD hS (lv_sub hl [0, 1, 2, 3, 5, 6] rfl)
        exact hL102 zz_fuel 0 0 x79 _ _ ls hit102 hP hD hS (lv_sub hl [3, 4, 5, 6, 2, 1, 0] rfl)
  exact hL79 zz_fuel 0 0 _ _ ls hit79 hP hD hS (lv_sub hl [2, 3, 1, 0] rfl)
theorem hd_X9_near : yX9_near.cls ≠ "java/lang/invoke/MethodHandle" ∧ yX9_near.cls ≠ "java/lang/invoke/VarHandle" ∧ (parseMethodDescriptor yX9_near.desc).map (fun d => d.parameters.length) = some 1 := by decide +kernel
set_option maxRecDepth 20000 in
theorem lk_X9_near_0 : Cond.constantLong RX9 75 (8) ∈ wsX9_near := by decide +kernel
set_option maxHeartbeats 4000000 in
set_option maxRecDepth 100000 in
theorem ct_X9_near (l : Launch) (dC : Nat → ClassId) (dI : Nat → Nat → Nat) (cI cJ cB cZ : ClassId) (a_t a_t_plan a_t_read a_t_papers a_t_paperMany a_t_text a_t_whose a_t_wantNight a_t_wantHouse a_t_wantWeight a_t_ahead a_t_best a_t_fines a_t_times a_t_isKept a_t_keptPlan a_t_keptFines a_t_keptTimes : Nat) (t_readMany : Int32) (t_length : Int32) (t_at : Int32) (t_faultAt : Int32) (t_year : Int32) (t_wordsNow : Int32) (t_mendChanges : Int32) (t_most : Int32) (t_above : Int32) (t_handing : Int32) (t_wants : Int32) (t_plan : (Nat → Int32)) (p1 : Int32) (rr : Int32) (u0 : Unit) (h : fn_X9_near t_plan p1 = some (rr, u0)) : zz_M l yX9_near wsX9_near ({ frames := 1, cells := 0, slots := 0, locals := 26 }) (dC, dI) (zz_T cI cJ cB cZ) [.ref a_t, .int p1] [(a_t, .inr (8, [.ref a_t_read, .int t_readMany, .ref a_t_papers, .ref a_t_paperMany, .ref a_t_text, .int t_length, .int t_at, .int t_faultAt, .int t_year, .int t_wordsNow, .ref a_t_whose, .int t_mendChanges, .ref a_t_plan, .int t_most, .int t_above, .int t_handing, .int t_wants, .ref a_t_wantNight, .ref a_t_wantHouse, .ref a_t_wantWeight, .ref a_t_ahead, .ref a_t_best, .ref a_t_fines, .ref a_t_times, .ref a_t_isKept, .ref a_t_keptPlan, .ref a_t_keptFines, .ref a_t_keptTimes])), (a_t_plan, .inl (cI, 56, .inl t_plan))] (zz_QI (dC, dI) (zz_T cI cJ cB cZ) (rr, u0) (fun (u : Unit) => [(a_t, .inr (8, [.ref a_t_read, .int t_readMany, .ref a_t_papers, .ref a_t_paperMany, .ref a_t_text, .int t_length, .int t_at, .int t_faultAt, .int t_year, .int t_wordsNow, .ref a_t_whose, .int t_mendChanges, .ref a_t_plan, .int t_most, .int t_above, .int t_handing, .int t_wants, .ref a_t_wantNight, .ref a_t_wantHouse, .ref a_t_wantWeight, .ref a_t_ahead, .ref a_t_best, .ref a_t_fines, .ref a_t_times, .ref a_t_isKept, .ref a_t_keptPlan, .ref a_t_keptFines, .ref a_t_keptTimes])), (a_t_plan, .inl (cI, 56, .inl t_plan))])) := by
  unfold fn_X9_near at h
  refine zz_of (by decide) rfl (Nat.le_of_ble_eq_true rfl) ?_
  intro p e s m below meth c A ls hx hb hr hml hts hown hlocks hA hS hP hK hD hl
  have hown : s.vm.findClass RX9 = some m.cls := hown
  have hl : lv_has ls 2 [(0, .ref a_t), (1, .int p1)] := hl
  refine lv_iload_n hx hb dX9_near_0 rfl (lv_at hl 1 rfl) ?_
  refine lv_i2l (v := p1.toInt64) hx hb dX9_near_1 rfl ?_
  refine lv_lconst (v := 1) hx hb dX9_near_2 (by decide) ?_
  refine lv_ldc2 (v := 8) hx hb hown (hts _ lk_X9_near_0) dX9_near_3 ?_
  obtain ⟨x1, u2, he3, h⟩ := zz_b2E h
  refine zz_PI (As := [.long p1.toInt64, .long 1, .long 8]) (rest := []) ⟨hx, hb, hml, hown, hts⟩ (ct_X9_in l dC dI cI cJ cB cZ p1.toInt64 (1 : Int64) (8 : Int64) x1 u2 he3) gX9_near_X9_in hd_X9_in rfl rfl rfl ⟨Nat.le_of_ble_eq_true rfl, Nat.le_of_ble_eq_true rfl⟩ ⟨Nat.le_of_ble_eq_true rfl, Nat.le_of_ble_eq_true rfl⟩ rfl rfl (Nat.le_of_ble_eq_true rfl) dX9_near_6 hl.1 hP hK hS hA (fun H locs hP hS => ?_)
  refine lv_if_eq (tgt := 20) hx hb dX9_near_9 (by decide) (fun c4 => ?_) (fun c4 => ?_)
  · have h := zz_if c4 h
    refine lv_bipush (v := (-2)) hx hb dX9_near_20 (by decide) ?_
    exact zz_iret () hx hb hr hlocks dX9_near_22 (Option.some.inj h) hP hK hD hS
  · have h := zz_ifn c4 h
    refine lv_aload_n hx hb dX9_near_12 rfl (lv_at hl 0 rfl) ?_
    refine lv_iload_n hx hb dX9_near_13 rfl (lv_at hl 1 rfl) ?_
    obtain ⟨x5, u6, he7, h⟩ := zz_b2E h
    refine zz_VI (q := (RX9, TX9, 28)) (As := [.int p1]) (rest := []) (wr := []) (wm := [(a_t, .inr (8, [.ref a_t_read, .int t_readMany, .ref a_t_papers, .ref a_t_paperMany, .ref a_t_text, .int t_length, .int t_at, .int t_faultAt, .int t_year, .int t_wordsNow, .ref a_t_whose, .int t_mendChanges, .ref a_t_plan, .int t_most, .int t_above, .int t_handing, .int t_wants, .ref a_t_wantNight, .ref a_t_wantHouse, .ref a_t_wantWeight, .ref a_t_ahead, .ref a_t_best, .ref a_t_fines, .ref a_t_times, .ref a_t_isKept, .ref a_t_keptPlan, .ref a_t_keptFines, .ref a_t_keptTimes])), (a_t_plan, .inl (cI, 56, .inl t_plan))]) ⟨hx, hb, hml, hown, hts⟩ (ct_X9_nearOf l dC dI cI cJ cB cZ a_t a_t_plan a_t_read a_t_papers a_t_paperMany a_t_text a_t_whose a_t_wantNight a_t_wantHouse a_t_wantWeight a_t_ahead a_t_best a_t_fines a_t_times a_t_isKept a_t_keptPlan a_t_keptFines a_t_keptTimes t_readMany t_length t_at t_faultAt t_year t_wordsNow t_mendChanges t_most t_above t_handing t_wants t_plan p1 x5 u6 he7) gX9_near_X9_nearOf hd_X9_nearOf rfl rfl rfl ⟨Nat.le_of_ble_eq_true rfl, Nat.le_of_ble_eq_true rfl⟩ ⟨Nat.le_of_ble_eq_true rfl, Nat.le_of_ble_eq_true rfl⟩ rfl rfl (Nat.le_of_ble_eq_true rfl) dX9_near_14 hl.1 rfl (ci := 8) rfl (q0 := 0) rfl hP hK hD hS hA [0, 1] [] [0, 1] rfl rfl (by decide) (by decide) (by decide) (by decide) rfl (fun H locs hP hD hS => ?_)
    refine lv_goto (tgt := 22) hx hb dX9_near_17 (by decide) ?_
    exact zz_iret () hx hb hr hlocks dX9_near_22 (Option.some.inj h) hP hK hD hS
theorem hd_X9_brief : yX9_brief.cls ≠ "java/lang/invoke/MethodHandle" ∧ yX9_brief.cls ≠ "java/lang/invoke/VarHandle" ∧ (parseMethodDescriptor yX9_brief.desc).map (fun d => d.parameters.length) = some 1 := by decide +kernel
set_option maxRecDepth 20000 in
theorem lk_X9_brief_0 : Cond.constantLong RX9 178 (56) ∈ wsX9_brief := by decide +kernel
set_option maxHeartbeats 4000000 in
set_option maxRecDepth 100000 in
theorem ct_X9_brief (l : Launch) (dC : Nat → ClassId) (dI : Nat → Nat → Nat) (cI cJ cB cZ : ClassId) (a_t a_t_plan a_t_read a_t_papers a_t_paperMany a_t_text a_t_whose a_t_wantNight a_t_wantHouse a_t_wantWeight a_t_ahead a_t_best a_t_fines a_t_times a_t_isKept a_t_keptPlan a_t_keptFines a_t_keptTimes : Nat) (t_readMany : Int32) (t_length : Int32) (t_at : Int32) (t_faultAt : Int32) (t_year : Int32) (t_wordsNow : Int32) (t_mendChanges : Int32) (t_most : Int32) (t_above : Int32) (t_handing : Int32) (t_wants : Int32) (t_plan : (Nat → Int32)) (p1 : Int32) (rr : Int32) (u0 : Unit) (h : fn_X9_brief t_plan p1 = some (rr, u0)) : zz_M l yX9_brief wsX9_brief ({ frames := 1, cells := 0, slots := 0, locals := 26 }) (dC, dI) (zz_T cI cJ cB cZ) [.ref a_t, .int p1] [(a_t, .inr (8, [.ref a_t_read, .int t_readMany, .ref a_t_papers, .ref a_t_paperMany, .ref a_t_text, .int t_length, .int t_at, .int t_faultAt, .int t_year, .int t_wordsNow, .ref a_t_whose, .int t_mendChanges, .ref a_t_plan, .int t_most, .int t_above, .int t_handing, .int t_wants, .ref a_t_wantNight, .ref a_t_wantHouse, .ref a_t_wantWeight, .ref a_t_ahead, .ref a_t_best, .ref a_t_fines, .ref a_t_times, .ref a_t_isKept, .ref a_t_keptPlan, .ref a_t_keptFines, .ref a_t_keptTimes])), (a_t_plan, .inl (cI, 56, .inl t_plan))] (zz_QI (dC, dI) (zz_T cI cJ cB cZ) (rr, u0) (fun (u : Unit) => [(a_t, .inr (8, [.ref a_t_read, .int t_readMany, .ref a_t_papers, .ref a_t_paperMany, .ref a_t_text, .int t_length, .int t_at, .int t_faultAt, .int t_year, .int t_wordsNow, .ref a_t_whose, .int t_mendChanges, .ref a_t_plan, .int t_most, .int t_above, .int t_handing, .int t_wants, .ref a_t_wantNight, .ref a_t_wantHouse, .ref a_t_wantWeight, .ref a_t_ahead, .ref a_t_best, .ref a_t_fines, .ref a_t_times, .ref a_t_isKept, .ref a_t_keptPlan, .ref a_t_keptFines, .ref a_t_keptTimes])), (a_t_plan, .inl (cI, 56, .inl t_plan))])) := by
  unfold fn_X9_brief at h
  refine zz_of (by decide) rfl (Nat.le_of_ble_eq_true rfl) ?_
  intro p e s m below meth c A ls hx hb hr hml hts hown hlocks hA hS hP hK hD hl
  have hown : s.vm.findClass RX9 = some m.cls := hown
  have hl : lv_has ls 3 [(0, .ref a_t), (1, .int p1)] := hl
  refine lv_iload_n hx hb dX9_brief_0 rfl (lv_at hl 1 rfl) ?_
  refine lv_i2l (v := p1.toInt64) hx hb dX9_brief_1 rfl ?_
  refine lv_lconst (v := 0) hx hb dX9_brief_2 (by decide) ?_
  refine lv_ldc2 (v := 56) hx hb hown (hts _ lk_X9_brief_0) dX9_brief_3 ?_
  obtain ⟨x1, u2, he3, h⟩ := zz_b2E h
  refine zz_PI (As := [.long p1.toInt64, .long 0, .long 56]) (rest := []) ⟨hx, hb, hml, hown, hts⟩ (ct_X9_in l dC dI cI cJ cB cZ p1.toInt64 (0 : Int64) (56 : Int64) x1 u2 he3) gX9_brief_X9_in hd_X9_in rfl rfl rfl ⟨Nat.le_of_ble_eq_true rfl, Nat.le_of_ble_eq_true rfl⟩ ⟨Nat.le_of_ble_eq_true rfl, Nat.le_of_ble_eq_true rfl⟩ rfl rfl (Nat.le_of_ble_eq_true rfl) dX9_brief_6 hl.1 hP hK hS hA (fun H locs hP hS => ?_)
  refine lv_if_ne (tgt := 15) hx hb dX9_brief_9 (by decide) (fun c4 => ?_) (fun c4 => ?_)
  · have h := zz_ifn c4 h
    refine lv_iconst (v := 1) hx hb dX9_brief_15 (by decide) ?_
    refine lv_istore_n (lv' := [(2, .int 1), (0, .ref a_t), (1, .int p1)]) hx hb dX9_brief_16 rfl hl (by decide) rfl (fun ls hl => ?_)
    obtain ⟨x16, hit15, h⟩ := zz_b1E h
    refine zz_cut (fun V => ∀ (H : Heap) (locs : List Loc) (ls : Array Slot), va_P (dC, dI) vwCl [(a_t, .inr (8, [.ref a_t_read, .int t_readMany, .ref a_t_papers, .ref a_t_paperMany, .ref a_t_text, .int t_length, .int t_at, .int t_faultAt, .int t_year, .int t_wordsNow, .ref a_t_whose, .int t_mendChanges, .ref a_t_plan, .int t_most, .int t_above, .int t_handing, .int t_wants, .ref a_t_wantNight, .ref a_t_wantHouse, .ref a_t_wantWeight, .ref a_t_ahead, .ref a_t_best, .ref a_t_fines, .ref a_t_times, .ref a_t_isKept, .ref a_t_keptPlan, .ref a_t_keptFines, .ref a_t_keptTimes])), (a_t_plan, .inl (cI, 56, .inl t_plan))] H → va_D A [(a_t, .inr (8, [.ref a_t_read, .int t_readMany, .ref a_t_papers, .ref a_t_paperMany, .ref a_t_text, .int t_length, .int t_at, .int t_faultAt, .int t_year, .int t_wordsNow, .ref a_t_whose, .int t_mendChanges, .ref a_t_plan, .int t_most, .int t_above, .int t_handing, .int t_wants, .ref a_t_wantNight, .ref a_t_wantHouse, .ref a_t_wantWeight, .ref a_t_ahead, .ref a_t_best, .ref a_t_fines, .ref a_t_times, .ref a_t_isKept, .ref a_t_keptPlan, .ref a_t_keptFines, .ref a_t_keptTimes])), (a_t_plan, .inl (cI, 56, .inl t_plan))] → va_S A s.heap H locs → lv_has ls 3 [(2, .int x16)] → V H locs (F0 m 32 ls [])) ?_ (fun hE15 => ?_)
    · intro H locs ls hP hD hS hl
      refine lv_iload_n hx hb dX9_brief_32 rfl (lv_at hl 0 rfl) ?_
      exact zz_iret () hx hb hr hlocks dX9_brief_33 (Option.some.inj h) hP hK hD hS
    refine zz_cut (fun V => ∀ (n : Nat) (x15 : Int32) (H : Heap) (locs : List Loc) (ls : Array Slot), zz_it (fun z => fb_X9_brief_17 p1 t_plan z) n x15 = some x16 → va_P (dC, dI) vwCl [(a_t, .inr (8, [.ref a_t_read, .int t_readMany, .ref a_t_papers, .ref a_t_paperMany, .ref a_t_text, .int t_length, .int t_at, .int t_faultAt, .int t_year, .int t_wordsNow, .ref a_t_whose, .int t_mendChanges, .ref a_t_plan, .int t_most, .int t_above, .int t_handing, .int t_wants, .ref a_t_wantNight, .ref a_t_wantHouse, .ref a_t_wantWeight, .ref a_t_ahead, .ref a_t_best, .ref a_t_fines, .ref a_t_times, .ref a_t_isKept, .ref a_t_keptPlan, .ref a_t_keptFines, .ref a_t_keptTimes])), (a_t_plan, .inl (cI, 56, .inl t_plan))] H → va_D A [(a_t, .inr (8, [.ref a_t_read, .int t_readMany, .ref a_t_papers, .ref a_t_paperMany, .ref a_t_text, .int t_length, .int t_at, .int t_faultAt, .int t_year, .int t_wordsNow, .ref a_t_whose, .int t_mendChanges, .ref a_t_plan, .int t_most, .int t_above, .int t_handing, .int t_wants, .ref a_t_wantNight, .ref a_t_wantHouse, .ref a_t_wantWeight, .ref a_t_ahead, .ref a_t_best, .ref a_t_fines, .ref a_t_times, .ref a_t_isKept, .ref a_t_keptPlan, .ref a_t_keptFines, .ref a_t_keptTimes])), (a_t_plan, .inl (cI, 56, .inl t_plan))] → va_S A s.heap H locs → lv_has ls 3 [(0, .ref a_t), (1, .int p1), (2, .int x15)] → V H locs (F0 m 17 ls [])) ?_ (fun hL15 => ?_)
    · intro n
      induction n with
      | zero => intro x15 H locs ls hit15; exact (zz_it0 hit15).elim
      | succ n ih15 =>
        intro x15 H locs ls hit15 hP hD hS hl
        obtain ⟨y15, hb15, hy15⟩ := zz_itE hit15
        have hb15 : fb_X9_brief_17 p1 t_plan x15 = some y15 := hb15
        unfold fb_X9_brief_17 at hb15
        refine lv_aload_n hx hb dX9_brief_17 rfl (lv_at hl 0 rfl) ?_
        refine lv_iload_n hx hb dX9_brief_18 rfl (lv_at hl 2 rfl) ?_
        obtain ⟨x17, u18, he19, hb15⟩ := zz_b2E hb15
        refine zz_VI (q := (RX9, TX9, 28)) (As := [.int x15]) (rest := []) (wr := []) (wm := [(a_t, .inr (8, [.ref a_t_read, .int t_readMany, .ref a_t_papers, .ref a_t_paperMany, .ref a_t_text, .int t_length, .int t_at, .int t_faultAt, .int t_year, .int t_wordsNow, .ref a_t_whose, .int t_mendChanges, .ref a_t_plan, .int t_most, .int t_above, .int t_handing, .int t_wants, .ref a_t_wantNight, .ref a_t_wantHouse, .ref a_t_wantWeight, .ref a_t_ahead, .ref a_t_best, .ref a_t_fines, .ref a_t_times, .ref a_t_isKept, .ref a_t_keptPlan, .ref a_t_keptFines, .ref a_t_keptTimes])), (a_t_plan, .inl (cI, 56, .inl t_plan))]) ⟨hx, hb, hml, hown, hts⟩ (ct_X9_nearOf l dC dI cI cJ cB cZ a_t a_t_plan a_t_read a_t_papers a_t_paperMany a_t_text a_t_whose a_t_wantNight a_t_wantHouse a_t_wantWeight a_t_ahead a_t_best a_t_fines a_t_times a_t_isKept a_t_keptPlan a_t_keptFines a_t_keptTimes t_readMany t_length t_at t_faultAt t_year t_wordsNow t_mendChanges t_most t_above t_handing t_wants t_plan x15 x17 u18 he19) gX9_brief_X9_nearOf hd_X9_nearOf rfl rfl rfl ⟨Nat.le_of_ble_eq_true rfl, Nat.le_of_ble_eq_true rfl⟩ ⟨Nat.le_of_ble_eq_true rfl, Nat.le_of_ble_eq_true rfl⟩ rfl rfl (Nat.le_of_ble_eq_true rfl) dX9_brief_19 hl.1 rfl (ci := 8) rfl (q0 := 0) rfl hP hK hD hS hA [0, 1] [] [0, 1] rfl rfl (by decide) (by decide) (by decide) (by decide) rfl (fun H locs hP hD hS => ?_)
        refine lv_iload_n hx hb dX9_brief_22 rfl (lv_at hl 1 rfl) ?_
        refine lv_icmp_le (tgt := 32) hx hb dX9_brief_23 (by decide) (fun c20 => ?_) (fun c20 => ?_)
        · have hb15 := zz_if c20 hb15
          obtain rfl := Option.some.inj hb15
          have hy15 := Option.some.inj hy15
          cases hy15
          exact hE15 _ _ ls hP hD hS (lv_sub hl [2] rfl)
        · have hb15 := zz_ifn c20 hb15
          obtain ⟨x21, ex21⟩ : ∃ z : Int32, z = x15 + 1 := ⟨_, rfl⟩
          have hb15 := zz_nmE ex21 hb15
          refine lv_iinc (v := x21) (lv' := [(2, .int x21), (0, .ref a_t), (1, .int p1)]) hx hb dX9_brief_26 hl (k := 2) rfl (by rw [ex21]; rfl) (by decide) rfl (fun ls hl => ?_)
          refine lv_goto (tgt := 17) hx hb dX9_brief_29 (by decide) ?_
          obtain rfl := Option.some.inj hb15
          exact ih15 x21 _ _ ls hy15 hP hD hS (lv_sub hl [1, 2, 0] rfl)
    exact hL15 zz_fuel 1 _ _ ls hit15 hP hD hS (lv_sub hl [1, 2, 0] rfl)
  · have h := zz_if c4 h
    refine lv_bipush (v := (-2)) hx hb dX9_brief_12 (by decide) ?_
    exact zz_iret () hx hb hr hlocks dX9_brief_14 (Option.some.inj h) hP hK hD hS
theorem hd_X9_swap : yX9_swap.cls ≠ "java/lang/invoke/MethodHandle" ∧ yX9_swap.cls ≠ "java/lang/invoke/VarHandle" ∧ (parseMethodDescriptor yX9_swap.desc).map (fun d => d.parameters.length) = some 2 := by decide +kernel
set_option maxRecDepth 20000 in
theorem in_X9_swap_X9 : ∀ w ∈ u_ws RX9 TX9 28, w ∈ wsX9_swap := by decide +kernel
set_option maxRecDepth 20000 in
theorem lk_X9_swap_0 : Cond.fieldLink RX9 25 "TwoHousesOneChildModel" "plan" "[I" ∈ wsX9_swap := by decide +kernel
set_option maxHeartbeats 4000000 in
set_option maxRecDepth 100000 in
theorem ct_X9_swap (l : Launch) (dC : Nat → ClassId) (dI : Nat → Nat → Nat) (cI cJ cB cZ : ClassId) (a_t a_t_plan a_t_wantHouse a_t_wantNight a_t_wantWeight a_t_read a_t_papers a_t_paperMany a_t_text a_t_whose a_t_ahead a_t_best a_t_fines a_t_times a_t_isKept a_t_keptPlan a_t_keptFines a_t_keptTimes : Nat) (t_readMany : Int32) (t_length : Int32) (t_at : Int32) (t_faultAt : Int32) (t_year : Int32) (t_wordsNow : Int32) (t_mendChanges : Int32) (t_most : Int32) (t_above : Int32) (t_handing : Int32) (t_wants : Int32) (t_plan : (Nat → Int32)) (t_wantHouse : (Nat → Int32)) (t_wantNight : (Nat → Int32)) (t_wantWeight : (Nat → Int32)) (p1 : Int32) (p2 : Int32) (rr : Int32) (o1 : (Nat → Int32)) (h : fn_X9_swap t_most t_above t_handing t_wants t_plan t_wantHouse t_wantNight t_wantWeight p1 p2 = some (rr, o1)) : zz_M l yX9_swap wsX9_swap ({ frames := 2, cells := 0, slots := 0, locals := 48 }) (dC, dI) (zz_T cI cJ cB cZ) [.ref a_t, .int p1, .int p2] [(a_t, .inr (8, [.ref a_t_read, .int t_readMany, .ref a_t_papers, .ref a_t_paperMany, .ref a_t_text, .int t_length, .int t_at, .int t_faultAt, .int t_year, .int t_wordsNow, .ref a_t_whose, .int t_mendChanges, .ref a_t_plan, .int t_most, .int t_above, .int t_handing, .int t_wants, .ref a_t_wantNight, .ref a_t_wantHouse, .ref a_t_wantWeight, .ref a_t_ahead, .ref a_t_best, .ref a_t_fines, .ref a_t_times, .ref a_t_isKept, .ref a_t_keptPlan, .ref a_t_keptFines, .ref a_t_keptTimes])), (a_t_plan, .inl (cI, 56, .inl t_plan)), (a_t_wantHouse, .inl (cI, 12, .inl t_wantHouse)), (a_t_wantNight, .inl (cI, 12, .inl t_wantNight)), (a_t_wantWeight, .inl (cI, 12, .inl t_wantWeight))] (zz_QI (dC, dI) (zz_T cI cJ cB cZ) (rr, o1) (fun (u : (Nat → Int32)) => [(a_t, .inr (8, [.ref a_t_read, .int t_readMany, .ref a_t_papers, .ref a_t_paperMany, .ref a_t_text, .int t_length, .int t_at, .int t_faultAt, .int t_year, .int t_wordsNow, .ref a_t_whose, .int t_mendChanges, .ref a_t_plan, .int t_most, .int t_above, .int t_handing, .int t_wants, .ref a_t_wantNight, .ref a_t_wantHouse, .ref a_t_wantWeight, .ref a_t_ahead, .ref a_t_best, .ref a_t_fines, .ref a_t_times, .ref a_t_isKept, .ref a_t_keptPlan, .ref a_t_keptFines, .ref a_t_keptTimes])), (a_t_plan, .inl (cI, 56, .inl u)), (a_t_wantHouse, .inl (cI, 12, .inl t_wantHouse)), (a_t_wantNight, .inl (cI, 12, .inl t_wantNight)), (a_t_wantWeight, .inl (cI, 12, .inl t_wantWeight))])) := by
  unfold fn_X9_swap at h
  refine zz_of (by decide) rfl (Nat.le_of_ble_eq_true rfl) ?_
  intro p e s m below meth c A ls hx hb hr hml hts hown hlocks hA hS hP hK hD hl
  have hown : s.vm.findClass RX9 = some m.cls := hown
  have hl : lv_has ls 4 [(0, .ref a_t), (1, .int p1), (2, .int p2)] := hl
  refine lv_iload_n hx hb dX9_swap_0 rfl (lv_at hl 1 rfl) ?_
  obtain ⟨x1, u2, he3, h⟩ := zz_b2E h
  refine zz_PI (As := [.int p1]) (rest := []) ⟨hx, hb, hml, hown, hts⟩ (ct_X9_isNight l dC dI cI cJ cB cZ p1 x1 u2 he3) gX9_swap_X9_isNight hd_X9_isNight rfl rfl rfl ⟨Nat.le_of_ble_eq_true rfl, Nat.le_of_ble_eq_true rfl⟩ ⟨Nat.le_of_ble_eq_true rfl, Nat.le_of_ble_eq_true rfl⟩ rfl rfl (Nat.le_of_ble_eq_true rfl) dX9_swap_1 hl.1 hP hK hS hA (fun H locs hP hS => ?_)
  refine lv_if_eq (tgt := 14) hx hb dX9_swap_4 (by decide) (fun c4 => ?_) (fun c4 => ?_)
  · have h := zz_if c4 h
    refine lv_iconst (v := (-1)) hx hb dX9_swap_14 (by decide) ?_
    exact zz_iret t_plan hx hb hr hlocks dX9_swap_15 (Option.some.inj h) hP hK hD hS
  · have h := zz_ifn c4 h
    refine lv_iload_n hx hb dX9_swap_7 rfl (lv_at hl 2 rfl) ?_
    obtain ⟨x5, u6, he7, h⟩ := zz_b2E h
    refine zz_PI (As := [.int p2]) (rest := []) ⟨hx, hb, hml, hown, hts⟩ (ct_X9_isNight l dC dI cI cJ cB cZ p2 x5 u6 he7) gX9_swap_X9_isNight hd_X9_isNight rfl rfl rfl ⟨Nat.le_of_ble_eq_true rfl, Nat.le_of_ble_eq_true rfl⟩ ⟨Nat.le_of_ble_eq_true rfl, Nat.le_of_ble_eq_true rfl⟩ rfl rfl (Nat.le_of_ble_eq_true rfl) dX9_swap_8 hl.1 hP hK hS hA (fun H locs hP hS => ?_)
    refine lv_if_ne (tgt := 16) hx hb dX9_swap_11 (by decide) (fun c8 => ?_) (fun c8 => ?_)
    · have h := zz_ifn c8 h
      refine lv_aload_n hx hb dX9_swap_16 rfl (lv_at hl 0 rfl) ?_
      refine va_get (ci := 8) (v := .ref a_t_plan) (C := RX9) (T := TX9) (N := 28) hx hb hts in_X9_swap_X9 hown hK hP 0 rfl rfl 12 (by decide) (hts _ lk_X9_swap_0) (fun _ h9 => h9) rfl dX9_swap_17 ?_
      refine lv_iload_n hx hb dX9_swap_20 rfl (lv_at hl 1 rfl) ?_
      obtain ⟨hi9, h⟩ := zz_chkE h
      refine va_iald hx hb hK hP 1 0 rfl rfl hi9 dX9_swap_21 ?_
      refine lv_aload_n hx hb dX9_swap_22 rfl (lv_at hl 0 rfl) ?_
      refine va_get (ci := 8) (v := .ref a_t_plan) (C := RX9) (T := TX9) (N := 28) hx hb hts in_X9_swap_X9 hown hK hP 0 rfl rfl 12 (by decide) (hts _ lk_X9_swap_0) (fun _ h9 => h9) rfl dX9_swap_23 ?_
      refine lv_iload_n hx hb dX9_swap_26 rfl (lv_at hl 2 rfl) ?_
      obtain ⟨hi10, h⟩ := zz_chkE h
      refine va_iald hx hb hK hP 1 0 rfl rfl hi10 dX9_swap_27 ?_
      refine lv_icmp_ne (tgt := 34) hx hb dX9_swap_28 (by decide) (fun c11 => ?_) (fun c11 => ?_)
      · have h := zz_ifn c11 h
        refine lv_aload_n hx hb dX9_swap_34 rfl (lv_at hl 0 rfl) ?_
        obtain ⟨x12, u13, he14, h⟩ := zz_b2E h
        refine zz_VI (q := (RX9, TX9, 28)) (As := []) (rest := []) (wr := []) (wm := [(a_t, .inr (8, [.ref a_t_read, .int t_readMany, .ref a_t_papers, .ref a_t_paperMany, .ref a_t_text, .int t_length, .int t_at, .int t_faultAt, .int t_year, .int t_wordsNow, .ref a_t_whose, .int t_mendChanges, .ref a_t_plan, .int t_most, .int t_above, .int t_handing, .int t_wants, .ref a_t_wantNight, .ref a_t_wantHouse, .ref a_t_wantWeight, .ref a_t_ahead, .ref a_t_best, .ref a_t_fines, .ref a_t_times, .ref a_t_isKept, .ref a_t_keptPlan, .ref a_t_keptFines, .ref a_t_keptTimes])), (a_t_plan, .inl (cI, 56, .inl t_plan)), (a_t_wantHouse, .inl (cI, 12, .inl t_wantHouse)), (a_t_wantNight, .inl (cI, 12, .inl t_wantNight)), (a_t_wantWeight, .inl (cI, 12, .inl t_wantWeight))]) ⟨hx, hb, hml, hown, hts⟩ (ct_X9_costOf l dC dI cI cJ cB cZ a_t a_t_plan a_t_wantHouse a_t_wantNight a_t_wantWeight a_t_read a_t_papers a_t_paperMany a_t_text a_t_whose a_t_ahead a_t_best a_t_fines a_t_times a_t_isKept a_t_keptPlan a_t_keptFines a_t_keptTimes t_readMany t_length t_at t_faultAt t_year t_wordsNow t_mendChanges t_most t_above t_handing t_wants t_plan t_wantHouse t_wantNight t_wantWeight x12 u13 he14) gX9_swap_X9_costOf hd_X9_costOf rfl rfl rfl ⟨Nat.le_of_ble_eq_true rfl, Nat.le_of_ble_eq_true rfl⟩ ⟨Nat.le_of_ble_eq_true rfl, Nat.le_of_ble_eq_true rfl⟩ rfl rfl (Nat.le_of_ble_eq_true rfl) dX9_swap_35 hl.1 rfl (ci := 8) rfl (q0 := 0) rfl hP hK hD hS hA [0, 1, 2, 3, 4] [] [0, 1, 2, 3, 4] rfl rfl (by decide) (by decide) (by decide) (by decide) rfl (fun H locs hP hD hS => ?_)
        refine lv_istore_n (lv' := [(3, .int x12), (0, .ref a_t), (1, .int p1), (2, .int p2)]) hx hb dX9_swap_38 rfl hl (by decide) rfl (fun ls hl => ?_)
        refine lv_aload_n hx hb dX9_swap_39 rfl (lv_at hl 1 rfl) ?_
        refine va_get (ci := 8) (v := .ref a_t_plan) (C := RX9) (T := TX9) (N := 28) hx hb hts in_X9_swap_X9 hown hK hP 0 rfl rfl 12 (by decide) (hts _ lk_X9_swap_0) (fun _ h9 => h9) rfl dX9_swap_40 ?_
        refine lv_iload_n hx hb dX9_swap_43 rfl (lv_at hl 2 rfl) ?_
        refine lv_iconst (v := 1) hx hb dX9_swap_44 (by decide) ?_
        refine lv_aload_n hx hb dX9_swap_45 rfl (lv_at hl 1 rfl) ?_
        refine va_get (ci := 8) (v := .ref a_t_plan) (C := RX9) (T := TX9) (N := 28) hx hb hts in_X9_swap_X9 hown hK hP 0 rfl rfl 12 (by decide) (hts _ lk_X9_swap_0) (fun _ h9 => h9) rfl dX9_swap_46 ?_
        refine lv_iload_n hx hb dX9_swap_49 rfl (lv_at hl 2 rfl) ?_
        obtain ⟨hi15, h⟩ := zz_chkE h
        refine va_iald hx hb hK hP 1 0 rfl rfl hi15 dX9_swap_50 ?_
        refine lv_isub hx hb dX9_swap_51 ?_
        obtain ⟨hi16, h⟩ := zz_chkE h
        refine zz_iast hx hb hK hP hD hS 1 0 rfl rfl hi16 dX9_swap_52 (fun g17 => [(a_t, .inr (8, [.ref a_t_read, .int t_readMany, .ref a_t_papers, .ref a_t_paperMany, .ref a_t_text, .int t_length, .int t_at, .int t_faultAt, .int t_year, .int t_wordsNow, .ref a_t_whose, .int t_mendChanges, .ref a_t_plan, .int t_most, .int t_above, .int t_handing, .int t_wants, .ref a_t_wantNight, .ref a_t_wantHouse, .ref a_t_wantWeight, .ref a_t_ahead, .ref a_t_best, .ref a_t_fines, .ref a_t_times, .ref a_t_isKept, .ref a_t_keptPlan, .ref a_t_keptFines, .ref a_t_keptTimes])), (a_t_plan, .inl (cI, 56, .inl g17)), (a_t_wantHouse, .inl (cI, 12, .inl t_wantHouse)), (a_t_wantNight, .inl (cI, 12, .inl t_wantNight)), (a_t_wantWeight, .inl (cI, 12, .inl t_wantWeight))]) (fun _ => rfl) (fun g17 H locs eg17 hP hD hS => ?_)
        have h := zz_nmE eg17 h
        refine lv_aload_n hx hb dX9_swap_53 rfl (lv_at hl 1 rfl) ?_
        refine va_get (ci := 8) (v := .ref a_t_plan) (C := RX9) (T := TX9) (N := 28) hx hb hts in_X9_swap_X9 hown hK hP 0 rfl rfl 12 (by decide) (hts _ lk_X9_swap_0) (fun _ h9 => h9) rfl dX9_swap_54 ?_
        refine lv_iload_n hx hb dX9_swap_57 rfl (lv_at hl 3 rfl) ?_
        refine lv_iconst (v := 1) hx hb dX9_swap_58 (by decide) ?_
        refine lv_aload_n hx hb dX9_swap_59 rfl (lv_at hl 1 rfl) ?_
        refine va_get (ci := 8) (v := .ref a_t_plan) (C := RX9) (T := TX9) (N := 28) hx hb hts in_X9_swap_X9 hown hK hP 0 rfl rfl 12 (by decide) (hts _ lk_X9_swap_0) (fun _ h9 => h9) rfl dX9_swap_60 ?_
        refine lv_iload_n hx hb dX9_swap_63 rfl (lv_at hl 3 rfl) ?_
        obtain ⟨hi18, h⟩ := zz_chkE h
        refine va_iald hx hb hK hP 1 0 rfl rfl hi18 dX9_swap_64 ?_
        refine lv_isub hx hb dX9_swap_65 ?_
        obtain ⟨hi19, h⟩ := zz_chkE h
        refine zz_iast hx hb hK hP hD hS 1 0 rfl rfl hi19 dX9_swap_66 (fun g20 => [(a_t, .inr (8, [.ref a_t_read, .int t_readMany, .ref a_t_papers, .ref a_t_paperMany, .ref a_t_text, .int t_length, .int t_at, .int t_faultAt, .int t_year, .int t_wordsNow, .ref a_t_whose, .int t_mendChanges, .ref a_t_plan, .int t_most, .int t_above, .int t_handing, .int t_wants, .ref a_t_wantNight, .ref a_t_wantHouse, .ref a_t_wantWeight, .ref a_t_ahead, .ref a_t_best, .ref a_t_fines, .ref a_t_times, .ref a_t_isKept, .ref a_t_keptPlan, .ref a_t_keptFines, .ref a_t_keptTimes])), (a_t_plan, .inl (cI, 56, .inl g20)), (a_t_wantHouse, .inl (cI, 12, .inl t_wantHouse)), (a_t_wantNight, .inl (cI, 12, .inl t_wantNight)), (a_t_wantWeight, .inl (cI, 12, .inl t_wantWeight))]) (fun _ => rfl) (fun g20 H locs eg20 hP hD hS => ?_)
        have h := zz_nmE eg20 h
        refine lv_sipush (v := 1000) hx hb dX9_swap_67 (by decide) ?_
        refine lv_aload_n hx hb dX9_swap_70 rfl (lv_at hl 1 rfl) ?_
        obtain ⟨x21, u22, he23, h⟩ := zz_b2E h
        refine zz_VI (q := (RX9, TX9, 28)) (As := []) (rest := [.int 1000]) (wr := []) (wm := [(a_t, .inr (8, [.ref a_t_read, .int t_readMany, .ref a_t_papers, .ref a_t_paperMany, .ref a_t_text, .int t_length, .int t_at, .int t_faultAt, .int t_year, .int t_wordsNow, .ref a_t_whose, .int t_mendChanges, .ref a_t_plan, .int t_most, .int t_above, .int t_handing, .int t_wants, .ref a_t_wantNight, .ref a_t_wantHouse, .ref a_t_wantWeight, .ref a_t_ahead, .ref a_t_best, .ref a_t_fines, .ref a_t_times, .ref a_t_isKept, .ref a_t_keptPlan, .ref a_t_keptFines, .ref a_t_keptTimes])), (a_t_plan, .inl (cI, 56, .inl g20)), (a_t_wantHouse, .inl (cI, 12, .inl t_wantHouse)), (a_t_wantNight, .inl (cI, 12, .inl t_wantNight)), (a_t_wantWeight, .inl (cI, 12, .inl t_wantWeight))]) ⟨hx, hb, hml, hown, hts⟩ (ct_X9_costOf l dC dI cI cJ cB cZ a_t a_t_plan a_t_wantHouse a_t_wantNight a_t_wantWeight a_t_read a_t_papers a_t_paperMany a_t_text a_t_whose a_t_ahead a_t_best a_t_fines a_t_times a_t_isKept a_t_keptPlan a_t_keptFines a_t_keptTimes t_readMany t_length t_at t_faultAt t_year t_wordsNow t_mendChanges t_most t_above t_handing t_wants g20 t_wantHouse t_wantNight t_wantWeight x21 u22 he23) gX9_swap_X9_costOf hd_X9_costOf rfl rfl rfl ⟨Nat.le_of_ble_eq_true rfl, Nat.le_of_ble_eq_true rfl⟩ ⟨Nat.le_of_ble_eq_true rfl, Nat.le_of_ble_eq_true rfl⟩ rfl rfl (Nat.le_of_ble_eq_true rfl) dX9_swap_71 hl.1 rfl (ci := 8) rfl (q0 := 0) rfl hP hK hD hS hA [0, 1, 2, 3, 4] [] [0, 1, 2, 3, 4] rfl rfl (by decide) (by decide) (by decide) (by decide) rfl (fun H locs hP hD hS => ?_)
        refine lv_iadd hx hb dX9_swap_74 ?_
        refine lv_iload_n hx hb dX9_swap_75 rfl (lv_at hl 0 rfl) ?_
        refine lv_isub hx hb dX9_swap_76 ?_
        exact zz_iret g20 hx hb hr hlocks dX9_swap_77 (Option.some.inj h) hP hK hD hS
      · have h := zz_if c11 h
        refine lv_bipush (v := (-3)) hx hb dX9_swap_31 (by decide) ?_
        exact zz_iret t_plan hx hb hr hlocks dX9_swap_33 (Option.some.inj h) hP hK hD hS
    · have h := zz_if c8 h
      refine lv_iconst (v := (-1)) hx hb dX9_swap_14 (by decide) ?_
      exact zz_iret t_plan hx hb hr hlocks dX9_swap_15 (Option.some.inj h) hP hK hD hS
theorem hd_X9_owes : yX9_owes.cls ≠ "java/lang/invoke/MethodHandle" ∧ yX9_owes.cls ≠ "java/lang/invoke/VarHandle" ∧ (parseMethodDescriptor yX9_owes.desc).map (fun d => d.parameters.length) = some 1 := by decide +kernel
set_option maxRecDepth 20000 in
theorem in_X9_owes_X9 : ∀ w ∈ u_ws RX9 TX9 28, w ∈ wsX9_owes := by decide +kernel
set_option maxRecDepth 20000 in
theorem lk_X9_owes_0 : Cond.fieldLink RX9 22 "TwoHousesOneChildModel" "whose" "[I" ∈ wsX9_owes := by decide +kernel
set_option maxRecDepth 20000 in
theorem lk_X9_owes_1 : Cond.fieldLink RX9 25 "TwoHousesOneChildModel" "plan" "[I" ∈ wsX9_owes := by decide +kernel
set_option maxHeartbeats 4000000 in
set_option maxRecDepth 100000 in
theorem ct_X9_owes (l : Launch) (dC : Nat → ClassId) (dI : Nat → Nat → Nat) (cI cJ cB cZ : ClassId) (a_t a_t_plan a_t_whose a_t_read a_t_papers a_t_paperMany a_t_text a_t_wantNight a_t_wantHouse a_t_wantWeight a_t_ahead a_t_best a_t_fines a_t_times a_t_isKept a_t_keptPlan a_t_keptFines a_t_keptTimes : Nat) (t_readMany : Int32) (t_length : Int32) (t_at : Int32) (t_faultAt : Int32) (t_year : Int32) (t_wordsNow : Int32) (t_mendChanges : Int32) (t_most : Int32) (t_above : Int32) (t_handing : Int32) (t_wants : Int32) (t_plan : (Nat → Int32)) (t_whose : (Nat → Int32)) (p1 : Int32) (rr : Int32) (u0 : Unit) (h : fn_X9_owes t_plan t_whose p1 = some (rr, u0)) : zz_M l yX9_owes wsX9_owes ({ frames := 0, cells := 0, slots := 0, locals := 0 }) (dC, dI) (zz_T cI cJ cB cZ) [.ref a_t, .int p1] [(a_t, .inr (8, [.ref a_t_read, .int t_readMany, .ref a_t_papers, .ref a_t_paperMany, .ref a_t_text, .int t_length, .int t_at, .int t_faultAt, .int t_year, .int t_wordsNow, .ref a_t_whose, .int t_mendChanges, .ref a_t_plan, .int t_most, .int t_above, .int t_handing, .int t_wants, .ref a_t_wantNight, .ref a_t_wantHouse, .ref a_t_wantWeight, .ref a_t_ahead, .ref a_t_best, .ref a_t_fines, .ref a_t_times, .ref a_t_isKept, .ref a_t_keptPlan, .ref a_t_keptFines, .ref a_t_keptTimes])), (a_t_plan, .inl (cI, 56, .inl t_plan)), (a_t_whose, .inl (cI, 56, .inl t_whose))] (zz_QI (dC, dI) (zz_T cI cJ cB cZ) (rr, u0) (fun (u : Unit) => [(a_t, .inr (8, [.ref a_t_read, .int t_readMany, .ref a_t_papers, .ref a_t_paperMany, .ref a_t_text, .int t_length, .int t_at, .int t_faultAt, .int t_year, .int t_wordsNow, .ref a_t_whose, .int t_mendChanges, .ref a_t_plan, .int t_most, .int t_above, .int t_handing, .int t_wants, .ref a_t_wantNight, .ref a_t_wantHouse, .ref a_t_wantWeight, .ref a_t_ahead, .ref a_t_best, .ref a_t_fines, .ref a_t_times, .ref a_t_isKept, .ref a_t_keptPlan, .ref a_t_keptFines, .ref a_t_keptTimes])), (a_t_plan, .inl (cI, 56, .inl t_plan)), (a_t_whose, .inl (cI, 56, .inl t_whose))])) := by
  unfold fn_X9_owes at h
  refine zz_of (by decide) rfl (Nat.le_of_ble_eq_true rfl) ?_
  intro p e s m below meth c A ls hx hb hr hml hts hown hlocks hA hS hP hK hD hl
  have hown : s.vm.findClass RX9 = some m.cls := hown
  have hl : lv_has ls 2 [(0, .ref a_t), (1, .int p1)] := hl
  refine lv_aload_n hx hb dX9_owes_0 rfl (lv_at hl 0 rfl) ?_
  refine va_get (ci := 8) (v := .ref a_t_whose) (C := RX9) (T := TX9) (N := 28) hx hb hts in_X9_owes_X9 hown hK hP 0 rfl rfl 10 (by decide) (hts _ lk_X9_owes_0) (fun _ h9 => h9) rfl dX9_owes_1 ?_
  refine lv_iload_n hx hb dX9_owes_4 rfl (lv_at hl 1 rfl) ?_
  obtain ⟨hi1, h⟩ := zz_chkE h
  refine va_iald hx hb hK hP 2 0 rfl rfl hi1 dX9_owes_5 ?_
  refine lv_iconst (v := 1) hx hb dX9_owes_6 (by decide) ?_
  refine lv_icmp_gt (tgt := 25) hx hb dX9_owes_7 (by decide) (fun c2 => ?_) (fun c2 => ?_)
  · have h := zz_if c2 h
    refine lv_iconst (v := 0) hx hb dX9_owes_25 (by decide) ?_
    refine lv_goto (tgt := 44) hx hb dX9_owes_26 (by decide) ?_
    exact zz_iret () hx hb hr hlocks dX9_owes_44 (Option.some.inj h) hP hK hD hS
  · have h := zz_ifn c2 h
    refine lv_aload_n hx hb dX9_owes_10 rfl (lv_at hl 0 rfl) ?_
    refine va_get (ci := 8) (v := .ref a_t_whose) (C := RX9) (T := TX9) (N := 28) hx hb hts in_X9_owes_X9 hown hK hP 0 rfl rfl 10 (by decide) (hts _ lk_X9_owes_0) (fun _ h9 => h9) rfl dX9_owes_11 ?_
    refine lv_iload_n hx hb dX9_owes_14 rfl (lv_at hl 1 rfl) ?_
    obtain ⟨hi3, h⟩ := zz_chkE h
    refine va_iald hx hb hK hP 2 0 rfl rfl hi3 dX9_owes_15 ?_
    refine lv_aload_n hx hb dX9_owes_16 rfl (lv_at hl 0 rfl) ?_
    refine va_get (ci := 8) (v := .ref a_t_plan) (C := RX9) (T := TX9) (N := 28) hx hb hts in_X9_owes_X9 hown hK hP 0 rfl rfl 12 (by decide) (hts _ lk_X9_owes_1) (fun _ h9 => h9) rfl dX9_owes_17 ?_
    refine lv_iload_n hx hb dX9_owes_20 rfl (lv_at hl 1 rfl) ?_
    obtain ⟨hi4, h⟩ := zz_chkE h
    refine va_iald hx hb hK hP 1 0 rfl rfl hi4 dX9_owes_21 ?_
    refine lv_icmp_ne (tgt := 29) hx hb dX9_owes_22 (by decide) (fun c5 => ?_) (fun c5 => ?_)
    · have h := zz_ifn c5 h
      refine lv_aload_n hx hb dX9_owes_29 rfl (lv_at hl 0 rfl) ?_
      refine va_get (ci := 8) (v := .ref a_t_whose) (C := RX9) (T := TX9) (N := 28) hx hb hts in_X9_owes_X9 hown hK hP 0 rfl rfl 10 (by decide) (hts _ lk_X9_owes_0) (fun _ h9 => h9) rfl dX9_owes_30 ?_
      refine lv_iload_n hx hb dX9_owes_33 rfl (lv_at hl 1 rfl) ?_
      obtain ⟨hi6, h⟩ := zz_chkE h
      refine va_iald hx hb hK hP 2 0 rfl rfl hi6 dX9_owes_34 ?_
      refine lv_iconst (v := 1) hx hb dX9_owes_35 (by decide) ?_
      refine lv_icmp_ne (tgt := 43) hx hb dX9_owes_36 (by decide) (fun c7 => ?_) (fun c7 => ?_)
      · have h := zz_ifn c7 h
        refine lv_iconst (v := (-1)) hx hb dX9_owes_43 (by decide) ?_
        exact zz_iret () hx hb hr hlocks dX9_owes_44 (Option.some.inj h) hP hK hD hS
      · have h := zz_if c7 h
        refine lv_iconst (v := 1) hx hb dX9_owes_39 (by decide) ?_
        refine lv_goto (tgt := 44) hx hb dX9_owes_40 (by decide) ?_
        exact zz_iret () hx hb hr hlocks dX9_owes_44 (Option.some.inj h) hP hK hD hS
    · have h := zz_if c5 h
      refine lv_iconst (v := 0) hx hb dX9_owes_25 (by decide) ?_
      refine lv_goto (tgt := 44) hx hb dX9_owes_26 (by decide) ?_
      exact zz_iret () hx hb hr hlocks dX9_owes_44 (Option.some.inj h) hP hK hD hS
theorem hd_X9_owed : yX9_owed.cls ≠ "java/lang/invoke/MethodHandle" ∧ yX9_owed.cls ≠ "java/lang/invoke/VarHandle" ∧ (parseMethodDescriptor yX9_owed.desc).map (fun d => d.parameters.length) = some 1 := by decide +kernel
set_option maxHeartbeats 4000000 in
set_option maxRecDepth 100000 in
theorem ct_X9_owed (l : Launch) (dC : Nat → ClassId) (dI : Nat → Nat → Nat) (cI cJ cB cZ : ClassId) (a_t a_t_paperMany a_t_papers a_t_plan a_t_whose a_t_read a_t_text a_t_wantNight a_t_wantHouse a_t_wantWeight a_t_ahead a_t_best a_t_fines a_t_times a_t_isKept a_t_keptPlan a_t_keptFines a_t_keptTimes : Nat) (t_readMany : Int32) (t_length : Int32) (t_at : Int32) (t_faultAt : Int32) (t_year : Int32) (t_wordsNow : Int32) (t_mendChanges : Int32) (t_most : Int32) (t_above : Int32) (t_handing : Int32) (t_wants : Int32) (t_paperMany : (Nat → Int32)) (t_papers : (Nat → Int32)) (t_plan : (Nat → Int32)) (t_whose : (Nat → Int32)) (p1 : Int32) (rr : Int32) (o1 : Int32) (o2 : (Nat → Int32)) (h : fn_X9_owed t_year t_wordsNow t_paperMany t_papers t_plan t_whose p1 = some (rr, o1, o2)) : zz_M l yX9_owed wsX9_owed ({ frames := 4, cells := 0, slots := 0, locals := 104 }) (dC, dI) (zz_T cI cJ cB cZ) [.ref a_t, .int p1] [(a_t, .inr (8, [.ref a_t_read, .int t_readMany, .ref a_t_papers, .ref a_t_paperMany, .ref a_t_text, .int t_length, .int t_at, .int t_faultAt, .int t_year, .int t_wordsNow, .ref a_t_whose, .int t_mendChanges, .ref a_t_plan, .int t_most, .int t_above, .int t_handing, .int t_wants, .ref a_t_wantNight, .ref a_t_wantHouse, .ref a_t_wantWeight, .ref a_t_ahead, .ref a_t_best, .ref a_t_fines, .ref a_t_times, .ref a_t_isKept, .ref a_t_keptPlan, .ref a_t_keptFines, .ref a_t_keptTimes])), (a_t_paperMany, .inl (cI, 3, .inl t_paperMany)), (a_t_papers, .inl (cI, 180, .inl t_papers)), (a_t_plan, .inl (cI, 56, .inl t_plan)), (a_t_whose, .inl (cI, 56, .inl t_whose))] (zz_QI (dC, dI) (zz_T cI cJ cB cZ) (rr, o1, o2) (fun (u : Int32 × (Nat → Int32)) => [(a_t, .inr (8, [.ref a_t_read, .int t_readMany, .ref a_t_papers, .ref a_t_paperMany, .ref a_t_text, .int t_length, .int t_at, .int t_faultAt, .int t_year, .int u.1, .ref a_t_whose, .int t_mendChanges, .ref a_t_plan, .int t_most, .int t_above, .int t_handing, .int t_wants, .ref a_t_wantNight, .ref a_t_wantHouse, .ref a_t_wantWeight, .ref a_t_ahead, .ref a_t_best, .ref a_t_fines, .ref a_t_times, .ref a_t_isKept, .ref a_t_keptPlan, .ref a_t_keptFines, .ref a_t_keptTimes])), (a_t_paperMany, .inl (cI, 3, .inl t_paperMany)), (a_t_papers, .inl (cI, 180, .inl t_papers)), (a_t_plan, .inl (cI, 56, .inl t_plan)), (a_t_whose, .inl (cI, 56, .inl u.2))])) := by
  unfold fn_X9_owed at h
  refine zz_of (by decide) rfl (Nat.le_of_ble_eq_true rfl) ?_
  intro p e s m below meth c A ls hx hb hr hml hts hown hlocks hA hS hP hK hD hl
  have hown : s.vm.findClass RX9 = some m.cls := hown
  have hl : lv_has ls 4 [(0, .ref a_t), (1, .int p1)] := hl
  refine lv_iload_n hx hb dX9_owed_0 rfl (lv_at hl 1 rfl) ?_
  obtain ⟨x1, u2, he3, h⟩ := zz_b2E h
  refine zz_PI (As := [.int p1]) (rest := []) ⟨hx, hb, hml, hown, hts⟩ (ct_X9_isNight l dC dI cI cJ cB cZ p1 x1 u2 he3) gX9_owed_X9_isNight hd_X9_isNight rfl rfl rfl ⟨Nat.le_of_ble_eq_true rfl, Nat.le_of_ble_eq_true rfl⟩ ⟨Nat.le_of_ble_eq_true rfl, Nat.le_of_ble_eq_true rfl⟩ rfl rfl (Nat.le_of_ble_eq_true rfl) dX9_owed_1 hl.1 hP hK hS hA (fun H locs hP hS => ?_)
  refine lv_if_ne (tgt := 9) hx hb dX9_owed_4 (by decide) (fun c4 => ?_) (fun c4 => ?_)
  · have h := zz_ifn c4 h
    refine lv_aload_n hx hb dX9_owed_9 rfl (lv_at hl 0 rfl) ?_
    obtain ⟨x5, g6, he7, h⟩ := zz_b2E h
    refine zz_VV (q := (RX9, TX9, 28)) (As := []) (rest := []) (wr := [(a_t_plan, .inl (cI, 56, .inl t_plan))]) (wm := [(a_t, .inr (8, [.ref a_t_read, .int t_readMany, .ref a_t_papers, .ref a_t_paperMany, .ref a_t_text, .int t_length, .int t_at, .int t_faultAt, .int t_year, .int x5, .ref a_t_whose, .int t_mendChanges, .ref a_t_plan, .int t_most, .int t_above, .int t_handing, .int t_wants, .ref a_t_wantNight, .ref a_t_wantHouse, .ref a_t_wantWeight, .ref a_t_ahead, .ref a_t_best, .ref a_t_fines, .ref a_t_times, .ref a_t_isKept, .ref a_t_keptPlan, .ref a_t_keptFines, .ref a_t_keptTimes])), (a_t_paperMany, .inl (cI, 3, .inl t_paperMany)), (a_t_papers, .inl (cI, 180, .inl t_papers)), (a_t_plan, .inl (cI, 56, .inl t_plan)), (a_t_whose, .inl (cI, 56, .inl g6))]) ⟨hx, hb, hml, hown, hts⟩ (ct_X9_layWhose l dC dI cI cJ cB cZ a_t a_t_paperMany a_t_papers a_t_whose a_t_read a_t_text a_t_plan a_t_wantNight a_t_wantHouse a_t_wantWeight a_t_ahead a_t_best a_t_fines a_t_times a_t_isKept a_t_keptPlan a_t_keptFines a_t_keptTimes t_readMany t_length t_at t_faultAt t_year t_wordsNow t_mendChanges t_most t_above t_handing t_wants t_paperMany t_papers t_whose x5 g6 he7) gX9_owed_X9_layWhose hd_X9_layWhose rfl rfl rfl ⟨Nat.le_of_ble_eq_true rfl, Nat.le_of_ble_eq_true rfl⟩ ⟨Nat.le_of_ble_eq_true rfl, Nat.le_of_ble_eq_true rfl⟩ rfl rfl (Nat.le_of_ble_eq_true rfl) dX9_owed_10 hl.1 rfl (ci := 8) rfl (q0 := 0) rfl hP hK hD hS hA [0, 1, 2, 4] [3] [1, 2, 3, 0, 4] rfl rfl (by decide) (by decide) (by decide) (by decide) rfl (fun H locs hP hD hS => ?_)
    refine lv_bipush (v := 100) hx hb dX9_owed_13 (by decide) ?_
    refine lv_istore_n (lv' := [(2, .int 100), (0, .ref a_t), (1, .int p1)]) hx hb dX9_owed_15 rfl hl (by decide) rfl (fun ls hl => ?_)
    refine lv_iconst (v := 0) hx hb dX9_owed_16 (by decide) ?_
    refine lv_istore_n (lv' := [(3, .int 0), (2, .int 100), (0, .ref a_t), (1, .int p1)]) hx hb dX9_owed_17 rfl hl (by decide) rfl (fun ls hl => ?_)
    obtain ⟨x22, hit21, h⟩ := zz_b1E h
    refine zz_cut (fun V => ∀ (H : Heap) (locs : List Loc) (ls : Array Slot), va_P (dC, dI) vwCl [(a_t, .inr (8, [.ref a_t_read, .int t_readMany, .ref a_t_papers, .ref a_t_paperMany, .ref a_t_text, .int t_length, .int t_at, .int t_faultAt, .int t_year, .int x5, .ref a_t_whose, .int t_mendChanges, .ref a_t_plan, .int t_most, .int t_above, .int t_handing, .int t_wants, .ref a_t_wantNight, .ref a_t_wantHouse, .ref a_t_wantWeight, .ref a_t_ahead, .ref a_t_best, .ref a_t_fines, .ref a_t_times, .ref a_t_isKept, .ref a_t_keptPlan, .ref a_t_keptFines, .ref a_t_keptTimes])), (a_t_paperMany, .inl (cI, 3, .inl t_paperMany)), (a_t_papers, .inl (cI, 180, .inl t_papers)), (a_t_plan, .inl (cI, 56, .inl t_plan)), (a_t_whose, .inl (cI, 56, .inl g6))] H → va_D A [(a_t, .inr (8, [.ref a_t_read, .int t_readMany, .ref a_t_papers, .ref a_t_paperMany, .ref a_t_text, .int t_length, .int t_at, .int t_faultAt, .int t_year, .int x5, .ref a_t_whose, .int t_mendChanges, .ref a_t_plan, .int t_most, .int t_above, .int t_handing, .int t_wants, .ref a_t_wantNight, .ref a_t_wantHouse, .ref a_t_wantWeight, .ref a_t_ahead, .ref a_t_best, .ref a_t_fines, .ref a_t_times, .ref a_t_isKept, .ref a_t_keptPlan, .ref a_t_keptFines, .ref a_t_keptTimes])), (a_t_paperMany, .inl (cI, 3, .inl t_paperMany)), (a_t_papers, .inl (cI, 180, .inl t_papers)), (a_t_plan, .inl (cI, 56, .inl t_plan)), (a_t_whose, .inl (cI, 56, .inl g6))] → va_S A s.heap H locs → lv_has ls 4 [(2, .int x22)] → V H locs (F0 m 37 ls [])) ?_ (fun hE21 => ?_)
    · intro H locs ls hP hD hS hl
      refine lv_iload_n hx hb dX9_owed_37 rfl (lv_at hl 0 rfl) ?_
      exact zz_iret (x5, g6) hx hb hr hlocks dX9_owed_38 (Option.some.inj h) hP hK hD hS
    refine zz_cut (fun V => ∀ (n : Nat) (x20 : Int32) (x21 : Int32) (H : Heap) (locs : List Loc) (ls : Array Slot), zz_it (fun z => fb_X9_owed_18 p1 g6 t_plan z.1 z.2) n (x20, x21) = some x22 → va_P (dC, dI) vwCl [(a_t, .inr (8, [.ref a_t_read, .int t_readMany, .ref a_t_papers, .ref a_t_paperMany, .ref a_t_text, .int t_length, .int t_at, .int t_faultAt, .int t_year, .int x5, .ref a_t_whose, .int t_mendChanges, .ref a_t_plan, .int t_most, .int t_above, .int t_handing, .int t_wants, .ref a_t_wantNight, .ref a_t_wantHouse, .ref a_t_wantWeight, .ref a_t_ahead, .ref a_t_best, .ref a_t_fines, .ref a_t_times, .ref a_t_isKept, .ref a_t_keptPlan, .ref a_t_keptFines, .ref a_t_keptTimes])), (a_t_paperMany, .inl (cI, 3, .inl t_paperMany)), (a_t_papers, .inl (cI, 180, .inl t_papers)), (a_t_plan, .inl (cI, 56, .inl t_plan)), (a_t_whose, .inl (cI, 56, .inl g6))] H → va_D A [(a_t, .inr (8, [.ref a_t_read, .int t_readMany, .ref a_t_papers, .ref a_t_paperMany, .ref a_t_text, .int t_length, .int t_at, .int t_faultAt, .int t_year, .int x5, .ref a_t_whose, .int t_mendChanges, .ref a_t_plan, .int t_most, .int t_above, .int t_handing, .int t_wants, .ref a_t_wantNight, .ref a_t_wantHouse, .ref a_t_wantWeight, .ref a_t_ahead, .ref a_t_best, .ref a_t_fines, .ref a_t_times, .ref a_t_isKept, .ref a_t_keptPlan, .ref a_t_keptFines, .ref a_t_keptTimes])), (a_t_paperMany, .inl (cI, 3, .inl t_paperMany)), (a_t_papers, .inl (cI, 180, .inl t_papers)), (a_t_plan, .inl (cI, 56, .inl t_plan)), (a_t_whose, .inl (cI, 56, .inl g6))] → va_S A s.heap H locs → lv_has ls 4 [(0, .ref a_t), (1, .int p1), (2, .int x20), (3, .int x21)] → V H locs (F0 m 18 ls [])) ?_ (fun hL21 => ?_)
    · intro n
      induction n with
      | zero => intro x20 x21 H locs ls hit21; exact (zz_it0 hit21).elim
      | succ n ih21 =>
        intro x20 x21 H locs ls hit21 hP hD hS hl
        obtain ⟨y21, hb21, hy21⟩ := zz_itE hit21
        have hb21 : fb_X9_owed_18 p1 g6 t_plan x20 x21 = some y21 := hb21
        unfold fb_X9_owed_18 at hb21
        refine lv_iload_n hx hb dX9_owed_18 rfl (lv_at hl 3 rfl) ?_
        refine lv_iload_n hx hb dX9_owed_19 rfl (lv_at hl 1 rfl) ?_
        refine lv_icmp_gt (tgt := 37) hx hb dX9_owed_20 (by decide) (fun c23 => ?_) (fun c23 => ?_)
        · have hb21 := zz_if c23 hb21
          obtain rfl := Option.some.inj hb21
          have hy21 := Option.some.inj hy21
          cases hy21
          exact hE21 _ _ ls hP hD hS (lv_sub hl [2] rfl)
        · have hb21 := zz_ifn c23 hb21
          refine lv_iload_n hx hb dX9_owed_23 rfl (lv_at hl 2 rfl) ?_
          refine lv_aload_n hx hb dX9_owed_24 rfl (lv_at hl 0 rfl) ?_
          refine lv_iload_n hx hb dX9_owed_25 rfl (lv_at hl 3 rfl) ?_
          obtain ⟨x24, u25, he26, hb21⟩ := zz_b2E hb21
          refine zz_VI (q := (RX9, TX9, 28)) (As := [.int x21]) (rest := [.int x20]) (wr := [(a_t_paperMany, .inl (cI, 3, .inl t_paperMany)), (a_t_papers, .inl (cI, 180, .inl t_papers))]) (wm := [(a_t, .inr (8, [.ref a_t_read, .int t_readMany, .ref a_t_papers, .ref a_t_paperMany, .ref a_t_text, .int t_length, .int t_at, .int t_faultAt, .int t_year, .int x5, .ref a_t_whose, .int t_mendChanges, .ref a_t_plan, .int t_most, .int t_above, .int t_handing, .int t_wants, .ref a_t_wantNight, .ref a_t_wantHouse, .ref a_t_wantWeight, .ref a_t_ahead, .ref a_t_best, .ref a_t_fines, .ref a_t_times, .ref a_t_isKept, .ref a_t_keptPlan, .ref a_t_keptFines, .ref a_t_keptTimes])), (a_t_paperMany, .inl (cI, 3, .inl t_paperMany)), (a_t_papers, .inl (cI, 180, .inl t_papers)), (a_t_plan, .inl (cI, 56, .inl t_plan)), (a_t_whose, .inl (cI, 56, .inl g6))]) ⟨hx, hb, hml, hown, hts⟩ (ct_X9_owes l dC dI cI cJ cB cZ a_t a_t_plan a_t_whose a_t_read a_t_papers a_t_paperMany a_t_text a_t_wantNight a_t_wantHouse a_t_wantWeight a_t_ahead a_t_best a_t_fines a_t_times a_t_isKept a_t_keptPlan a_t_keptFines a_t_keptTimes t_readMany t_length t_at t_faultAt t_year x5 t_mendChanges t_most t_above t_handing t_wants t_plan g6 x21 x24 u25 he26) gX9_owed_X9_owes hd_X9_owes rfl rfl rfl ⟨Nat.le_of_ble_eq_true rfl, Nat.le_of_ble_eq_true rfl⟩ ⟨Nat.le_of_ble_eq_true rfl, Nat.le_of_ble_eq_true rfl⟩ rfl rfl (Nat.le_of_ble_eq_true rfl) dX9_owed_26 hl.1 rfl (ci := 8) rfl (q0 := 0) rfl hP hK hD hS hA [0, 3, 4] [1, 2] [2, 0, 1, 3, 4] rfl rfl (by decide) (by decide) (by decide) (by decide) rfl (fun H locs hP hD hS => ?_)
          refine lv_iadd hx hb dX9_owed_29 ?_
          refine lv_topi (fun x27 ex27 => ?_)
          have hb21 := zz_nmE ex27 hb21
          refine lv_istore_n (lv' := [(2, .int x27), (0, .ref a_t), (1, .int p1), (3, .int x21)]) hx hb dX9_owed_30 rfl hl (by decide) rfl (fun ls hl => ?_)
          obtain ⟨x28, ex28⟩ : ∃ z : Int32, z = x21 + 1 := ⟨_, rfl⟩
          have hb21 := zz_nmE ex28 hb21
          refine lv_iinc (v := x28) (lv' := [(3, .int x28), (2, .int x27), (0, .ref a_t), (1, .int p1)]) hx hb dX9_owed_31 hl (k := 3) rfl (by rw [ex28]; rfl) (by decide) rfl (fun ls hl => ?_)
          refine lv_goto (tgt := 18) hx hb dX9_owed_34 (by decide) ?_
          obtain rfl := Option.some.inj hb21
          exact ih21 x27 x28 _ _ ls hy21 hP hD hS (lv_sub hl [2, 3, 1, 0] rfl)
    exact hL21 zz_fuel 100 0 _ _ ls hit21 hP hD hS (lv_sub hl [2, 3, 1, 0] rfl)
  · have h := zz_if c4 h
    refine lv_iconst (v := (-1)) hx hb dX9_owed_7 (by decide) ?_
    exact zz_iret (t_wordsNow, t_whose) hx hb hr hlocks dX9_owed_8 (Option.some.inj h) hP hK hD hS
theorem hd_X9_even : yX9_even.cls ≠ "java/lang/invoke/MethodHandle" ∧ yX9_even.cls ≠ "java/lang/invoke/VarHandle" ∧ (parseMethodDescriptor yX9_even.desc).map (fun d => d.parameters.length) = some 0 := by decide +kernel
set_option maxHeartbeats 4000000 in
set_option maxRecDepth 100000 in
theorem ct_X9_even (l : Launch) (dC : Nat → ClassId) (dI : Nat → Nat → Nat) (cI cJ cB cZ : ClassId) (a_t a_t_paperMany a_t_papers a_t_plan a_t_whose a_t_read a_t_text a_t_wantNight a_t_wantHouse a_t_wantWeight a_t_ahead a_t_best a_t_fines a_t_times a_t_isKept a_t_keptPlan a_t_keptFines a_t_keptTimes : Nat) (t_readMany : Int32) (t_length : Int32) (t_at : Int32) (t_faultAt : Int32) (t_year : Int32) (t_wordsNow : Int32) (t_mendChanges : Int32) (t_most : Int32) (t_above : Int32) (t_handing : Int32) (t_wants : Int32) (t_paperMany : (Nat → Int32)) (t_papers : (Nat → Int32)) (t_plan : (Nat → Int32)) (t_whose : (Nat → Int32)) (rr : Int32) (o1 : Int32) (o2 : (Nat → Int32)) (h : fn_X9_even t_year t_wordsNow t_paperMany t_papers t_plan t_whose = some (rr, o1, o2)) : zz_M l yX9_even wsX9_even ({ frames := 4, cells := 0, slots := 0, locals := 104 }) (dC, dI) (zz_T cI cJ cB cZ) [.ref a_t] [(a_t, .inr (8, [.ref a_t_read, .int t_readMany, .ref a_t_papers, .ref a_t_paperMany, .ref a_t_text, .int t_length, .int t_at, .int t_faultAt, .int t_year, .int t_wordsNow, .ref a_t_whose, .int t_mendChanges, .ref a_t_plan, .int t_most, .int t_above, .int t_handing, .int t_wants, .ref a_t_wantNight, .ref a_t_wantHouse, .ref a_t_wantWeight, .ref a_t_ahead, .ref a_t_best, .ref a_t_fines, .ref a_t_times, .ref a_t_isKept, .ref a_t_keptPlan, .ref a_t_keptFines, .ref a_t_keptTimes])), (a_t_paperMany, .inl (cI, 3, .inl t_paperMany)), (a_t_papers, .inl (cI, 180, .inl t_papers)), (a_t_plan, .inl (cI, 56, .inl t_plan)), (a_t_whose, .inl (cI, 56, .inl t_whose))] (zz_QI (dC, dI) (zz_T cI cJ cB cZ) (rr, o1, o2) (fun (u : Int32 × (Nat → Int32)) => [(a_t, .inr (8, [.ref a_t_read, .int t_readMany, .ref a_t_papers, .ref a_t_paperMany, .ref a_t_text, .int t_length, .int t_at, .int t_faultAt, .int t_year, .int u.1, .ref a_t_whose, .int t_mendChanges, .ref a_t_plan, .int t_most, .int t_above, .int t_handing, .int t_wants, .ref a_t_wantNight, .ref a_t_wantHouse, .ref a_t_wantWeight, .ref a_t_ahead, .ref a_t_best, .ref a_t_fines, .ref a_t_times, .ref a_t_isKept, .ref a_t_keptPlan, .ref a_t_keptFines, .ref a_t_keptTimes])), (a_t_paperMany, .inl (cI, 3, .inl t_paperMany)), (a_t_papers, .inl (cI, 180, .inl t_papers)), (a_t_plan, .inl (cI, 56, .inl t_plan)), (a_t_whose, .inl (cI, 56, .inl u.2))])) := by
  unfold fn_X9_even at h
  refine zz_of (by decide) rfl (Nat.le_of_ble_eq_true rfl) ?_
  intro p e s m below meth c A ls hx hb hr hml hts hown hlocks hA hS hP hK hD hl
  have hown : s.vm.findClass RX9 = some m.cls := hown
  have hl : lv_has ls 4 [(0, .ref a_t)] := hl
  refine lv_aload_n hx hb dX9_even_0 rfl (lv_at hl 0 rfl) ?_
  obtain ⟨x1, g2, he3, h⟩ := zz_b2E h
  refine zz_VV (q := (RX9, TX9, 28)) (As := []) (rest := []) (wr := [(a_t_plan, .inl (cI, 56, .inl t_plan))]) (wm := [(a_t, .inr (8, [.ref a_t_read, .int t_readMany, .ref a_t_papers, .ref a_t_paperMany, .ref a_t_text, .int t_length, .int t_at, .int t_faultAt, .int t_year, .int x1, .ref a_t_whose, .int t_mendChanges, .ref a_t_plan, .int t_most, .int t_above, .int t_handing, .int t_wants, .ref a_t_wantNight, .ref a_t_wantHouse, .ref a_t_wantWeight, .ref a_t_ahead, .ref a_t_best, .ref a_t_fines, .ref a_t_times, .ref a_t_isKept, .ref a_t_keptPlan, .ref a_t_keptFines, .ref a_t_keptTimes])), (a_t_paperMany, .inl (cI, 3, .inl t_paperMany)), (a_t_papers, .inl (cI, 180, .inl t_papers)), (a_t_plan, .inl (cI, 56, .inl t_plan)), (a_t_whose, .inl (cI, 56, .inl g2))]) ⟨hx, hb, hml, hown, hts⟩ (ct_X9_layWhose l dC dI cI cJ cB cZ a_t a_t_paperMany a_t_papers a_t_whose a_t_read a_t_text a_t_plan a_t_wantNight a_t_wantHouse a_t_wantWeight a_t_ahead a_t_best a_t_fines a_t_times a_t_isKept a_t_keptPlan a_t_keptFines a_t_keptTimes t_readMany t_length t_at t_faultAt t_year t_wordsNow t_mendChanges t_most t_above t_handing t_wants t_paperMany t_papers t_whose x1 g2 he3) gX9_even_X9_layWhose hd_X9_layWhose rfl rfl rfl ⟨Nat.le_of_ble_eq_true rfl, Nat.le_of_ble_eq_true rfl⟩ ⟨Nat.le_of_ble_eq_true rfl, Nat.le_of_ble_eq_true rfl⟩ rfl rfl (Nat.le_of_ble_eq_true rfl) dX9_even_1 hl.1 rfl (ci := 8) rfl (q0 := 0) rfl hP hK hD hS hA [0, 1, 2, 4] [3] [1, 2, 3, 0, 4] rfl rfl (by decide) (by decide) (by decide) (by decide) rfl (fun H locs hP hD hS => ?_)
  refine lv_iconst (v := 0) hx hb dX9_even_4 (by decide) ?_
  refine lv_istore_n (lv' := [(1, .int 0), (0, .ref a_t)]) hx hb dX9_even_5 rfl hl (by decide) rfl (fun ls hl => ?_)
  refine lv_iconst (v := 0) hx hb dX9_even_6 (by decide) ?_
  refine lv_istore_n (lv' := [(2, .int 0), (1, .int 0), (0, .ref a_t)]) hx hb dX9_even_7 rfl hl (by decide) rfl (fun ls hl => ?_)
  refine lv_iconst (v := 0) hx hb dX9_even_8 (by decide) ?_
  refine lv_istore_n (lv' := [(3, .int 0), (2, .int 0), (1, .int 0), (0, .ref a_t)]) hx hb dX9_even_9 rfl hl (by decide) rfl (fun ls hl => ?_)
  obtain ⟨x26, hit25, h⟩ := zz_b1E h
  refine zz_cut (fun V => ∀ (H : Heap) (locs : List Loc) (ls : Array Slot), va_P (dC, dI) vwCl [(a_t, .inr (8, [.ref a_t_read, .int t_readMany, .ref a_t_papers, .ref a_t_paperMany, .ref a_t_text, .int t_length, .int t_at, .int t_faultAt, .int t_year, .int x1, .ref a_t_whose, .int t_mendChanges, .ref a_t_plan, .int t_most, .int t_above, .int t_handing, .int t_wants, .ref a_t_wantNight, .ref a_t_wantHouse, .ref a_t_wantWeight, .ref a_t_ahead, .ref a_t_best, .ref a_t_fines, .ref a_t_times, .ref a_t_isKept, .ref a_t_keptPlan, .ref a_t_keptFines, .ref a_t_keptTimes])), (a_t_paperMany, .inl (cI, 3, .inl t_paperMany)), (a_t_papers, .inl (cI, 180, .inl t_papers)), (a_t_plan, .inl (cI, 56, .inl t_plan)), (a_t_whose, .inl (cI, 56, .inl g2))] H → va_D A [(a_t, .inr (8, [.ref a_t_read, .int t_readMany, .ref a_t_papers, .ref a_t_paperMany, .ref a_t_text, .int t_length, .int t_at, .int t_faultAt, .int t_year, .int x1, .ref a_t_whose, .int t_mendChanges, .ref a_t_plan, .int t_most, .int t_above, .int t_handing, .int t_wants, .ref a_t_wantNight, .ref a_t_wantHouse, .ref a_t_wantWeight, .ref a_t_ahead, .ref a_t_best, .ref a_t_fines, .ref a_t_times, .ref a_t_isKept, .ref a_t_keptPlan, .ref a_t_keptFines, .ref a_t_keptTimes])), (a_t_paperMany, .inl (cI, 3, .inl t_paperMany)), (a_t_papers, .inl (cI, 180, .inl t_papers)), (a_t_plan, .inl (cI, 56, .inl t_plan)), (a_t_whose, .inl (cI, 56, .inl g2))] → va_S A s.heap H locs → lv_has ls 4 [(2, .int x26)] → V H locs (F0 m 42 ls [])) ?_ (fun hE25 => ?_)
  · intro H locs ls hP hD hS hl
    refine lv_iload_n hx hb dX9_even_42 rfl (lv_at hl 0 rfl) ?_
    refine lv_bipush (v := 56) hx hb dX9_even_43 (by decide) ?_
    refine lv_icmp_ne (tgt := 53) hx hb dX9_even_45 (by decide) (fun c27 => ?_) (fun c27 => ?_)
    · have h := zz_ifn c27 h
      refine lv_iload_n hx hb dX9_even_53 rfl (lv_at hl 0 rfl) ?_
      exact zz_iret (x1, g2) hx hb hr hlocks dX9_even_54 (Option.some.inj h) hP hK hD hS
    · have h := zz_if c27 h
      refine lv_bipush (v := (-9)) hx hb dX9_even_48 (by decide) ?_
      refine lv_goto (tgt := 54) hx hb dX9_even_50 (by decide) ?_
      exact zz_iret (x1, g2) hx hb hr hlocks dX9_even_54 (Option.some.inj h) hP hK hD hS
  refine zz_cut (fun V => ∀ (n : Nat) (x23 : Int32) (x24 : Int32) (x25 : Int32) (H : Heap) (locs : List Loc) (ls : Array Slot), zz_it (fun z => fb_X9_even_10 g2 t_plan z.1 z.2.1 z.2.2) n (x23, x24, x25) = some x26 → va_P (dC, dI) vwCl [(a_t, .inr (8, [.ref a_t_read, .int t_readMany, .ref a_t_papers, .ref a_t_paperMany, .ref a_t_text, .int t_length, .int t_at, .int t_faultAt, .int t_year, .int x1, .ref a_t_whose, .int t_mendChanges, .ref a_t_plan, .int t_most, .int t_above, .int t_handing, .int t_wants, .ref a_t_wantNight, .ref a_t_wantHouse, .ref a_t_wantWeight, .ref a_t_ahead, .ref a_t_best, .ref a_t_fines, .ref a_t_times, .ref a_t_isKept, .ref a_t_keptPlan, .ref a_t_keptFines, .ref a_t_keptTimes])), (a_t_paperMany, .inl (cI, 3, .inl t_paperMany)), (a_t_papers, .inl (cI, 180, .inl t_papers)), (a_t_plan, .inl (cI, 56, .inl t_plan)), (a_t_whose, .inl (cI, 56, .inl g2))] H → va_D A [(a_t, .inr (8, [.ref a_t_read, .int t_readMany, .ref a_t_papers, .ref a_t_paperMany, .ref a_t_text, .int t_length, .int t_at, .int t_faultAt, .int t_year, .int x1, .ref a_t_whose, .int t_mendChanges, .ref a_t_plan, .int t_most, .int t_above, .int t_handing, .int t_wants, .ref a_t_wantNight, .ref a_t_wantHouse, .ref a_t_wantWeight, .ref a_t_ahead, .ref a_t_best, .ref a_t_fines, .ref a_t_times, .ref a_t_isKept, .ref a_t_keptPlan, .ref a_t_keptFines, .ref a_t_keptTimes])), (a_t_paperMany, .inl (cI, 3, .inl t_paperMany)), (a_t_papers, .inl (cI, 180, .inl t_papers)), (a_t_plan, .inl (cI, 56, .inl t_plan)), (a_t_whose, .inl (cI, 56, .inl g2))] → va_S A s.heap H locs → lv_has ls 4 [(0, .ref a_t), (1, .int x23), (2, .int x24), (3, .int x25)] → V H locs (F0 m 10 ls [])) ?_ (fun hL25 => ?_)
  · intro n
    induction n with
    | zero => intro x23 x24 x25 H locs ls hit25; exact (zz_it0 hit25).elim
    | succ n ih25 =>
      intro x23 x24 x25 H locs ls hit25 hP hD hS hl
      obtain ⟨y25, hb25, hy25⟩ := zz_itE hit25
      have hb25 : fb_X9_even_10 g2 t_plan x23 x24 x25 = some y25 := hb25
      unfold fb_X9_even_10 at hb25
      refine lv_iload_n hx hb dX9_even_10 rfl (lv_at hl 3 rfl) ?_
      refine lv_bipush (v := 56) hx hb dX9_even_11 (by decide) ?_
      refine lv_icmp_ge (tgt := 42) hx hb dX9_even_13 (by decide) (fun c28 => ?_) (fun c28 => ?_)
      · have hb25 := zz_if c28 hb25
        obtain rfl := Option.some.inj hb25
        have hy25 := Option.some.inj hy25
        cases hy25
        exact hE25 _ _ ls hP hD hS (lv_sub hl [2] rfl)
      · have hb25 := zz_ifn c28 hb25
        refine lv_iload_n hx hb dX9_even_16 rfl (lv_at hl 1 rfl) ?_
        refine lv_aload_n hx hb dX9_even_17 rfl (lv_at hl 0 rfl) ?_
        refine lv_iload_n hx hb dX9_even_18 rfl (lv_at hl 3 rfl) ?_
        obtain ⟨x29, u30, he31, hb25⟩ := zz_b2E hb25
        refine zz_VI (q := (RX9, TX9, 28)) (As := [.int x25]) (rest := [.int x23]) (wr := [(a_t_paperMany, .inl (cI, 3, .inl t_paperMany)), (a_t_papers, .inl (cI, 180, .inl t_papers))]) (wm := [(a_t, .inr (8, [.ref a_t_read, .int t_readMany, .ref a_t_papers, .ref a_t_paperMany, .ref a_t_text, .int t_length, .int t_at, .int t_faultAt, .int t_year, .int x1, .ref a_t_whose, .int t_mendChanges, .ref a_t_plan, .int t_most, .int t_above, .int t_handing, .int t_wants, .ref a_t_wantNight, .ref a_t_wantHouse, .ref a_t_wantWeight, .ref a_t_ahead, .ref a_t_best, .ref a_t_fines, .ref a_t_times, .ref a_t_isKept, .ref a_t_keptPlan, .ref a_t_keptFines, .ref a_t_keptTimes])), (a_t_paperMany, .inl (cI, 3, .inl t_paperMany)), (a_t_papers, .inl (cI, 180, .inl t_papers)), (a_t_plan, .inl (cI, 56, .inl t_plan)), (a_t_whose, .inl (cI, 56, .inl g2))]) ⟨hx, hb, hml, hown, hts⟩ (ct_X9_owes l dC dI cI cJ cB cZ a_t a_t_plan a_t_whose a_t_read a_t_papers a_t_paperMany a_t_text a_t_wantNight a_t_wantHouse a_t_wantWeight a_t_ahead a_t_best a_t_fines a_t_times a_t_isKept a_t_keptPlan a_t_keptFines a_t_keptTimes t_readMany t_length t_at t_faultAt t_year x1 t_mendChanges t_most t_above t_handing t_wants t_plan g2 x25 x29 u30 he31) gX9_even_X9_owes hd_X9_owes rfl rfl rfl ⟨Nat.le_of_ble_eq_true rfl, Nat.le_of_ble_eq_true rfl⟩ ⟨Nat.le_of_ble_eq_true rfl, Nat.le_of_ble_eq_true rfl⟩ rfl rfl (Nat.le_of_ble_eq_true rfl) dX9_even_19 hl.1 rfl (ci := 8) rfl (q0 := 0) rfl hP hK hD hS hA [0, 3, 4] [1, 2] [2, 0, 1, 3, 4] rfl rfl (by decide) (by decide) (by decide) (by decide) rfl (fun H locs hP hD hS => ?_)
        refine lv_iadd hx hb dX9_even_22 ?_
        refine lv_topi (fun x32 ex32 => ?_)
        have hb25 := zz_nmE ex32 hb25
        refine lv_istore_n (lv' := [(1, .int x32), (0, .ref a_t), (2, .int x24), (3, .int x25)]) hx hb dX9_even_23 rfl hl (by decide) rfl (fun ls hl => ?_)
        refine lv_iload_n hx hb dX9_even_24 rfl (lv_at hl 0 rfl) ?_
        refine lv_if_eq (tgt := 34) hx hb dX9_even_25 (by decide) (fun c33 => ?_) (fun c33 => ?_)
        · have hb25 := zz_if c33 hb25
          refine lv_iload_n hx hb dX9_even_34 rfl (lv_at hl 2 rfl) ?_
          refine lv_istore_n (lv' := [(2, .int x24), (1, .int x32), (0, .ref a_t), (3, .int x25)]) hx hb dX9_even_35 rfl hl (by decide) rfl (fun ls hl => ?_)
          obtain ⟨x34, ex34⟩ : ∃ z : Int32, z = x25 + 1 := ⟨_, rfl⟩
          have hb25 := zz_nmE ex34 hb25
          refine lv_iinc (v := x34) (lv' := [(3, .int x34), (2, .int x24), (1, .int x32), (0, .ref a_t)]) hx hb dX9_even_36 hl (k := 3) rfl (by rw [ex34]; rfl) (by decide) rfl (fun ls hl => ?_)
          refine lv_goto (tgt := 10) hx hb dX9_even_39 (by decide) ?_
          obtain rfl := Option.some.inj hb25
          exact ih25 x32 x24 x34 _ _ ls hy25 hP hD hS (lv_sub hl [3, 2, 1, 0] rfl)
        · have hb25 := zz_ifn c33 hb25
          refine lv_iload_n hx hb dX9_even_28 rfl (lv_at hl 3 rfl) ?_
          refine lv_iconst (v := 1) hx hb dX9_even_29 (by decide) ?_
          refine lv_iadd hx hb dX9_even_30 ?_
          refine lv_goto (tgt := 35) hx hb dX9_even_31 (by decide) ?_
          refine lv_topi (fun x35 ex35 => ?_)
          have hb25 := zz_nmE ex35 hb25
          refine lv_istore_n (lv' := [(2, .int x35), (1, .int x32), (0, .ref a_t), (3, .int x25)]) hx hb dX9_even_35 rfl hl (by decide) rfl (fun ls hl => ?_)
          obtain ⟨x36, ex36⟩ : ∃ z : Int32, z = x25 + 1 := ⟨_, rfl⟩
          have hb25 := zz_nmE ex36 hb25
          refine lv_iinc (v := x36) (lv' := [(3, .int x36), (2, .int x35), (1, .int x32), (0, .ref a_t)]) hx hb dX9_even_36 hl (k := 3) rfl (by rw [ex36]; rfl) (by decide) rfl (fun ls hl => ?_)
          refine lv_goto (tgt := 10) hx hb dX9_even_39 (by decide) ?_
          obtain rfl := Option.some.inj hb25
          exact ih25 x32 x35 x36 _ _ ls hy25 hP hD hS (lv_sub hl [3, 2, 1, 0] rfl)
  exact hL25 zz_fuel 0 0 0 _ _ ls hit25 hP hD hS (lv_sub hl [3, 2, 1, 0] rfl)
theorem hd_X9_wedding : yX9_wedding.cls ≠ "java/lang/invoke/MethodHandle" ∧ yX9_wedding.cls ≠ "java/lang/invoke/VarHandle" ∧ (parseMethodDescriptor yX9_wedding.desc).map (fun d => d.parameters.length) = some 2 := by decide +kernel
set_option maxRecDepth 20000 in
theorem in_X9_wedding_X9 : ∀ w ∈ u_ws RX9 TX9 28, w ∈ wsX9_wedding := by decide +kernel
set_option maxRecDepth 20000 in
theorem lk_X9_wedding_0 : Cond.fieldLink RX9 25 "TwoHousesOneChildModel" "plan" "[I" ∈ wsX9_wedding := by decide +kernel
set_option maxHeartbeats 4000000 in
set_option maxRecDepth 100000 in
theorem ct_X9_wedding (l : Launch) (dC : Nat → ClassId) (dI : Nat → Nat → Nat) (cI cJ cB cZ : ClassId) (a_t a_t_plan a_t_wantHouse a_t_wantNight a_t_wantWeight a_t_read a_t_papers a_t_paperMany a_t_text a_t_whose a_t_ahead a_t_best a_t_fines a_t_times a_t_isKept a_t_keptPlan a_t_keptFines a_t_keptTimes : Nat) (t_readMany : Int32) (t_length : Int32) (t_at : Int32) (t_faultAt : Int32) (t_year : Int32) (t_wordsNow : Int32) (t_mendChanges : Int32) (t_most : Int32) (t_above : Int32) (t_handing : Int32) (t_wants : Int32) (t_plan : (Nat → Int32)) (t_wantHouse : (Nat → Int32)) (t_wantNight : (Nat → Int32)) (t_wantWeight : (Nat → Int32)) (p1 : Int32) (p2 : Int32) (rr : Int32) (o1 : (Nat → Int32)) (h : fn_X9_wedding t_most t_above t_handing t_wants t_plan t_wantHouse t_wantNight t_wantWeight p1 p2 = some (rr, o1)) : zz_M l yX9_wedding wsX9_wedding ({ frames := 2, cells := 0, slots := 0, locals := 48 }) (dC, dI) (zz_T cI cJ cB cZ) [.ref a_t, .int p1, .int p2] [(a_t, .inr (8, [.ref a_t_read, .int t_readMany, .ref a_t_papers, .ref a_t_paperMany, .ref a_t_text, .int t_length, .int t_at, .int t_faultAt, .int t_year, .int t_wordsNow, .ref a_t_whose, .int t_mendChanges, .ref a_t_plan, .int t_most, .int t_above, .int t_handing, .int t_wants, .ref a_t_wantNight, .ref a_t_wantHouse, .ref a_t_wantWeight, .ref a_t_ahead, .ref a_t_best, .ref a_t_fines, .ref a_t_times, .ref a_t_isKept, .ref a_t_keptPlan, .ref a_t_keptFines, .ref a_t_keptTimes])), (a_t_plan, .inl (cI, 56, .inl t_plan)), (a_t_wantHouse, .inl (cI, 12, .inl t_wantHouse)), (a_t_wantNight, .inl (cI, 12, .inl t_wantNight)), (a_t_wantWeight, .inl (cI, 12, .inl t_wantWeight))] (zz_QI (dC, dI) (zz_T cI cJ cB cZ) (rr, o1) (fun (u : (Nat → Int32)) => [(a_t, .inr (8, [.ref a_t_read, .int t_readMany, .ref a_t_papers, .ref a_t_paperMany, .ref a_t_text, .int t_length, .int t_at, .int t_faultAt, .int t_year, .int t_wordsNow, .ref a_t_whose, .int t_mendChanges, .ref a_t_plan, .int t_most, .int t_above, .int t_handing, .int t_wants, .ref a_t_wantNight, .ref a_t_wantHouse, .ref a_t_wantWeight, .ref a_t_ahead, .ref a_t_best, .ref a_t_fines, .ref a_t_times, .ref a_t_isKept, .ref a_t_keptPlan, .ref a_t_keptFines, .ref a_t_keptTimes])), (a_t_plan, .inl (cI, 56, .inl u)), (a_t_wantHouse, .inl (cI, 12, .inl t_wantHouse)), (a_t_wantNight, .inl (cI, 12, .inl t_wantNight)), (a_t_wantWeight, .inl (cI, 12, .inl t_wantWeight))])) := by
  unfold fn_X9_wedding at h
  refine zz_of (by decide) rfl (Nat.le_of_ble_eq_true rfl) ?_
  intro p e s m below meth c A ls hx hb hr hml hts hown hlocks hA hS hP hK hD hl
  have hown : s.vm.findClass RX9 = some m.cls := hown
  have hl : lv_has ls 7 [(0, .ref a_t), (1, .int p1), (2, .int p2)] := hl
  refine lv_iload_n hx hb dX9_wedding_0 rfl (lv_at hl 1 rfl) ?_
  obtain ⟨x1, u2, he3, h⟩ := zz_b2E h
  refine zz_PI (As := [.int p1]) (rest := []) ⟨hx, hb, hml, hown, hts⟩ (ct_X9_isNight l dC dI cI cJ cB cZ p1 x1 u2 he3) gX9_wedding_X9_isNight hd_X9_isNight rfl rfl rfl ⟨Nat.le_of_ble_eq_true rfl, Nat.le_of_ble_eq_true rfl⟩ ⟨Nat.le_of_ble_eq_true rfl, Nat.le_of_ble_eq_true rfl⟩ rfl rfl (Nat.le_of_ble_eq_true rfl) dX9_wedding_1 hl.1 hP hK hS hA (fun H locs hP hS => ?_)
  refine lv_if_eq (tgt := 14) hx hb dX9_wedding_4 (by decide) (fun c4 => ?_) (fun c4 => ?_)
  · have h := zz_if c4 h
    refine lv_iconst (v := (-1)) hx hb dX9_wedding_14 (by decide) ?_
    exact zz_iret t_plan hx hb hr hlocks dX9_wedding_15 (Option.some.inj h) hP hK hD hS
  · have h := zz_ifn c4 h
    refine lv_iload_n hx hb dX9_wedding_7 rfl (lv_at hl 2 rfl) ?_
    obtain ⟨x5, u6, he7, h⟩ := zz_b2E h
    refine zz_PI (As := [.int p2]) (rest := []) ⟨hx, hb, hml, hown, hts⟩ (ct_X9_isHouse l dC dI cI cJ cB cZ p2 x5 u6 he7) gX9_wedding_X9_isHouse hd_X9_isHouse rfl rfl rfl ⟨Nat.le_of_ble_eq_true rfl, Nat.le_of_ble_eq_true rfl⟩ ⟨Nat.le_of_ble_eq_true rfl, Nat.le_of_ble_eq_true rfl⟩ rfl rfl (Nat.le_of_ble_eq_true rfl) dX9_wedding_8 hl.1 hP hK hS hA (fun H locs hP hS => ?_)
    refine lv_if_ne (tgt := 16) hx hb dX9_wedding_11 (by decide) (fun c8 => ?_) (fun c8 => ?_)
    · have h := zz_ifn c8 h
      refine lv_aload_n hx hb dX9_wedding_16 rfl (lv_at hl 0 rfl) ?_
      refine va_get (ci := 8) (v := .ref a_t_plan) (C := RX9) (T := TX9) (N := 28) hx hb hts in_X9_wedding_X9 hown hK hP 0 rfl rfl 12 (by decide) (hts _ lk_X9_wedding_0) (fun _ h9 => h9) rfl dX9_wedding_17 ?_
      refine lv_iload_n hx hb dX9_wedding_20 rfl (lv_at hl 1 rfl) ?_
      obtain ⟨hi9, h⟩ := zz_chkE h
      refine va_iald hx hb hK hP 1 0 rfl rfl hi9 dX9_wedding_21 ?_
      refine lv_iload_n hx hb dX9_wedding_22 rfl (lv_at hl 2 rfl) ?_
      refine lv_icmp_ne (tgt := 29) hx hb dX9_wedding_23 (by decide) (fun c10 => ?_) (fun c10 => ?_)
      · have h := zz_ifn c10 h
        refine lv_bipush (v := (-9)) hx hb dX9_wedding_29 (by decide) ?_
        refine lv_istore_n (lv' := [(3, .int (-9)), (0, .ref a_t), (1, .int p1), (2, .int p2)]) hx hb dX9_wedding_31 rfl hl (by decide) rfl (fun ls hl => ?_)
        refine lv_iconst (v := 0) hx hb dX9_wedding_32 (by decide) ?_
        refine lv_istore (lv' := [(4, .int 0), (3, .int (-9)), (0, .ref a_t), (1, .int p1), (2, .int p2)]) hx hb dX9_wedding_33 hl (by decide) rfl (fun ls hl => ?_)
        refine lv_aload_n hx hb dX9_wedding_35 rfl (lv_at hl 2 rfl) ?_
        refine va_get (ci := 8) (v := .ref a_t_plan) (C := RX9) (T := TX9) (N := 28) hx hb hts in_X9_wedding_X9 hown hK hP 0 rfl rfl 12 (by decide) (hts _ lk_X9_wedding_0) (fun _ h9 => h9) rfl dX9_wedding_36 ?_
        refine lv_iload_n hx hb dX9_wedding_39 rfl (lv_at hl 3 rfl) ?_
        refine lv_iload_n hx hb dX9_wedding_40 rfl (lv_at hl 4 rfl) ?_
        obtain ⟨hi11, h⟩ := zz_chkE h
        refine zz_iast hx hb hK hP hD hS 1 0 rfl rfl hi11 dX9_wedding_41 (fun g12 => [(a_t, .inr (8, [.ref a_t_read, .int t_readMany, .ref a_t_papers, .ref a_t_paperMany, .ref a_t_text, .int t_length, .int t_at, .int t_faultAt, .int t_year, .int t_wordsNow, .ref a_t_whose, .int t_mendChanges, .ref a_t_plan, .int t_most, .int t_above, .int t_handing, .int t_wants, .ref a_t_wantNight, .ref a_t_wantHouse, .ref a_t_wantWeight, .ref a_t_ahead, .ref a_t_best, .ref a_t_fines, .ref a_t_times, .ref a_t_isKept, .ref a_t_keptPlan, .ref a_t_keptFines, .ref a_t_keptTimes])), (a_t_plan, .inl (cI, 56, .inl g12)), (a_t_wantHouse, .inl (cI, 12, .inl t_wantHouse)), (a_t_wantNight, .inl (cI, 12, .inl t_wantNight)), (a_t_wantWeight, .inl (cI, 12, .inl t_wantWeight))]) (fun _ => rfl) (fun g12 H locs eg12 hP hD hS => ?_)
        have h := zz_nmE eg12 h
        refine lv_iload_n hx hb dX9_wedding_42 rfl (lv_at hl 3 rfl) ?_
        refine lv_bipush (v := 14) hx hb dX9_wedding_43 (by decide) ?_
        refine lv_isub hx hb dX9_wedding_45 ?_
        refine lv_topi (fun x13 ex13 => ?_)
        have h := zz_nmE ex13 h
        refine lv_istore (lv' := [(5, .int x13), (4, .int 0), (3, .int (-9)), (0, .ref a_t), (1, .int p1), (2, .int p2)]) hx hb dX9_wedding_46 hl (by decide) rfl (fun ls hl => ?_)
        obtain ⟨x66, g67, hit65, h⟩ := zz_b2E h
        refine zz_cut (fun V => ∀ (H : Heap) (locs : List Loc) (ls : Array Slot), va_P (dC, dI) vwCl [(a_t, .inr (8, [.ref a_t_read, .int t_readMany, .ref a_t_papers, .ref a_t_paperMany, .ref a_t_text, .int t_length, .int t_at, .int t_faultAt, .int t_year, .int t_wordsNow, .ref a_t_whose, .int t_mendChanges, .ref a_t_plan, .int t_most, .int t_above, .int t_handing, .int t_wants, .ref a_t_wantNight, .ref a_t_wantHouse, .ref a_t_wantWeight, .ref a_t_ahead, .ref a_t_best, .ref a_t_fines, .ref a_t_times, .ref a_t_isKept, .ref a_t_keptPlan, .ref a_t_keptFines, .ref a_t_keptTimes])), (a_t_plan, .inl (cI, 56, .inl g67)), (a_t_wantHouse, .inl (cI, 12, .inl t_wantHouse)), (a_t_wantNight, .inl (cI, 12, .inl t_wantNight)), (a_t_wantWeight, .inl (cI, 12, .inl t_wantWeight))] H → va_D A [(a_t, .inr (8, [.ref a_t_read, .int t_readMany, .ref a_t_papers, .ref a_t_paperMany, .ref a_t_text, .int t_length, .int t_at, .int t_faultAt, .int t_year, .int t_wordsNow, .ref a_t_whose, .int t_mendChanges, .ref a_t_plan, .int t_most, .int t_above, .int t_handing, .int t_wants, .ref a_t_wantNight, .ref a_t_wantHouse, .ref a_t_wantWeight, .ref a_t_ahead, .ref a_t_best, .ref a_t_fines, .ref a_t_times, .ref a_t_isKept, .ref a_t_keptPlan, .ref a_t_keptFines, .ref a_t_keptTimes])), (a_t_plan, .inl (cI, 56, .inl g67)), (a_t_wantHouse, .inl (cI, 12, .inl t_wantHouse)), (a_t_wantNight, .inl (cI, 12, .inl t_wantNight)), (a_t_wantWeight, .inl (cI, 12, .inl t_wantWeight))] → va_S A s.heap H locs → lv_has ls 7 [(0, .ref a_t), (1, .int p1), (2, .int p2), (3, .int x66)] → V H locs (F0 m 132 ls [])) ?_ (fun hE65 => ?_)
        · intro H locs ls hP hD hS hl
          refine lv_aload_n hx hb dX9_wedding_132 rfl (lv_at hl 0 rfl) ?_
          refine va_get (ci := 8) (v := .ref a_t_plan) (C := RX9) (T := TX9) (N := 28) hx hb hts in_X9_wedding_X9 hown hK hP 0 rfl rfl 12 (by decide) (hts _ lk_X9_wedding_0) (fun _ h9 => h9) rfl dX9_wedding_133 ?_
          refine lv_iload_n hx hb dX9_wedding_136 rfl (lv_at hl 1 rfl) ?_
          refine lv_iconst (v := 1) hx hb dX9_wedding_137 (by decide) ?_
          refine lv_iload_n hx hb dX9_wedding_138 rfl (lv_at hl 2 rfl) ?_
          refine lv_isub hx hb dX9_wedding_139 ?_
          obtain ⟨hi68, h⟩ := zz_chkE h
          refine zz_iast hx hb hK hP hD hS 1 0 rfl rfl hi68 dX9_wedding_140 (fun g69 => [(a_t, .inr (8, [.ref a_t_read, .int t_readMany, .ref a_t_papers, .ref a_t_paperMany, .ref a_t_text, .int t_length, .int t_at, .int t_faultAt, .int t_year, .int t_wordsNow, .ref a_t_whose, .int t_mendChanges, .ref a_t_plan, .int t_most, .int t_above, .int t_handing, .int t_wants, .ref a_t_wantNight, .ref a_t_wantHouse, .ref a_t_wantWeight, .ref a_t_ahead, .ref a_t_best, .ref a_t_fines, .ref a_t_times, .ref a_t_isKept, .ref a_t_keptPlan, .ref a_t_keptFines, .ref a_t_keptTimes])), (a_t_plan, .inl (cI, 56, .inl g69)), (a_t_wantHouse, .inl (cI, 12, .inl t_wantHouse)), (a_t_wantNight, .inl (cI, 12, .inl t_wantNight)), (a_t_wantWeight, .inl (cI, 12, .inl t_wantWeight))]) (fun _ => rfl) (fun g69 H locs eg69 hP hD hS => ?_)
          have h := zz_nmE eg69 h
          refine lv_iload_n hx hb dX9_wedding_141 rfl (lv_at hl 3 rfl) ?_
          exact zz_iret g69 hx hb hr hlocks dX9_wedding_142 (Option.some.inj h) hP hK hD hS
        refine zz_cut (fun V => ∀ (n : Nat) (x62 : Int32) (x63 : Int32) (x64 : Int32) (g65 : (Nat → Int32)) (H : Heap) (locs : List Loc) (ls : Array Slot), zz_it (fun z => fb_X9_wedding_48 p1 p2 t_most t_above t_handing t_wants t_wantHouse t_wantNight t_wantWeight z.1 z.2.1 z.2.2.1 z.2.2.2) n (x62, x63, x64, g65) = some (x66, g67) → va_P (dC, dI) vwCl [(a_t, .inr (8, [.ref a_t_read, .int t_readMany, .ref a_t_papers, .ref a_t_paperMany, .ref a_t_text, .int t_length, .int t_at, .int t_faultAt, .int t_year, .int t_wordsNow, .ref a_t_whose, .int t_mendChanges, .ref a_t_plan, .int t_most, .int t_above, .int t_handing, .int t_wants, .ref a_t_wantNight, .ref a_t_wantHouse, .ref a_t_wantWeight, .ref a_t_ahead, .ref a_t_best, .ref a_t_fines, .ref a_t_times, .ref a_t_isKept, .ref a_t_keptPlan, .ref a_t_keptFines, .ref a_t_keptTimes])), (a_t_plan, .inl (cI, 56, .inl g65)), (a_t_wantHouse, .inl (cI, 12, .inl t_wantHouse)), (a_t_wantNight, .inl (cI, 12, .inl t_wantNight)), (a_t_wantWeight, .inl (cI, 12, .inl t_wantWeight))] H → va_D A [(a_t, .inr (8, [.ref a_t_read, .int t_readMany, .ref a_t_papers, .ref a_t_paperMany, .ref a_t_text, .int t_length, .int t_at, .int t_faultAt, .int t_year, .int t_wordsNow, .ref a_t_whose, .int t_mendChanges, .ref a_t_plan, .int t_most, .int t_above, .int t_handing, .int t_wants, .ref a_t_wantNight, .ref a_t_wantHouse, .ref a_t_wantWeight, .ref a_t_ahead, .ref a_t_best, .ref a_t_fines, .ref a_t_times, .ref a_t_isKept, .ref a_t_keptPlan, .ref a_t_keptFines, .ref a_t_keptTimes])), (a_t_plan, .inl (cI, 56, .inl g65)), (a_t_wantHouse, .inl (cI, 12, .inl t_wantHouse)), (a_t_wantNight, .inl (cI, 12, .inl t_wantNight)), (a_t_wantWeight, .inl (cI, 12, .inl t_wantWeight))] → va_S A s.heap H locs → lv_has ls 7 [(0, .ref a_t), (1, .int p1), (2, .int p2), (3, .int x62), (4, .int x63), (5, .int x64)] → V H locs (F0 m 48 ls [])) ?_ (fun hL65 => ?_)
        · intro n
          induction n with
          | zero => intro x62 x63 x64 g65 H locs ls hit65; exact (zz_it0 hit65).elim
          | succ n ih65 =>
            intro x62 x63 x64 g65 H locs ls hit65 hP hD hS hl
            obtain ⟨y65, hb65, hy65⟩ := zz_itE hit65
            have hb65 : fb_X9_wedding_48 p1 p2 t_most t_above t_handing t_wants t_wantHouse t_wantNight t_wantWeight x62 x63 x64 g65 = some y65 := hb65
            unfold fb_X9_wedding_48 at hb65
            refine lv_iload hx hb dX9_wedding_48 (lv_at hl 5 rfl) ?_
            refine lv_iload_n hx hb dX9_wedding_50 rfl (lv_at hl 1 rfl) ?_
            refine lv_bipush (v := 14) hx hb dX9_wedding_51 (by decide) ?_
            refine lv_iadd hx hb dX9_wedding_53 ?_
            refine lv_icmp_gt (tgt := 132) hx hb dX9_wedding_54 (by decide) (fun c70 => ?_) (fun c70 => ?_)
            · have hb65 := zz_if c70 hb65
              obtain rfl := Option.some.inj hb65
              have hy65 := Option.some.inj hy65
              cases hy65
              exact hE65 _ _ ls hP hD hS (lv_sub hl [0, 1, 2, 3] rfl)
            · have hb65 := zz_ifn c70 hb65
              refine lv_iload hx hb dX9_wedding_57 (lv_at hl 5 rfl) ?_
              obtain ⟨x71, u72, he73, hb65⟩ := zz_b2E hb65
              refine zz_PI (As := [.int x64]) (rest := []) ⟨hx, hb, hml, hown, hts⟩ (ct_X9_isNight l dC dI cI cJ cB cZ x64 x71 u72 he73) gX9_wedding_X9_isNight hd_X9_isNight rfl rfl rfl ⟨Nat.le_of_ble_eq_true rfl, Nat.le_of_ble_eq_true rfl⟩ ⟨Nat.le_of_ble_eq_true rfl, Nat.le_of_ble_eq_true rfl⟩ rfl rfl (Nat.le_of_ble_eq_true rfl) dX9_wedding_59 hl.1 hP hK hS hA (fun H locs hP hS => ?_)
              refine lv_if_eq (tgt := 126) hx hb dX9_wedding_62 (by decide) (fun c74 => ?_) (fun c74 => ?_)
              · have hb65 := zz_if c74 hb65
                obtain ⟨x75, ex75⟩ : ∃ z : Int32, z = x64 + 1 := ⟨_, rfl⟩
                have hb65 := zz_nmE ex75 hb65
                refine lv_iinc (v := x75) (lv' := [(5, .int x75), (0, .ref a_t), (1, .int p1), (2, .int p2), (3, .int x62), (4, .int x63)]) hx hb dX9_wedding_126 hl (k := 5) rfl (by rw [ex75]; rfl) (by decide) rfl (fun ls hl => ?_)
                refine lv_goto (tgt := 48) hx hb dX9_wedding_129 (by decide) ?_
                obtain rfl := Option.some.inj hb65
                exact ih65 x62 x63 x75 g65 _ _ ls hy65 hP hD hS (lv_sub hl [1, 2, 3, 4, 5, 0] rfl)
              · have hb65 := zz_ifn c74 hb65
                refine lv_iload hx hb dX9_wedding_65 (lv_at hl 5 rfl) ?_
                refine lv_iload_n hx hb dX9_wedding_67 rfl (lv_at hl 1 rfl) ?_
                refine lv_icmp_eq (tgt := 126) hx hb dX9_wedding_68 (by decide) (fun c76 => ?_) (fun c76 => ?_)
                · have hb65 := zz_if c76 hb65
                  obtain ⟨x77, ex77⟩ : ∃ z : Int32, z = x64 + 1 := ⟨_, rfl⟩
                  have hb65 := zz_nmE ex77 hb65
                  refine lv_iinc (v := x77) (lv' := [(5, .int x77), (0, .ref a_t), (1, .int p1), (2, .int p2), (3, .int x62), (4, .int x63)]) hx hb dX9_wedding_126 hl (k := 5) rfl (by rw [ex77]; rfl) (by decide) rfl (fun ls hl => ?_)
                  refine lv_goto (tgt := 48) hx hb dX9_wedding_129 (by decide) ?_
                  obtain rfl := Option.some.inj hb65
                  exact ih65 x62 x63 x77 g65 _ _ ls hy65 hP hD hS (lv_sub hl [1, 2, 3, 4, 5, 0] rfl)
                · have hb65 := zz_ifn c76 hb65
                  refine lv_aload_n hx hb dX9_wedding_71 rfl (lv_at hl 0 rfl) ?_
                  refine va_get (ci := 8) (v := .ref a_t_plan) (C := RX9) (T := TX9) (N := 28) hx hb hts in_X9_wedding_X9 hown hK hP 0 rfl rfl 12 (by decide) (hts _ lk_X9_wedding_0) (fun _ h9 => h9) rfl dX9_wedding_72 ?_
                  refine lv_iload hx hb dX9_wedding_75 (lv_at hl 5 rfl) ?_
                  obtain ⟨hi78, hb65⟩ := zz_chkE hb65
                  refine va_iald hx hb hK hP 1 0 rfl rfl hi78 dX9_wedding_77 ?_
                  refine lv_iload_n hx hb dX9_wedding_78 rfl (lv_at hl 2 rfl) ?_
                  refine lv_icmp_ne (tgt := 126) hx hb dX9_wedding_79 (by decide) (fun c79 => ?_) (fun c79 => ?_)
                  · have hb65 := zz_ifn c79 hb65
                    obtain ⟨x80, ex80⟩ : ∃ z : Int32, z = x64 + 1 := ⟨_, rfl⟩
                    have hb65 := zz_nmE ex80 hb65
                    refine lv_iinc (v := x80) (lv' := [(5, .int x80), (0, .ref a_t), (1, .int p1), (2, .int p2), (3, .int x62), (4, .int x63)]) hx hb dX9_wedding_126 hl (k := 5) rfl (by rw [ex80]; rfl) (by decide) rfl (fun ls hl => ?_)
                    refine lv_goto (tgt := 48) hx hb dX9_wedding_129 (by decide) ?_
                    obtain rfl := Option.some.inj hb65
                    exact ih65 x62 x63 x80 g65 _ _ ls hy65 hP hD hS (lv_sub hl [1, 2, 3, 4, 5, 0] rfl)
                  · have hb65 := zz_if c79 hb65
                    refine lv_aload_n hx hb dX9_wedding_82 rfl (lv_at hl 0 rfl) ?_
                    refine va_get (ci := 8) (v := .ref a_t_plan) (C := RX9) (T := TX9) (N := 28) hx hb hts in_X9_wedding_X9 hown hK hP 0 rfl rfl 12 (by decide) (hts _ lk_X9_wedding_0) (fun _ h9 => h9) rfl dX9_wedding_83 ?_
                    refine lv_iload hx hb dX9_wedding_86 (lv_at hl 5 rfl) ?_
                    refine lv_iconst (v := 1) hx hb dX9_wedding_88 (by decide) ?_
                    refine lv_iload_n hx hb dX9_wedding_89 rfl (lv_at hl 2 rfl) ?_
                    refine lv_isub hx hb dX9_wedding_90 ?_
                    obtain ⟨hi81, hb65⟩ := zz_chkE hb65
                    refine zz_iast hx hb hK hP hD hS 1 0 rfl rfl hi81 dX9_wedding_91 (fun g82 => [(a_t, .inr (8, [.ref a_t_read, .int t_readMany, .ref a_t_papers, .ref a_t_paperMany, .ref a_t_text, .int t_length, .int t_at, .int t_faultAt, .int t_year, .int t_wordsNow, .ref a_t_whose, .int t_mendChanges, .ref a_t_plan, .int t_most, .int t_above, .int t_handing, .int t_wants, .ref a_t_wantNight, .ref a_t_wantHouse, .ref a_t_wantWeight, .ref a_t_ahead, .ref a_t_best, .ref a_t_fines, .ref a_t_times, .ref a_t_isKept, .ref a_t_keptPlan, .ref a_t_keptFines, .ref a_t_keptTimes])), (a_t_plan, .inl (cI, 56, .inl g82)), (a_t_wantHouse, .inl (cI, 12, .inl t_wantHouse)), (a_t_wantNight, .inl (cI, 12, .inl t_wantNight)), (a_t_wantWeight, .inl (cI, 12, .inl t_wantWeight))]) (fun _ => rfl) (fun g82 H locs eg82 hP hD hS => ?_)
                    have hb65 := zz_nmE eg82 hb65
                    refine lv_aload_n hx hb dX9_wedding_92 rfl (lv_at hl 0 rfl) ?_
                    obtain ⟨x83, u84, he85, hb65⟩ := zz_b2E hb65
                    refine zz_VI (q := (RX9, TX9, 28)) (As := []) (rest := []) (wr := []) (wm := [(a_t, .inr (8, [.ref a_t_read, .int t_readMany, .ref a_t_papers, .ref a_t_paperMany, .ref a_t_text, .int t_length, .int t_at, .int t_faultAt, .int t_year, .int t_wordsNow, .ref a_t_whose, .int t_mendChanges, .ref a_t_plan, .int t_most, .int t_above, .int t_handing, .int t_wants, .ref a_t_wantNight, .ref a_t_wantHouse, .ref a_t_wantWeight, .ref a_t_ahead, .ref a_t_best, .ref a_t_fines, .ref a_t_times, .ref a_t_isKept, .ref a_t_keptPlan, .ref a_t_keptFines, .ref a_t_keptTimes])), (a_t_plan, .inl (cI, 56, .inl g82)), (a_t_wantHouse, .inl (cI, 12, .inl t_wantHouse)), (a_t_wantNight, .inl (cI, 12, .inl t_wantNight)), (a_t_wantWeight, .inl (cI, 12, .inl t_wantWeight))]) ⟨hx, hb, hml, hown, hts⟩ (ct_X9_costOf l dC dI cI cJ cB cZ a_t a_t_plan a_t_wantHouse a_t_wantNight a_t_wantWeight a_t_read a_t_papers a_t_paperMany a_t_text a_t_whose a_t_ahead a_t_best a_t_fines a_t_times a_t_isKept a_t_keptPlan a_t_keptFines a_t_keptTimes t_readMany t_length t_at t_faultAt t_year t_wordsNow t_mendChanges t_most t_above t_handing t_wants g82 t_wantHouse t_wantNight t_wantWeight x83 u84 he85) gX9_wedding_X9_costOf hd_X9_costOf rfl rfl rfl ⟨Nat.le_of_ble_eq_true rfl, Nat.le_of_ble_eq_true rfl⟩ ⟨Nat.le_of_ble_eq_true rfl, Nat.le_of_ble_eq_true rfl⟩ rfl rfl (Nat.le_of_ble_eq_true rfl) dX9_wedding_93 hl.1 rfl (ci := 8) rfl (q0 := 0) rfl hP hK hD hS hA [0, 1, 2, 3, 4] [] [0, 1, 2, 3, 4] rfl rfl (by decide) (by decide) (by decide) (by decide) rfl (fun H locs hP hD hS => ?_)
                    refine lv_istore (lv' := [(6, .int x83), (0, .ref a_t), (1, .int p1), (2, .int p2), (3, .int x62), (4, .int x63), (5, .int x64)]) hx hb dX9_wedding_96 hl (by decide) rfl (fun ls hl => ?_)
                    refine lv_aload_n hx hb dX9_wedding_98 rfl (lv_at hl 1 rfl) ?_
                    refine va_get (ci := 8) (v := .ref a_t_plan) (C := RX9) (T := TX9) (N := 28) hx hb hts in_X9_wedding_X9 hown hK hP 0 rfl rfl 12 (by decide) (hts _ lk_X9_wedding_0) (fun _ h9 => h9) rfl dX9_wedding_99 ?_
                    refine lv_iload hx hb dX9_wedding_102 (lv_at hl 6 rfl) ?_
                    refine lv_iload_n hx hb dX9_wedding_104 rfl (lv_at hl 3 rfl) ?_
                    obtain ⟨hi86, hb65⟩ := zz_chkE hb65
                    refine zz_iast hx hb hK hP hD hS 1 0 rfl rfl hi86 dX9_wedding_105 (fun g87 => [(a_t, .inr (8, [.ref a_t_read, .int t_readMany, .ref a_t_papers, .ref a_t_paperMany, .ref a_t_text, .int t_length, .int t_at, .int t_faultAt, .int t_year, .int t_wordsNow, .ref a_t_whose, .int t_mendChanges, .ref a_t_plan, .int t_most, .int t_above, .int t_handing, .int t_wants, .ref a_t_wantNight, .ref a_t_wantHouse, .ref a_t_wantWeight, .ref a_t_ahead, .ref a_t_best, .ref a_t_fines, .ref a_t_times, .ref a_t_isKept, .ref a_t_keptPlan, .ref a_t_keptFines, .ref a_t_keptTimes])), (a_t_plan, .inl (cI, 56, .inl g87)), (a_t_wantHouse, .inl (cI, 12, .inl t_wantHouse)), (a_t_wantNight, .inl (cI, 12, .inl t_wantNight)), (a_t_wantWeight, .inl (cI, 12, .inl t_wantWeight))]) (fun _ => rfl) (fun g87 H locs eg87 hP hD hS => ?_)
                    have hb65 := zz_nmE eg87 hb65
                    refine lv_iload_n hx hb dX9_wedding_106 rfl (lv_at hl 4 rfl) ?_
                    refine lv_bipush (v := (-9)) hx hb dX9_wedding_107 (by decide) ?_
                    refine lv_icmp_eq (tgt := 119) hx hb dX9_wedding_109 (by decide) (fun c88 => ?_) (fun c88 => ?_)
                    · have hb65 := zz_if c88 hb65
                      refine lv_iload hx hb dX9_wedding_119 (lv_at hl 6 rfl) ?_
                      refine lv_istore_n (lv' := [(3, .int x64), (6, .int x83), (0, .ref a_t), (1, .int p1), (2, .int p2), (4, .int x63), (5, .int x64)]) hx hb dX9_wedding_121 rfl hl (by decide) rfl (fun ls hl => ?_)
                      refine lv_iload hx hb dX9_wedding_122 (lv_at hl 1 rfl) ?_
                      refine lv_istore (lv' := [(4, .int x83), (3, .int x64), (6, .int x83), (0, .ref a_t), (1, .int p1), (2, .int p2), (5, .int x64)]) hx hb dX9_wedding_124 hl (by decide) rfl (fun ls hl => ?_)
                      obtain ⟨x89, ex89⟩ : ∃ z : Int32, z = x64 + 1 := ⟨_, rfl⟩
                      have hb65 := zz_nmE ex89 hb65
                      refine lv_iinc (v := x89) (lv' := [(5, .int x89), (4, .int x83), (3, .int x64), (6, .int x83), (0, .ref a_t), (1, .int p1), (2, .int p2)]) hx hb dX9_wedding_126 hl (k := 6) rfl (by rw [ex89]; rfl) (by decide) rfl (fun ls hl => ?_)
                      refine lv_goto (tgt := 48) hx hb dX9_wedding_129 (by decide) ?_
                      obtain rfl := Option.some.inj hb65
                      exact ih65 x64 x83 x89 g87 _ _ ls hy65 hP hD hS (lv_sub hl [4, 5, 6, 2, 1, 0] rfl)
                    · have hb65 := zz_ifn c88 hb65
                      refine lv_iload hx hb dX9_wedding_112 (lv_at hl 0 rfl) ?_
                      refine lv_iload hx hb dX9_wedding_114 (lv_at hl 5 rfl) ?_
                      refine lv_icmp_ge (tgt := 126) hx hb dX9_wedding_116 (by decide) (fun c90 => ?_) (fun c90 => ?_)
                      · have hb65 := zz_if c90 hb65
                        obtain ⟨x91, ex91⟩ : ∃ z : Int32, z = x64 + 1 := ⟨_, rfl⟩
                        have hb65 := zz_nmE ex91 hb65
                        refine lv_iinc (v := x91) (lv' := [(5, .int x91), (6, .int x83), (0, .ref a_t), (1, .int p1), (2, .int p2), (3, .int x62), (4, .int x63)]) hx hb dX9_wedding_126 hl (k := 6) rfl (by rw [ex91]; rfl) (by decide) rfl (fun ls hl => ?_)
                        refine lv_goto (tgt := 48) hx hb dX9_wedding_129 (by decide) ?_
                        obtain rfl := Option.some.inj hb65
                        exact ih65 x62 x63 x91 g87 _ _ ls hy65 hP hD hS (lv_sub hl [2, 3, 4, 5, 6, 0] rfl)
                      · have hb65 := zz_ifn c90 hb65
                        refine lv_iload hx hb dX9_wedding_119 (lv_at hl 6 rfl) ?_
                        refine lv_istore_n (lv' := [(3, .int x64), (6, .int x83), (0, .ref a_t), (1, .int p1), (2, .int p2), (4, .int x63), (5, .int x64)]) hx hb dX9_wedding_121 rfl hl (by decide) rfl (fun ls hl => ?_)
                        refine lv_iload hx hb dX9_wedding_122 (lv_at hl 1 rfl) ?_
                        refine lv_istore (lv' := [(4, .int x83), (3, .int x64), (6, .int x83), (0, .ref a_t), (1, .int p1), (2, .int p2), (5, .int x64)]) hx hb dX9_wedding_124 hl (by decide) rfl (fun ls hl => ?_)
                        obtain ⟨x92, ex92⟩ : ∃ z : Int32, z = x64 + 1 := ⟨_, rfl⟩
                        have hb65 := zz_nmE ex92 hb65
                        refine lv_iinc (v := x92) (lv' := [(5, .int x92), (4, .int x83), (3, .int x64), (6, .int x83), (0, .ref a_t), (1, .int p1), (2, .int p2)]) hx hb dX9_wedding_126 hl (k := 6) rfl (by rw [ex92]; rfl) (by decide) rfl (fun ls hl => ?_)
                        refine lv_goto (tgt := 48) hx hb dX9_wedding_129 (by decide) ?_
                        obtain rfl := Option.some.inj hb65
                        exact ih65 x64 x83 x92 g87 _ _ ls hy65 hP hD hS (lv_sub hl [4, 5, 6, 2, 1, 0] rfl)
        exact hL65 zz_fuel (-9) 0 x13 g12 _ _ ls hit65 hP hD hS (lv_sub hl [3, 4, 5, 2, 1, 0] rfl)
      · have h := zz_if c10 h
        refine lv_bipush (v := (-9)) hx hb dX9_wedding_26 (by decide) ?_
        exact zz_iret t_plan hx hb hr hlocks dX9_wedding_28 (Option.some.inj h) hP hK hD hS
    · have h := zz_if c8 h
      refine lv_iconst (v := (-1)) hx hb dX9_wedding_14 (by decide) ?_
      exact zz_iret t_plan hx hb hr hlocks dX9_wedding_15 (Option.some.inj h) hP hK hD hS
