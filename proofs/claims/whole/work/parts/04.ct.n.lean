theorem hd_X9_again : yX9_again.cls ≠ "java/lang/invoke/MethodHandle" ∧ yX9_again.cls ≠ "java/lang/invoke/VarHandle" ∧ (parseMethodDescriptor yX9_again.desc).map (fun d => d.parameters.length) = some 1 := by decide +kernel
set_option maxRecDepth 20000 in
theorem in_X9_again_X9 : ∀ w ∈ u_ws RX9 TX9 28, w ∈ wsX9_again := by decide +kernel
set_option maxRecDepth 20000 in
theorem lk_X9_again_0 : Cond.fieldLink RX9 49 "TwoHousesOneChildModel" "isKept" "[Z" ∈ wsX9_again := by decide +kernel
set_option maxRecDepth 20000 in
theorem lk_X9_again_1 : Cond.fieldLink RX9 16 "TwoHousesOneChildModel" "paperMany" "[I" ∈ wsX9_again := by decide +kernel
set_option maxRecDepth 20000 in
theorem lk_X9_again_2 : Cond.fieldLink RX9 13 "TwoHousesOneChildModel" "papers" "[I" ∈ wsX9_again := by decide +kernel
set_option maxRecDepth 20000 in
theorem lk_X9_again_3 : Cond.fieldLink RX9 25 "TwoHousesOneChildModel" "plan" "[I" ∈ wsX9_again := by decide +kernel
set_option maxRecDepth 20000 in
theorem lk_X9_again_4 : Cond.fieldLink RX9 53 "TwoHousesOneChildModel" "keptPlan" "[I" ∈ wsX9_again := by decide +kernel
set_option maxRecDepth 20000 in
theorem lk_X9_again_5 : Cond.fieldLink RX9 43 "TwoHousesOneChildModel" "fines" "[I" ∈ wsX9_again := by decide +kernel
set_option maxRecDepth 20000 in
theorem lk_X9_again_6 : Cond.fieldLink RX9 56 "TwoHousesOneChildModel" "keptFines" "[I" ∈ wsX9_again := by decide +kernel
set_option maxRecDepth 20000 in
theorem lk_X9_again_7 : Cond.fieldLink RX9 46 "TwoHousesOneChildModel" "times" "[I" ∈ wsX9_again := by decide +kernel
set_option maxRecDepth 20000 in
theorem lk_X9_again_8 : Cond.fieldLink RX9 59 "TwoHousesOneChildModel" "keptTimes" "[I" ∈ wsX9_again := by decide +kernel
set_option maxHeartbeats 4000000 in
set_option maxRecDepth 100000 in
theorem ct_X9_again (l : Launch) (dC : Nat → ClassId) (dI : Nat → Nat → Nat) (cI cJ cB cZ : ClassId) (a_t a_t_fines a_t_isKept a_t_keptFines a_t_keptPlan a_t_keptTimes a_t_paperMany a_t_papers a_t_plan a_t_times a_t_read a_t_text a_t_whose a_t_wantNight a_t_wantHouse a_t_wantWeight a_t_ahead a_t_best : Nat) (t_readMany : Int32) (t_length : Int32) (t_at : Int32) (t_faultAt : Int32) (t_year : Int32) (t_wordsNow : Int32) (t_mendChanges : Int32) (t_most : Int32) (t_above : Int32) (t_handing : Int32) (t_wants : Int32) (t_fines : (Nat → Int32)) (t_isKept : (Nat → Int32)) (t_keptFines : (Nat → Int32)) (t_keptPlan : (Nat → Int32)) (t_keptTimes : (Nat → Int32)) (t_paperMany : (Nat → Int32)) (t_papers : (Nat → Int32)) (t_plan : (Nat → Int32)) (t_times : (Nat → Int32)) (p1 : Int32) (rr : Int32) (o1 : (Nat → Int32)) (o2 : (Nat → Int32)) (o3 : (Nat → Int32)) (o4 : (Nat → Int32)) (o5 : (Nat → Int32)) (h : fn_X9_again t_fines t_isKept t_keptFines t_keptPlan t_keptTimes t_paperMany t_papers t_plan t_times p1 = some (rr, o1, o2, o3, o4, o5)) : zz_M l yX9_again wsX9_again ({ frames := 1, cells := 0, slots := 0, locals := 25 }) (dC, dI) (zz_T cI cJ cB cZ) [.ref a_t, .int p1] [(a_t, .inr (8, [.ref a_t_read, .int t_readMany, .ref a_t_papers, .ref a_t_paperMany, .ref a_t_text, .int t_length, .int t_at, .int t_faultAt, .int t_year, .int t_wordsNow, .ref a_t_whose, .int t_mendChanges, .ref a_t_plan, .int t_most, .int t_above, .int t_handing, .int t_wants, .ref a_t_wantNight, .ref a_t_wantHouse, .ref a_t_wantWeight, .ref a_t_ahead, .ref a_t_best, .ref a_t_fines, .ref a_t_times, .ref a_t_isKept, .ref a_t_keptPlan, .ref a_t_keptFines, .ref a_t_keptTimes])), (a_t_fines, .inl (cI, 2, .inl t_fines)), (a_t_isKept, .inl (cZ, 2, .inl t_isKept)), (a_t_keptFines, .inl (cI, 4, .inl t_keptFines)), (a_t_keptPlan, .inl (cI, 112, .inl t_keptPlan)), (a_t_keptTimes, .inl (cI, 4, .inl t_keptTimes)), (a_t_paperMany, .inl (cI, 3, .inl t_paperMany)), (a_t_papers, .inl (cI, 180, .inl t_papers)), (a_t_plan, .inl (cI, 56, .inl t_plan)), (a_t_times, .inl (cI, 2, .inl t_times))] (zz_QI (dC, dI) (zz_T cI cJ cB cZ) (rr, o1, o2, o3, o4, o5) (fun (u : (Nat → Int32) × (Nat → Int32) × (Nat → Int32) × (Nat → Int32) × (Nat → Int32)) => [(a_t, .inr (8, [.ref a_t_read, .int t_readMany, .ref a_t_papers, .ref a_t_paperMany, .ref a_t_text, .int t_length, .int t_at, .int t_faultAt, .int t_year, .int t_wordsNow, .ref a_t_whose, .int t_mendChanges, .ref a_t_plan, .int t_most, .int t_above, .int t_handing, .int t_wants, .ref a_t_wantNight, .ref a_t_wantHouse, .ref a_t_wantWeight, .ref a_t_ahead, .ref a_t_best, .ref a_t_fines, .ref a_t_times, .ref a_t_isKept, .ref a_t_keptPlan, .ref a_t_keptFines, .ref a_t_keptTimes])), (a_t_fines, .inl (cI, 2, .inl u.1)), (a_t_isKept, .inl (cZ, 2, .inl t_isKept)), (a_t_keptFines, .inl (cI, 4, .inl t_keptFines)), (a_t_keptPlan, .inl (cI, 112, .inl t_keptPlan)), (a_t_keptTimes, .inl (cI, 4, .inl t_keptTimes)), (a_t_paperMany, .inl (cI, 3, .inl u.2.1)), (a_t_papers, .inl (cI, 180, .inl u.2.2.1)), (a_t_plan, .inl (cI, 56, .inl u.2.2.2.1)), (a_t_times, .inl (cI, 2, .inl u.2.2.2.2))])) := by
  unfold fn_X9_again at h
  refine zz_of (by decide) rfl (Nat.le_of_ble_eq_true rfl) ?_
  intro p e s m below meth c A ls hx hb hr hml hts hown hlocks hA hS hP hK hD hl
  have hown : s.vm.findClass RX9 = some m.cls := hown
  have hl : lv_has ls 3 [(0, .ref a_t), (1, .int p1)] := hl
  refine lv_iload_n hx hb dX9_again_0 rfl (lv_at hl 1 rfl) ?_
  refine lv_i2l (v := p1.toInt64) hx hb dX9_again_1 rfl ?_
  refine lv_lconst (v := 0) hx hb dX9_again_2 (by decide) ?_
  refine lv_lconst (v := 1) hx hb dX9_again_3 (by decide) ?_
  obtain ⟨x1, u2, he3, h⟩ := zz_b2E h
  refine zz_PI (As := [.long p1.toInt64, .long 0, .long 1]) (rest := []) ⟨hx, hb, hml, hown, hts⟩ (ct_X9_in l dC dI cI cJ cB cZ p1.toInt64 (0 : Int64) (1 : Int64) x1 u2 he3) gX9_again_X9_in hd_X9_in rfl rfl rfl ⟨Nat.le_of_ble_eq_true rfl, Nat.le_of_ble_eq_true rfl⟩ ⟨Nat.le_of_ble_eq_true rfl, Nat.le_of_ble_eq_true rfl⟩ rfl rfl (Nat.le_of_ble_eq_true rfl) dX9_again_4 hl.1 hP hK hS hA (fun H locs hP hS => ?_)
  refine lv_if_ne (tgt := 12) hx hb dX9_again_7 (by decide) (fun c4 => ?_) (fun c4 => ?_)
  · have h := zz_ifn c4 h
    refine lv_aload_n hx hb dX9_again_12 rfl (lv_at hl 0 rfl) ?_
    refine va_get (ci := 8) (v := .ref a_t_isKept) (C := RX9) (T := TX9) (N := 28) hx hb hts in_X9_again_X9 hown hK hP 0 rfl rfl 24 (by decide) (hts _ lk_X9_again_0) (fun _ h9 => h9) rfl dX9_again_13 ?_
    refine lv_iload_n hx hb dX9_again_16 rfl (lv_at hl 1 rfl) ?_
    obtain ⟨hi5, h⟩ := zz_chkE h
    refine va_zald hx hb hK hP 2 3 rfl rfl hi5 dX9_again_17 ?_
    refine lv_if_ne (tgt := 24) hx hb dX9_again_18 (by decide) (fun c6 => ?_) (fun c6 => ?_)
    · have h := zz_ifn c6 h
      refine lv_aload_n hx hb dX9_again_24 rfl (lv_at hl 0 rfl) ?_
      refine va_get (ci := 8) (v := .ref a_t_paperMany) (C := RX9) (T := TX9) (N := 28) hx hb hts in_X9_again_X9 hown hK hP 0 rfl rfl 3 (by decide) (hts _ lk_X9_again_1) (fun _ h9 => h9) rfl dX9_again_25 ?_
      refine lv_iconst (v := 0) hx hb dX9_again_28 (by decide) ?_
      refine lv_aload_n hx hb dX9_again_29 rfl (lv_at hl 0 rfl) ?_
      refine va_get (ci := 8) (v := .ref a_t_paperMany) (C := RX9) (T := TX9) (N := 28) hx hb hts in_X9_again_X9 hown hK hP 0 rfl rfl 3 (by decide) (hts _ lk_X9_again_1) (fun _ h9 => h9) rfl dX9_again_30 ?_
      refine lv_iconst (v := 1) hx hb dX9_again_33 (by decide) ?_
      refine lv_iload_n hx hb dX9_again_34 rfl (lv_at hl 1 rfl) ?_
      refine lv_iadd hx hb dX9_again_35 ?_
      obtain ⟨hi7, h⟩ := zz_chkE h
      refine va_iald hx hb hK hP 6 0 rfl rfl hi7 dX9_again_36 ?_
      obtain ⟨hi8, h⟩ := zz_chkE h
      refine zz_iast hx hb hK hP hD hS 6 0 rfl rfl hi8 dX9_again_37 (fun g9 => [(a_t, .inr (8, [.ref a_t_read, .int t_readMany, .ref a_t_papers, .ref a_t_paperMany, .ref a_t_text, .int t_length, .int t_at, .int t_faultAt, .int t_year, .int t_wordsNow, .ref a_t_whose, .int t_mendChanges, .ref a_t_plan, .int t_most, .int t_above, .int t_handing, .int t_wants, .ref a_t_wantNight, .ref a_t_wantHouse, .ref a_t_wantWeight, .ref a_t_ahead, .ref a_t_best, .ref a_t_fines, .ref a_t_times, .ref a_t_isKept, .ref a_t_keptPlan, .ref a_t_keptFines, .ref a_t_keptTimes])), (a_t_fines, .inl (cI, 2, .inl t_fines)), (a_t_isKept, .inl (cZ, 2, .inl t_isKept)), (a_t_keptFines, .inl (cI, 4, .inl t_keptFines)), (a_t_keptPlan, .inl (cI, 112, .inl t_keptPlan)), (a_t_keptTimes, .inl (cI, 4, .inl t_keptTimes)), (a_t_paperMany, .inl (cI, 3, .inl g9)), (a_t_papers, .inl (cI, 180, .inl t_papers)), (a_t_plan, .inl (cI, 56, .inl t_plan)), (a_t_times, .inl (cI, 2, .inl t_times))]) (fun _ => rfl) (fun g9 H locs eg9 hP hD hS => ?_)
      have h := zz_nmE eg9 h
      refine lv_iconst (v := 0) hx hb dX9_again_38 (by decide) ?_
      refine lv_istore_n (lv' := [(2, .int 0), (0, .ref a_t), (1, .int p1)]) hx hb dX9_again_39 rfl hl (by decide) rfl (fun ls hl => ?_)
      obtain ⟨g22, hit21, h⟩ := zz_b1E h
      refine zz_cut (fun V => ∀ (H : Heap) (locs : List Loc) (ls : Array Slot), va_P (dC, dI) vwCl [(a_t, .inr (8, [.ref a_t_read, .int t_readMany, .ref a_t_papers, .ref a_t_paperMany, .ref a_t_text, .int t_length, .int t_at, .int t_faultAt, .int t_year, .int t_wordsNow, .ref a_t_whose, .int t_mendChanges, .ref a_t_plan, .int t_most, .int t_above, .int t_handing, .int t_wants, .ref a_t_wantNight, .ref a_t_wantHouse, .ref a_t_wantWeight, .ref a_t_ahead, .ref a_t_best, .ref a_t_fines, .ref a_t_times, .ref a_t_isKept, .ref a_t_keptPlan, .ref a_t_keptFines, .ref a_t_keptTimes])), (a_t_fines, .inl (cI, 2, .inl t_fines)), (a_t_isKept, .inl (cZ, 2, .inl t_isKept)), (a_t_keptFines, .inl (cI, 4, .inl t_keptFines)), (a_t_keptPlan, .inl (cI, 112, .inl t_keptPlan)), (a_t_keptTimes, .inl (cI, 4, .inl t_keptTimes)), (a_t_paperMany, .inl (cI, 3, .inl g9)), (a_t_papers, .inl (cI, 180, .inl g22)), (a_t_plan, .inl (cI, 56, .inl t_plan)), (a_t_times, .inl (cI, 2, .inl t_times))] H → va_D A [(a_t, .inr (8, [.ref a_t_read, .int t_readMany, .ref a_t_papers, .ref a_t_paperMany, .ref a_t_text, .int t_length, .int t_at, .int t_faultAt, .int t_year, .int t_wordsNow, .ref a_t_whose, .int t_mendChanges, .ref a_t_plan, .int t_most, .int t_above, .int t_handing, .int t_wants, .ref a_t_wantNight, .ref a_t_wantHouse, .ref a_t_wantWeight, .ref a_t_ahead, .ref a_t_best, .ref a_t_fines, .ref a_t_times, .ref a_t_isKept, .ref a_t_keptPlan, .ref a_t_keptFines, .ref a_t_keptTimes])), (a_t_fines, .inl (cI, 2, .inl t_fines)), (a_t_isKept, .inl (cZ, 2, .inl t_isKept)), (a_t_keptFines, .inl (cI, 4, .inl t_keptFines)), (a_t_keptPlan, .inl (cI, 112, .inl t_keptPlan)), (a_t_keptTimes, .inl (cI, 4, .inl t_keptTimes)), (a_t_paperMany, .inl (cI, 3, .inl g9)), (a_t_papers, .inl (cI, 180, .inl g22)), (a_t_plan, .inl (cI, 56, .inl t_plan)), (a_t_times, .inl (cI, 2, .inl t_times))] → va_S A s.heap H locs → lv_has ls 3 [(0, .ref a_t), (1, .int p1)] → V H locs (F0 m 72 ls [])) ?_ (fun hE21 => ?_)
      · intro H locs ls hP hD hS hl
        refine lv_iconst (v := 0) hx hb dX9_again_72 (by decide) ?_
        refine lv_istore_n (lv' := [(2, .int 0), (0, .ref a_t), (1, .int p1)]) hx hb dX9_again_73 rfl hl (by decide) rfl (fun ls hl => ?_)
        obtain ⟨g35, hit34, h⟩ := zz_b1E h
        refine zz_cut (fun V => ∀ (H : Heap) (locs : List Loc) (ls : Array Slot), va_P (dC, dI) vwCl [(a_t, .inr (8, [.ref a_t_read, .int t_readMany, .ref a_t_papers, .ref a_t_paperMany, .ref a_t_text, .int t_length, .int t_at, .int t_faultAt, .int t_year, .int t_wordsNow, .ref a_t_whose, .int t_mendChanges, .ref a_t_plan, .int t_most, .int t_above, .int t_handing, .int t_wants, .ref a_t_wantNight, .ref a_t_wantHouse, .ref a_t_wantWeight, .ref a_t_ahead, .ref a_t_best, .ref a_t_fines, .ref a_t_times, .ref a_t_isKept, .ref a_t_keptPlan, .ref a_t_keptFines, .ref a_t_keptTimes])), (a_t_fines, .inl (cI, 2, .inl t_fines)), (a_t_isKept, .inl (cZ, 2, .inl t_isKept)), (a_t_keptFines, .inl (cI, 4, .inl t_keptFines)), (a_t_keptPlan, .inl (cI, 112, .inl t_keptPlan)), (a_t_keptTimes, .inl (cI, 4, .inl t_keptTimes)), (a_t_paperMany, .inl (cI, 3, .inl g9)), (a_t_papers, .inl (cI, 180, .inl g22)), (a_t_plan, .inl (cI, 56, .inl g35)), (a_t_times, .inl (cI, 2, .inl t_times))] H → va_D A [(a_t, .inr (8, [.ref a_t_read, .int t_readMany, .ref a_t_papers, .ref a_t_paperMany, .ref a_t_text, .int t_length, .int t_at, .int t_faultAt, .int t_year, .int t_wordsNow, .ref a_t_whose, .int t_mendChanges, .ref a_t_plan, .int t_most, .int t_above, .int t_handing, .int t_wants, .ref a_t_wantNight, .ref a_t_wantHouse, .ref a_t_wantWeight, .ref a_t_ahead, .ref a_t_best, .ref a_t_fines, .ref a_t_times, .ref a_t_isKept, .ref a_t_keptPlan, .ref a_t_keptFines, .ref a_t_keptTimes])), (a_t_fines, .inl (cI, 2, .inl t_fines)), (a_t_isKept, .inl (cZ, 2, .inl t_isKept)), (a_t_keptFines, .inl (cI, 4, .inl t_keptFines)), (a_t_keptPlan, .inl (cI, 112, .inl t_keptPlan)), (a_t_keptTimes, .inl (cI, 4, .inl t_keptTimes)), (a_t_paperMany, .inl (cI, 3, .inl g9)), (a_t_papers, .inl (cI, 180, .inl g22)), (a_t_plan, .inl (cI, 56, .inl g35)), (a_t_times, .inl (cI, 2, .inl t_times))] → va_S A s.heap H locs → lv_has ls 3 [(0, .ref a_t), (1, .int p1)] → V H locs (F0 m 103 ls [])) ?_ (fun hE34 => ?_)
        · intro H locs ls hP hD hS hl
          refine lv_iconst (v := 0) hx hb dX9_again_103 (by decide) ?_
          refine lv_istore_n (lv' := [(2, .int 0), (0, .ref a_t), (1, .int p1)]) hx hb dX9_again_104 rfl hl (by decide) rfl (fun ls hl => ?_)
          obtain ⟨g55, g56, hit54, h⟩ := zz_b2E h
          refine zz_cut (fun V => ∀ (H : Heap) (locs : List Loc) (ls : Array Slot), va_P (dC, dI) vwCl [(a_t, .inr (8, [.ref a_t_read, .int t_readMany, .ref a_t_papers, .ref a_t_paperMany, .ref a_t_text, .int t_length, .int t_at, .int t_faultAt, .int t_year, .int t_wordsNow, .ref a_t_whose, .int t_mendChanges, .ref a_t_plan, .int t_most, .int t_above, .int t_handing, .int t_wants, .ref a_t_wantNight, .ref a_t_wantHouse, .ref a_t_wantWeight, .ref a_t_ahead, .ref a_t_best, .ref a_t_fines, .ref a_t_times, .ref a_t_isKept, .ref a_t_keptPlan, .ref a_t_keptFines, .ref a_t_keptTimes])), (a_t_fines, .inl (cI, 2, .inl g55)), (a_t_isKept, .inl (cZ, 2, .inl t_isKept)), (a_t_keptFines, .inl (cI, 4, .inl t_keptFines)), (a_t_keptPlan, .inl (cI, 112, .inl t_keptPlan)), (a_t_keptTimes, .inl (cI, 4, .inl t_keptTimes)), (a_t_paperMany, .inl (cI, 3, .inl g9)), (a_t_papers, .inl (cI, 180, .inl g22)), (a_t_plan, .inl (cI, 56, .inl g35)), (a_t_times, .inl (cI, 2, .inl g56))] H → va_D A [(a_t, .inr (8, [.ref a_t_read, .int t_readMany, .ref a_t_papers, .ref a_t_paperMany, .ref a_t_text, .int t_length, .int t_at, .int t_faultAt, .int t_year, .int t_wordsNow, .ref a_t_whose, .int t_mendChanges, .ref a_t_plan, .int t_most, .int t_above, .int t_handing, .int t_wants, .ref a_t_wantNight, .ref a_t_wantHouse, .ref a_t_wantWeight, .ref a_t_ahead, .ref a_t_best, .ref a_t_fines, .ref a_t_times, .ref a_t_isKept, .ref a_t_keptPlan, .ref a_t_keptFines, .ref a_t_keptTimes])), (a_t_fines, .inl (cI, 2, .inl g55)), (a_t_isKept, .inl (cZ, 2, .inl t_isKept)), (a_t_keptFines, .inl (cI, 4, .inl t_keptFines)), (a_t_keptPlan, .inl (cI, 112, .inl t_keptPlan)), (a_t_keptTimes, .inl (cI, 4, .inl t_keptTimes)), (a_t_paperMany, .inl (cI, 3, .inl g9)), (a_t_papers, .inl (cI, 180, .inl g22)), (a_t_plan, .inl (cI, 56, .inl g35)), (a_t_times, .inl (cI, 2, .inl g56))] → va_S A s.heap H locs → lv_has ls 3 [(0, .ref a_t)] → V H locs (F0 m 148 ls [])) ?_ (fun hE54 => ?_)
          · intro H locs ls hP hD hS hl
            refine lv_aload_n hx hb dX9_again_148 rfl (lv_at hl 0 rfl) ?_
            refine va_get (ci := 8) (v := .ref a_t_paperMany) (C := RX9) (T := TX9) (N := 28) hx hb hts in_X9_again_X9 hown hK hP 0 rfl rfl 3 (by decide) (hts _ lk_X9_again_1) (fun _ h9 => h9) rfl dX9_again_149 ?_
            refine lv_iconst (v := 0) hx hb dX9_again_152 (by decide) ?_
            obtain ⟨hi57, h⟩ := zz_chkE h
            refine va_iald hx hb hK hP 6 0 rfl rfl hi57 dX9_again_153 ?_
            exact zz_iret (g55, g9, g22, g35, g56) hx hb hr hlocks dX9_again_154 (Option.some.inj h) hP hK hD hS
          refine zz_cut (fun V => ∀ (n : Nat) (x52 : Int32) (g53 : (Nat → Int32)) (g54 : (Nat → Int32)) (H : Heap) (locs : List Loc) (ls : Array Slot), zz_it (fun z => fb_X9_again_105 p1 t_keptFines t_keptTimes z.1 z.2.1 z.2.2) n (x52, g53, g54) = some (g55, g56) → va_P (dC, dI) vwCl [(a_t, .inr (8, [.ref a_t_read, .int t_readMany, .ref a_t_papers, .ref a_t_paperMany, .ref a_t_text, .int t_length, .int t_at, .int t_faultAt, .int t_year, .int t_wordsNow, .ref a_t_whose, .int t_mendChanges, .ref a_t_plan, .int t_most, .int t_above, .int t_handing, .int t_wants, .ref a_t_wantNight, .ref a_t_wantHouse, .ref a_t_wantWeight, .ref a_t_ahead, .ref a_t_best, .ref a_t_fines, .ref a_t_times, .ref a_t_isKept, .ref a_t_keptPlan, .ref a_t_keptFines, .ref a_t_keptTimes])), (a_t_fines, .inl (cI, 2, .inl g53)), (a_t_isKept, .inl (cZ, 2, .inl t_isKept)), (a_t_keptFines, .inl (cI, 4, .inl t_keptFines)), (a_t_keptPlan, .inl (cI, 112, .inl t_keptPlan)), (a_t_keptTimes, .inl (cI, 4, .inl t_keptTimes)), (a_t_paperMany, .inl (cI, 3, .inl g9)), (a_t_papers, .inl (cI, 180, .inl g22)), (a_t_plan, .inl (cI, 56, .inl g35)), (a_t_times, .inl (cI, 2, .inl g54))] H → va_D A [(a_t, .inr (8, [.ref a_t_read, .int t_readMany, .ref a_t_papers, .ref a_t_paperMany, .ref a_t_text, .int t_length, .int t_at, .int t_faultAt, .int t_year, .int t_wordsNow, .ref a_t_whose, .int t_mendChanges, .ref a_t_plan, .int t_most, .int t_above, .int t_handing, .int t_wants, .ref a_t_wantNight, .ref a_t_wantHouse, .ref a_t_wantWeight, .ref a_t_ahead, .ref a_t_best, .ref a_t_fines, .ref a_t_times, .ref a_t_isKept, .ref a_t_keptPlan, .ref a_t_keptFines, .ref a_t_keptTimes])), (a_t_fines, .inl (cI, 2, .inl g53)), (a_t_isKept, .inl (cZ, 2, .inl t_isKept)), (a_t_keptFines, .inl (cI, 4, .inl t_keptFines)), (a_t_keptPlan, .inl (cI, 112, .inl t_keptPlan)), (a_t_keptTimes, .inl (cI, 4, .inl t_keptTimes)), (a_t_paperMany, .inl (cI, 3, .inl g9)), (a_t_papers, .inl (cI, 180, .inl g22)), (a_t_plan, .inl (cI, 56, .inl g35)), (a_t_times, .inl (cI, 2, .inl g54))] → va_S A s.heap H locs → lv_has ls 3 [(0, .ref a_t), (1, .int p1), (2, .int x52)] → V H locs (F0 m 105 ls [])) ?_ (fun hL54 => ?_)
          · intro n
            induction n with
            | zero => intro x52 g53 g54 H locs ls hit54; exact (zz_it0 hit54).elim
            | succ n ih54 =>
              intro x52 g53 g54 H locs ls hit54 hP hD hS hl
              obtain ⟨y54, hb54, hy54⟩ := zz_itE hit54
              have hb54 : fb_X9_again_105 p1 t_keptFines t_keptTimes x52 g53 g54 = some y54 := hb54
              unfold fb_X9_again_105 at hb54
              refine lv_iload_n hx hb dX9_again_105 rfl (lv_at hl 2 rfl) ?_
              refine lv_iconst (v := 2) hx hb dX9_again_106 (by decide) ?_
              refine lv_icmp_ge (tgt := 148) hx hb dX9_again_107 (by decide) (fun c58 => ?_) (fun c58 => ?_)
              · have hb54 := zz_if c58 hb54
                obtain rfl := Option.some.inj hb54
                have hy54 := Option.some.inj hy54
                cases hy54
                exact hE54 _ _ ls hP hD hS (lv_sub hl [0] rfl)
              · have hb54 := zz_ifn c58 hb54
                refine lv_aload_n hx hb dX9_again_110 rfl (lv_at hl 0 rfl) ?_
                refine va_get (ci := 8) (v := .ref a_t_fines) (C := RX9) (T := TX9) (N := 28) hx hb hts in_X9_again_X9 hown hK hP 0 rfl rfl 22 (by decide) (hts _ lk_X9_again_5) (fun _ h9 => h9) rfl dX9_again_111 ?_
                refine lv_iload_n hx hb dX9_again_114 rfl (lv_at hl 2 rfl) ?_
                refine lv_aload_n hx hb dX9_again_115 rfl (lv_at hl 0 rfl) ?_
                refine va_get (ci := 8) (v := .ref a_t_keptFines) (C := RX9) (T := TX9) (N := 28) hx hb hts in_X9_again_X9 hown hK hP 0 rfl rfl 26 (by decide) (hts _ lk_X9_again_6) (fun _ h9 => h9) rfl dX9_again_116 ?_
                refine lv_iconst (v := 2) hx hb dX9_again_119 (by decide) ?_
                refine lv_iload_n hx hb dX9_again_120 rfl (lv_at hl 1 rfl) ?_
                refine lv_imul hx hb dX9_again_121 ?_
                refine lv_iload_n hx hb dX9_again_122 rfl (lv_at hl 2 rfl) ?_
                refine lv_iadd hx hb dX9_again_123 ?_
                obtain ⟨hi59, hb54⟩ := zz_chkE hb54
                refine va_iald hx hb hK hP 3 0 rfl rfl hi59 dX9_again_124 ?_
                obtain ⟨hi60, hb54⟩ := zz_chkE hb54
                refine zz_iast hx hb hK hP hD hS 1 0 rfl rfl hi60 dX9_again_125 (fun g61 => [(a_t, .inr (8, [.ref a_t_read, .int t_readMany, .ref a_t_papers, .ref a_t_paperMany, .ref a_t_text, .int t_length, .int t_at, .int t_faultAt, .int t_year, .int t_wordsNow, .ref a_t_whose, .int t_mendChanges, .ref a_t_plan, .int t_most, .int t_above, .int t_handing, .int t_wants, .ref a_t_wantNight, .ref a_t_wantHouse, .ref a_t_wantWeight, .ref a_t_ahead, .ref a_t_best, .ref a_t_fines, .ref a_t_times, .ref a_t_isKept, .ref a_t_keptPlan, .ref a_t_keptFines, .ref a_t_keptTimes])), (a_t_fines, .inl (cI, 2, .inl g61)), (a_t_isKept, .inl (cZ, 2, .inl t_isKept)), (a_t_keptFines, .inl (cI, 4, .inl t_keptFines)), (a_t_keptPlan, .inl (cI, 112, .inl t_keptPlan)), (a_t_keptTimes, .inl (cI, 4, .inl t_keptTimes)), (a_t_paperMany, .inl (cI, 3, .inl g9)), (a_t_papers, .inl (cI, 180, .inl g22)), (a_t_plan, .inl (cI, 56, .inl g35)), (a_t_times, .inl (cI, 2, .inl g54))]) (fun _ => rfl) (fun g61 H locs eg61 hP hD hS => ?_)
                have hb54 := zz_nmE eg61 hb54
                refine lv_aload_n hx hb dX9_again_126 rfl (lv_at hl 0 rfl) ?_
                refine va_get (ci := 8) (v := .ref a_t_times) (C := RX9) (T := TX9) (N := 28) hx hb hts in_X9_again_X9 hown hK hP 0 rfl rfl 23 (by decide) (hts _ lk_X9_again_7) (fun _ h9 => h9) rfl dX9_again_127 ?_
                refine lv_iload_n hx hb dX9_again_130 rfl (lv_at hl 2 rfl) ?_
                refine lv_aload_n hx hb dX9_again_131 rfl (lv_at hl 0 rfl) ?_
                refine va_get (ci := 8) (v := .ref a_t_keptTimes) (C := RX9) (T := TX9) (N := 28) hx hb hts in_X9_again_X9 hown hK hP 0 rfl rfl 27 (by decide) (hts _ lk_X9_again_8) (fun _ h9 => h9) rfl dX9_again_132 ?_
                refine lv_iconst (v := 2) hx hb dX9_again_135 (by decide) ?_
                refine lv_iload_n hx hb dX9_again_136 rfl (lv_at hl 1 rfl) ?_
                refine lv_imul hx hb dX9_again_137 ?_
                refine lv_iload_n hx hb dX9_again_138 rfl (lv_at hl 2 rfl) ?_
                refine lv_iadd hx hb dX9_again_139 ?_
                obtain ⟨hi62, hb54⟩ := zz_chkE hb54
                refine va_iald hx hb hK hP 5 0 rfl rfl hi62 dX9_again_140 ?_
                obtain ⟨hi63, hb54⟩ := zz_chkE hb54
                refine zz_iast hx hb hK hP hD hS 9 0 rfl rfl hi63 dX9_again_141 (fun g64 => [(a_t, .inr (8, [.ref a_t_read, .int t_readMany, .ref a_t_papers, .ref a_t_paperMany, .ref a_t_text, .int t_length, .int t_at, .int t_faultAt, .int t_year, .int t_wordsNow, .ref a_t_whose, .int t_mendChanges, .ref a_t_plan, .int t_most, .int t_above, .int t_handing, .int t_wants, .ref a_t_wantNight, .ref a_t_wantHouse, .ref a_t_wantWeight, .ref a_t_ahead, .ref a_t_best, .ref a_t_fines, .ref a_t_times, .ref a_t_isKept, .ref a_t_keptPlan, .ref a_t_keptFines, .ref a_t_keptTimes])), (a_t_fines, .inl (cI, 2, .inl g61)), (a_t_isKept, .inl (cZ, 2, .inl t_isKept)), (a_t_keptFines, .inl (cI, 4, .inl t_keptFines)), (a_t_keptPlan, .inl (cI, 112, .inl t_keptPlan)), (a_t_keptTimes, .inl (cI, 4, .inl t_keptTimes)), (a_t_paperMany, .inl (cI, 3, .inl g9)), (a_t_papers, .inl (cI, 180, .inl g22)), (a_t_plan, .inl (cI, 56, .inl g35)), (a_t_times, .inl (cI, 2, .inl g64))]) (fun _ => rfl) (fun g64 H locs eg64 hP hD hS => ?_)
                have hb54 := zz_nmE eg64 hb54
                obtain ⟨x65, ex65⟩ : ∃ z : Int32, z = x52 + 1 := ⟨_, rfl⟩
                have hb54 := zz_nmE ex65 hb54
                refine lv_iinc (v := x65) (lv' := [(2, .int x65), (0, .ref a_t), (1, .int p1)]) hx hb dX9_again_142 hl (k := 2) rfl (by rw [ex65]; rfl) (by decide) rfl (fun ls hl => ?_)
                refine lv_goto (tgt := 105) hx hb dX9_again_145 (by decide) ?_
                obtain rfl := Option.some.inj hb54
                exact ih54 x65 g61 g64 _ _ ls hy54 hP hD hS (lv_sub hl [1, 2, 0] rfl)
          exact hL54 zz_fuel 0 t_fines t_times _ _ ls hit54 hP hD hS (lv_sub hl [1, 2, 0] rfl)
        refine zz_cut (fun V => ∀ (n : Nat) (x33 : Int32) (g34 : (Nat → Int32)) (H : Heap) (locs : List Loc) (ls : Array Slot), zz_it (fun z => fb_X9_again_74 p1 t_keptPlan z.1 z.2) n (x33, g34) = some g35 → va_P (dC, dI) vwCl [(a_t, .inr (8, [.ref a_t_read, .int t_readMany, .ref a_t_papers, .ref a_t_paperMany, .ref a_t_text, .int t_length, .int t_at, .int t_faultAt, .int t_year, .int t_wordsNow, .ref a_t_whose, .int t_mendChanges, .ref a_t_plan, .int t_most, .int t_above, .int t_handing, .int t_wants, .ref a_t_wantNight, .ref a_t_wantHouse, .ref a_t_wantWeight, .ref a_t_ahead, .ref a_t_best, .ref a_t_fines, .ref a_t_times, .ref a_t_isKept, .ref a_t_keptPlan, .ref a_t_keptFines, .ref a_t_keptTimes])), (a_t_fines, .inl (cI, 2, .inl t_fines)), (a_t_isKept, .inl (cZ, 2, .inl t_isKept)), (a_t_keptFines, .inl (cI, 4, .inl t_keptFines)), (a_t_keptPlan, .inl (cI, 112, .inl t_keptPlan)), (a_t_keptTimes, .inl (cI, 4, .inl t_keptTimes)), (a_t_paperMany, .inl (cI, 3, .inl g9)), (a_t_papers, .inl (cI, 180, .inl g22)), (a_t_plan, .inl (cI, 56, .inl g34)), (a_t_times, .inl (cI, 2, .inl t_times))] H → va_D A [(a_t, .inr (8, [.ref a_t_read, .int t_readMany, .ref a_t_papers, .ref a_t_paperMany, .ref a_t_text, .int t_length, .int t_at, .int t_faultAt, .int t_year, .int t_wordsNow, .ref a_t_whose, .int t_mendChanges, .ref a_t_plan, .int t_most, .int t_above, .int t_handing, .int t_wants, .ref a_t_wantNight, .ref a_t_wantHouse, .ref a_t_wantWeight, .ref a_t_ahead, .ref a_t_best, .ref a_t_fines, .ref a_t_times, .ref a_t_isKept, .ref a_t_keptPlan, .ref a_t_keptFines, .ref a_t_keptTimes])), (a_t_fines, .inl (cI, 2, .inl t_fines)), (a_t_isKept, .inl (cZ, 2, .inl t_isKept)), (a_t_keptFines, .inl (cI, 4, .inl t_keptFines)), (a_t_keptPlan, .inl (cI, 112, .inl t_keptPlan)), (a_t_keptTimes, .inl (cI, 4, .inl t_keptTimes)), (a_t_paperMany, .inl (cI, 3, .inl g9)), (a_t_papers, .inl (cI, 180, .inl g22)), (a_t_plan, .inl (cI, 56, .inl g34)), (a_t_times, .inl (cI, 2, .inl t_times))] → va_S A s.heap H locs → lv_has ls 3 [(0, .ref a_t), (1, .int p1), (2, .int x33)] → V H locs (F0 m 74 ls [])) ?_ (fun hL34 => ?_)
        · intro n
          induction n with
          | zero => intro x33 g34 H locs ls hit34; exact (zz_it0 hit34).elim
          | succ n ih34 =>
            intro x33 g34 H locs ls hit34 hP hD hS hl
            obtain ⟨y34, hb34, hy34⟩ := zz_itE hit34
            have hb34 : fb_X9_again_74 p1 t_keptPlan x33 g34 = some y34 := hb34
            unfold fb_X9_again_74 at hb34
            refine lv_iload_n hx hb dX9_again_74 rfl (lv_at hl 2 rfl) ?_
            refine lv_bipush (v := 56) hx hb dX9_again_75 (by decide) ?_
            refine lv_icmp_ge (tgt := 103) hx hb dX9_again_77 (by decide) (fun c66 => ?_) (fun c66 => ?_)
            · have hb34 := zz_if c66 hb34
              obtain rfl := Option.some.inj hb34
              have hy34 := Option.some.inj hy34
              cases hy34
              exact hE34 _ _ ls hP hD hS (lv_sub hl [0, 1] rfl)
            · have hb34 := zz_ifn c66 hb34
              refine lv_aload_n hx hb dX9_again_80 rfl (lv_at hl 0 rfl) ?_
              refine va_get (ci := 8) (v := .ref a_t_plan) (C := RX9) (T := TX9) (N := 28) hx hb hts in_X9_again_X9 hown hK hP 0 rfl rfl 12 (by decide) (hts _ lk_X9_again_3) (fun _ h9 => h9) rfl dX9_again_81 ?_
              refine lv_iload_n hx hb dX9_again_84 rfl (lv_at hl 2 rfl) ?_
              refine lv_aload_n hx hb dX9_again_85 rfl (lv_at hl 0 rfl) ?_
              refine va_get (ci := 8) (v := .ref a_t_keptPlan) (C := RX9) (T := TX9) (N := 28) hx hb hts in_X9_again_X9 hown hK hP 0 rfl rfl 25 (by decide) (hts _ lk_X9_again_4) (fun _ h9 => h9) rfl dX9_again_86 ?_
              refine lv_bipush (v := 56) hx hb dX9_again_89 (by decide) ?_
              refine lv_iload_n hx hb dX9_again_91 rfl (lv_at hl 1 rfl) ?_
              refine lv_imul hx hb dX9_again_92 ?_
              refine lv_iload_n hx hb dX9_again_93 rfl (lv_at hl 2 rfl) ?_
              refine lv_iadd hx hb dX9_again_94 ?_
              obtain ⟨hi67, hb34⟩ := zz_chkE hb34
              refine va_iald hx hb hK hP 4 0 rfl rfl hi67 dX9_again_95 ?_
              obtain ⟨hi68, hb34⟩ := zz_chkE hb34
              refine zz_iast hx hb hK hP hD hS 8 0 rfl rfl hi68 dX9_again_96 (fun g69 => [(a_t, .inr (8, [.ref a_t_read, .int t_readMany, .ref a_t_papers, .ref a_t_paperMany, .ref a_t_text, .int t_length, .int t_at, .int t_faultAt, .int t_year, .int t_wordsNow, .ref a_t_whose, .int t_mendChanges, .ref a_t_plan, .int t_most, .int t_above, .int t_handing, .int t_wants, .ref a_t_wantNight, .ref a_t_wantHouse, .ref a_t_wantWeight, .ref a_t_ahead, .ref a_t_best, .ref a_t_fines, .ref a_t_times, .ref a_t_isKept, .ref a_t_keptPlan, .ref a_t_keptFines, .ref a_t_keptTimes])), (a_t_fines, .inl (cI, 2, .inl t_fines)), (a_t_isKept, .inl (cZ, 2, .inl t_isKept)), (a_t_keptFines, .inl (cI, 4, .inl t_keptFines)), (a_t_keptPlan, .inl (cI, 112, .inl t_keptPlan)), (a_t_keptTimes, .inl (cI, 4, .inl t_keptTimes)), (a_t_paperMany, .inl (cI, 3, .inl g9)), (a_t_papers, .inl (cI, 180, .inl g22)), (a_t_plan, .inl (cI, 56, .inl g69)), (a_t_times, .inl (cI, 2, .inl t_times))]) (fun _ => rfl) (fun g69 H locs eg69 hP hD hS => ?_)
              have hb34 := zz_nmE eg69 hb34
              obtain ⟨x70, ex70⟩ : ∃ z : Int32, z = x33 + 1 := ⟨_, rfl⟩
              have hb34 := zz_nmE ex70 hb34
              refine lv_iinc (v := x70) (lv' := [(2, .int x70), (0, .ref a_t), (1, .int p1)]) hx hb dX9_again_97 hl (k := 2) rfl (by rw [ex70]; rfl) (by decide) rfl (fun ls hl => ?_)
              refine lv_goto (tgt := 74) hx hb dX9_again_100 (by decide) ?_
              obtain rfl := Option.some.inj hb34
              exact ih34 x70 g69 _ _ ls hy34 hP hD hS (lv_sub hl [1, 2, 0] rfl)
        exact hL34 zz_fuel 0 t_plan _ _ ls hit34 hP hD hS (lv_sub hl [1, 2, 0] rfl)
      refine zz_cut (fun V => ∀ (n : Nat) (x20 : Int32) (g21 : (Nat → Int32)) (H : Heap) (locs : List Loc) (ls : Array Slot), zz_it (fun z => fb_X9_again_40 p1 z.1 z.2) n (x20, g21) = some g22 → va_P (dC, dI) vwCl [(a_t, .inr (8, [.ref a_t_read, .int t_readMany, .ref a_t_papers, .ref a_t_paperMany, .ref a_t_text, .int t_length, .int t_at, .int t_faultAt, .int t_year, .int t_wordsNow, .ref a_t_whose, .int t_mendChanges, .ref a_t_plan, .int t_most, .int t_above, .int t_handing, .int t_wants, .ref a_t_wantNight, .ref a_t_wantHouse, .ref a_t_wantWeight, .ref a_t_ahead, .ref a_t_best, .ref a_t_fines, .ref a_t_times, .ref a_t_isKept, .ref a_t_keptPlan, .ref a_t_keptFines, .ref a_t_keptTimes])), (a_t_fines, .inl (cI, 2, .inl t_fines)), (a_t_isKept, .inl (cZ, 2, .inl t_isKept)), (a_t_keptFines, .inl (cI, 4, .inl t_keptFines)), (a_t_keptPlan, .inl (cI, 112, .inl t_keptPlan)), (a_t_keptTimes, .inl (cI, 4, .inl t_keptTimes)), (a_t_paperMany, .inl (cI, 3, .inl g9)), (a_t_papers, .inl (cI, 180, .inl g21)), (a_t_plan, .inl (cI, 56, .inl t_plan)), (a_t_times, .inl (cI, 2, .inl t_times))] H → va_D A [(a_t, .inr (8, [.ref a_t_read, .int t_readMany, .ref a_t_papers, .ref a_t_paperMany, .ref a_t_text, .int t_length, .int t_at, .int t_faultAt, .int t_year, .int t_wordsNow, .ref a_t_whose, .int t_mendChanges, .ref a_t_plan, .int t_most, .int t_above, .int t_handing, .int t_wants, .ref a_t_wantNight, .ref a_t_wantHouse, .ref a_t_wantWeight, .ref a_t_ahead, .ref a_t_best, .ref a_t_fines, .ref a_t_times, .ref a_t_isKept, .ref a_t_keptPlan, .ref a_t_keptFines, .ref a_t_keptTimes])), (a_t_fines, .inl (cI, 2, .inl t_fines)), (a_t_isKept, .inl (cZ, 2, .inl t_isKept)), (a_t_keptFines, .inl (cI, 4, .inl t_keptFines)), (a_t_keptPlan, .inl (cI, 112, .inl t_keptPlan)), (a_t_keptTimes, .inl (cI, 4, .inl t_keptTimes)), (a_t_paperMany, .inl (cI, 3, .inl g9)), (a_t_papers, .inl (cI, 180, .inl g21)), (a_t_plan, .inl (cI, 56, .inl t_plan)), (a_t_times, .inl (cI, 2, .inl t_times))] → va_S A s.heap H locs → lv_has ls 3 [(0, .ref a_t), (1, .int p1), (2, .int x20)] → V H locs (F0 m 40 ls [])) ?_ (fun hL21 => ?_)
      · intro n
        induction n with
        | zero => intro x20 g21 H locs ls hit21; exact (zz_it0 hit21).elim
        | succ n ih21 =>
          intro x20 g21 H locs ls hit21 hP hD hS hl
          obtain ⟨y21, hb21, hy21⟩ := zz_itE hit21
          have hb21 : fb_X9_again_40 p1 x20 g21 = some y21 := hb21
          unfold fb_X9_again_40 at hb21
          refine lv_iload_n hx hb dX9_again_40 rfl (lv_at hl 2 rfl) ?_
          refine lv_bipush (v := 60) hx hb dX9_again_41 (by decide) ?_
          refine lv_icmp_ge (tgt := 72) hx hb dX9_again_43 (by decide) (fun c71 => ?_) (fun c71 => ?_)
          · have hb21 := zz_if c71 hb21
            obtain rfl := Option.some.inj hb21
            have hy21 := Option.some.inj hy21
            cases hy21
            exact hE21 _ _ ls hP hD hS (lv_sub hl [0, 1] rfl)
          · have hb21 := zz_ifn c71 hb21
            refine lv_aload_n hx hb dX9_again_46 rfl (lv_at hl 0 rfl) ?_
            refine va_get (ci := 8) (v := .ref a_t_papers) (C := RX9) (T := TX9) (N := 28) hx hb hts in_X9_again_X9 hown hK hP 0 rfl rfl 2 (by decide) (hts _ lk_X9_again_2) (fun _ h9 => h9) rfl dX9_again_47 ?_
            refine lv_iload_n hx hb dX9_again_50 rfl (lv_at hl 2 rfl) ?_
            refine lv_aload_n hx hb dX9_again_51 rfl (lv_at hl 0 rfl) ?_
            refine va_get (ci := 8) (v := .ref a_t_papers) (C := RX9) (T := TX9) (N := 28) hx hb hts in_X9_again_X9 hown hK hP 0 rfl rfl 2 (by decide) (hts _ lk_X9_again_2) (fun _ h9 => h9) rfl dX9_again_52 ?_
            refine lv_bipush (v := 60) hx hb dX9_again_55 (by decide) ?_
            refine lv_bipush (v := 60) hx hb dX9_again_57 (by decide) ?_
            refine lv_iload_n hx hb dX9_again_59 rfl (lv_at hl 1 rfl) ?_
            refine lv_imul hx hb dX9_again_60 ?_
            refine lv_iadd hx hb dX9_again_61 ?_
            refine lv_iload_n hx hb dX9_again_62 rfl (lv_at hl 2 rfl) ?_
            refine lv_iadd hx hb dX9_again_63 ?_
            obtain ⟨hi72, hb21⟩ := zz_chkE hb21
            refine va_iald hx hb hK hP 7 0 rfl rfl hi72 dX9_again_64 ?_
            obtain ⟨hi73, hb21⟩ := zz_chkE hb21
            refine zz_iast hx hb hK hP hD hS 7 0 rfl rfl hi73 dX9_again_65 (fun g74 => [(a_t, .inr (8, [.ref a_t_read, .int t_readMany, .ref a_t_papers, .ref a_t_paperMany, .ref a_t_text, .int t_length, .int t_at, .int t_faultAt, .int t_year, .int t_wordsNow, .ref a_t_whose, .int t_mendChanges, .ref a_t_plan, .int t_most, .int t_above, .int t_handing, .int t_wants, .ref a_t_wantNight, .ref a_t_wantHouse, .ref a_t_wantWeight, .ref a_t_ahead, .ref a_t_best, .ref a_t_fines, .ref a_t_times, .ref a_t_isKept, .ref a_t_keptPlan, .ref a_t_keptFines, .ref a_t_keptTimes])), (a_t_fines, .inl (cI, 2, .inl t_fines)), (a_t_isKept, .inl (cZ, 2, .inl t_isKept)), (a_t_keptFines, .inl (cI, 4, .inl t_keptFines)), (a_t_keptPlan, .inl (cI, 112, .inl t_keptPlan)), (a_t_keptTimes, .inl (cI, 4, .inl t_keptTimes)), (a_t_paperMany, .inl (cI, 3, .inl g9)), (a_t_papers, .inl (cI, 180, .inl g74)), (a_t_plan, .inl (cI, 56, .inl t_plan)), (a_t_times, .inl (cI, 2, .inl t_times))]) (fun _ => rfl) (fun g74 H locs eg74 hP hD hS => ?_)
            have hb21 := zz_nmE eg74 hb21
            obtain ⟨x75, ex75⟩ : ∃ z : Int32, z = x20 + 1 := ⟨_, rfl⟩
            have hb21 := zz_nmE ex75 hb21
            refine lv_iinc (v := x75) (lv' := [(2, .int x75), (0, .ref a_t), (1, .int p1)]) hx hb dX9_again_66 hl (k := 2) rfl (by rw [ex75]; rfl) (by decide) rfl (fun ls hl => ?_)
            refine lv_goto (tgt := 40) hx hb dX9_again_69 (by decide) ?_
            obtain rfl := Option.some.inj hb21
            exact ih21 x75 g74 _ _ ls hy21 hP hD hS (lv_sub hl [1, 2, 0] rfl)
      exact hL21 zz_fuel 0 t_papers _ _ ls hit21 hP hD hS (lv_sub hl [1, 2, 0] rfl)
    · have h := zz_if c6 h
      refine lv_bipush (v := (-3)) hx hb dX9_again_21 (by decide) ?_
      exact zz_iret (t_fines, t_paperMany, t_papers, t_plan, t_times) hx hb hr hlocks dX9_again_23 (Option.some.inj h) hP hK hD hS
  · have h := zz_if c4 h
    refine lv_iconst (v := (-1)) hx hb dX9_again_10 (by decide) ?_
    exact zz_iret (t_fines, t_paperMany, t_papers, t_plan, t_times) hx hb hr hlocks dX9_again_11 (Option.some.inj h) hP hK hD hS
theorem hd_X9_count : yX9_count.cls ≠ "java/lang/invoke/MethodHandle" ∧ yX9_count.cls ≠ "java/lang/invoke/VarHandle" ∧ (parseMethodDescriptor yX9_count.desc).map (fun d => d.parameters.length) = some 1 := by decide +kernel
set_option maxRecDepth 20000 in
theorem in_X9_count_X9 : ∀ w ∈ u_ws RX9 TX9 28, w ∈ wsX9_count := by decide +kernel
set_option maxRecDepth 20000 in
theorem lk_X9_count_0 : Cond.fieldLink RX9 22 "TwoHousesOneChildModel" "whose" "[I" ∈ wsX9_count := by decide +kernel
set_option maxRecDepth 20000 in
theorem lk_X9_count_1 : Cond.fieldLink RX9 25 "TwoHousesOneChildModel" "plan" "[I" ∈ wsX9_count := by decide +kernel
set_option maxRecDepth 20000 in
theorem lk_X9_count_2 : Cond.fieldLink RX9 81 "TwoHousesOneChildModel" "length" "I" ∈ wsX9_count := by decide +kernel
set_option maxRecDepth 20000 in
theorem lk_X9_count_3 : Cond.fieldLink RX9 16 "TwoHousesOneChildModel" "paperMany" "[I" ∈ wsX9_count := by decide +kernel
set_option maxRecDepth 20000 in
theorem lk_X9_count_4 : Cond.fieldLink RX9 153 "TwoHousesOneChildModel" "wants" "I" ∈ wsX9_count := by decide +kernel
set_option maxHeartbeats 4000000 in
set_option maxRecDepth 100000 in
theorem ct_X9_count (l : Launch) (dC : Nat → ClassId) (dI : Nat → Nat → Nat) (cI cJ cB cZ : ClassId) (a_t a_t_paperMany a_t_papers a_t_plan a_t_whose a_t_read a_t_text a_t_wantNight a_t_wantHouse a_t_wantWeight a_t_ahead a_t_best a_t_fines a_t_times a_t_isKept a_t_keptPlan a_t_keptFines a_t_keptTimes : Nat) (t_readMany : Int32) (t_length : Int32) (t_at : Int32) (t_faultAt : Int32) (t_year : Int32) (t_wordsNow : Int32) (t_mendChanges : Int32) (t_most : Int32) (t_above : Int32) (t_handing : Int32) (t_wants : Int32) (t_paperMany : (Nat → Int32)) (t_papers : (Nat → Int32)) (t_plan : (Nat → Int32)) (t_whose : (Nat → Int32)) (p1 : Int32) (rr : Int32) (o1 : Int32) (o2 : (Nat → Int32)) (h : fn_X9_count t_length t_year t_wordsNow t_wants t_paperMany t_papers t_plan t_whose p1 = some (rr, o1, o2)) : zz_M l yX9_count wsX9_count ({ frames := 4, cells := 0, slots := 0, locals := 104 }) (dC, dI) (zz_T cI cJ cB cZ) [.ref a_t, .int p1] [(a_t, .inr (8, [.ref a_t_read, .int t_readMany, .ref a_t_papers, .ref a_t_paperMany, .ref a_t_text, .int t_length, .int t_at, .int t_faultAt, .int t_year, .int t_wordsNow, .ref a_t_whose, .int t_mendChanges, .ref a_t_plan, .int t_most, .int t_above, .int t_handing, .int t_wants, .ref a_t_wantNight, .ref a_t_wantHouse, .ref a_t_wantWeight, .ref a_t_ahead, .ref a_t_best, .ref a_t_fines, .ref a_t_times, .ref a_t_isKept, .ref a_t_keptPlan, .ref a_t_keptFines, .ref a_t_keptTimes])), (a_t_paperMany, .inl (cI, 3, .inl t_paperMany)), (a_t_papers, .inl (cI, 180, .inl t_papers)), (a_t_plan, .inl (cI, 56, .inl t_plan)), (a_t_whose, .inl (cI, 56, .inl t_whose))] (zz_QI (dC, dI) (zz_T cI cJ cB cZ) (rr, o1, o2) (fun (u : Int32 × (Nat → Int32)) => [(a_t, .inr (8, [.ref a_t_read, .int t_readMany, .ref a_t_papers, .ref a_t_paperMany, .ref a_t_text, .int t_length, .int t_at, .int t_faultAt, .int t_year, .int u.1, .ref a_t_whose, .int t_mendChanges, .ref a_t_plan, .int t_most, .int t_above, .int t_handing, .int t_wants, .ref a_t_wantNight, .ref a_t_wantHouse, .ref a_t_wantWeight, .ref a_t_ahead, .ref a_t_best, .ref a_t_fines, .ref a_t_times, .ref a_t_isKept, .ref a_t_keptPlan, .ref a_t_keptFines, .ref a_t_keptTimes])), (a_t_paperMany, .inl (cI, 3, .inl t_paperMany)), (a_t_papers, .inl (cI, 180, .inl t_papers)), (a_t_plan, .inl (cI, 56, .inl t_plan)), (a_t_whose, .inl (cI, 56, .inl u.2))])) := by
  unfold fn_X9_count at h
  refine zz_of (by decide) rfl (Nat.le_of_ble_eq_true rfl) ?_
  intro p e s m below meth c A ls hx hb hr hml hts hown hlocks hA hS hP hK hD hl
  have hown : s.vm.findClass RX9 = some m.cls := hown
  have hl : lv_has ls 4 [(0, .ref a_t), (1, .int p1)] := hl
  refine lv_aload_n hx hb dX9_count_0 rfl (lv_at hl 0 rfl) ?_
  obtain ⟨x1, g2, he3, h⟩ := zz_b2E h
  refine zz_VV (q := (RX9, TX9, 28)) (As := []) (rest := []) (wr := [(a_t_plan, .inl (cI, 56, .inl t_plan))]) (wm := [(a_t, .inr (8, [.ref a_t_read, .int t_readMany, .ref a_t_papers, .ref a_t_paperMany, .ref a_t_text, .int t_length, .int t_at, .int t_faultAt, .int t_year, .int x1, .ref a_t_whose, .int t_mendChanges, .ref a_t_plan, .int t_most, .int t_above, .int t_handing, .int t_wants, .ref a_t_wantNight, .ref a_t_wantHouse, .ref a_t_wantWeight, .ref a_t_ahead, .ref a_t_best, .ref a_t_fines, .ref a_t_times, .ref a_t_isKept, .ref a_t_keptPlan, .ref a_t_keptFines, .ref a_t_keptTimes])), (a_t_paperMany, .inl (cI, 3, .inl t_paperMany)), (a_t_papers, .inl (cI, 180, .inl t_papers)), (a_t_plan, .inl (cI, 56, .inl t_plan)), (a_t_whose, .inl (cI, 56, .inl g2))]) ⟨hx, hb, hml, hown, hts⟩ (ct_X9_layWhose l dC dI cI cJ cB cZ a_t a_t_paperMany a_t_papers a_t_whose a_t_read a_t_text a_t_plan a_t_wantNight a_t_wantHouse a_t_wantWeight a_t_ahead a_t_best a_t_fines a_t_times a_t_isKept a_t_keptPlan a_t_keptFines a_t_keptTimes t_readMany t_length t_at t_faultAt t_year t_wordsNow t_mendChanges t_most t_above t_handing t_wants t_paperMany t_papers t_whose x1 g2 he3) gX9_count_X9_layWhose hd_X9_layWhose rfl rfl rfl ⟨Nat.le_of_ble_eq_true rfl, Nat.le_of_ble_eq_true rfl⟩ ⟨Nat.le_of_ble_eq_true rfl, Nat.le_of_ble_eq_true rfl⟩ rfl rfl (Nat.le_of_ble_eq_true rfl) dX9_count_1 hl.1 rfl (ci := 8) rfl (q0 := 0) rfl hP hK hD hS hA [0, 1, 2, 4] [3] [1, 2, 3, 0, 4] rfl rfl (by decide) (by decide) (by decide) (by decide) rfl (fun H locs hP hD hS => ?_)
  refine lv_iconst (v := 0) hx hb dX9_count_4 (by decide) ?_
  refine lv_istore_n (lv' := [(2, .int 0), (0, .ref a_t), (1, .int p1)]) hx hb dX9_count_5 rfl hl (by decide) rfl (fun ls hl => ?_)
  refine lv_iconst (v := 0) hx hb dX9_count_6 (by decide) ?_
  refine lv_istore_n (lv' := [(3, .int 0), (2, .int 0), (0, .ref a_t), (1, .int p1)]) hx hb dX9_count_7 rfl hl (by decide) rfl (fun ls hl => ?_)
  obtain ⟨x30, hit29, h⟩ := zz_b1E h
  refine zz_cut (fun V => ∀ (H : Heap) (locs : List Loc) (ls : Array Slot), va_P (dC, dI) vwCl [(a_t, .inr (8, [.ref a_t_read, .int t_readMany, .ref a_t_papers, .ref a_t_paperMany, .ref a_t_text, .int t_length, .int t_at, .int t_faultAt, .int t_year, .int x1, .ref a_t_whose, .int t_mendChanges, .ref a_t_plan, .int t_most, .int t_above, .int t_handing, .int t_wants, .ref a_t_wantNight, .ref a_t_wantHouse, .ref a_t_wantWeight, .ref a_t_ahead, .ref a_t_best, .ref a_t_fines, .ref a_t_times, .ref a_t_isKept, .ref a_t_keptPlan, .ref a_t_keptFines, .ref a_t_keptTimes])), (a_t_paperMany, .inl (cI, 3, .inl t_paperMany)), (a_t_papers, .inl (cI, 180, .inl t_papers)), (a_t_plan, .inl (cI, 56, .inl t_plan)), (a_t_whose, .inl (cI, 56, .inl g2))] H → va_D A [(a_t, .inr (8, [.ref a_t_read, .int t_readMany, .ref a_t_papers, .ref a_t_paperMany, .ref a_t_text, .int t_length, .int t_at, .int t_faultAt, .int t_year, .int x1, .ref a_t_whose, .int t_mendChanges, .ref a_t_plan, .int t_most, .int t_above, .int t_handing, .int t_wants, .ref a_t_wantNight, .ref a_t_wantHouse, .ref a_t_wantWeight, .ref a_t_ahead, .ref a_t_best, .ref a_t_fines, .ref a_t_times, .ref a_t_isKept, .ref a_t_keptPlan, .ref a_t_keptFines, .ref a_t_keptTimes])), (a_t_paperMany, .inl (cI, 3, .inl t_paperMany)), (a_t_papers, .inl (cI, 180, .inl t_papers)), (a_t_plan, .inl (cI, 56, .inl t_plan)), (a_t_whose, .inl (cI, 56, .inl g2))] → va_S A s.heap H locs → lv_has ls 4 [(0, .ref a_t), (1, .int p1), (2, .int x30)] → V H locs (F0 m 53 ls [])) ?_ (fun hE29 => ?_)
  · intro H locs ls hP hD hS hl
    refine lv_iload_n hx hb dX9_count_53 rfl (lv_at hl 1 rfl) ?_
    by_cases c31_0 : p1 = 0
    · have h := zz_if c31_0 h
      refine lv_tableIn (tgt := 84) hx hb dX9_count_54 (by rw [c31_0]; decide) (by rw [c31_0]; decide) (off := 30) (by rw [c31_0]; rfl) (by decide) ?_
      refine lv_aload_n hx hb dX9_count_84 rfl (lv_at hl 0 rfl) ?_
      refine va_get (ci := 8) (v := .int t_length) (C := RX9) (T := TX9) (N := 28) hx hb hts in_X9_count_X9 hown hK hP 0 rfl rfl 5 (by decide) (hts _ lk_X9_count_2) (fun _ h9 => h9) rfl dX9_count_85 ?_
      exact zz_iret (x1, g2) hx hb hr hlocks dX9_count_88 (Option.some.inj h) hP hK hD hS
    have h := zz_ifn c31_0 h
    by_cases c31_1 : p1 = 1
    · have h := zz_if c31_1 h
      refine lv_tableIn (tgt := 89) hx hb dX9_count_54 (by rw [c31_1]; decide) (by rw [c31_1]; decide) (off := 35) (by rw [c31_1]; rfl) (by decide) ?_
      refine lv_aload_n hx hb dX9_count_89 rfl (lv_at hl 0 rfl) ?_
      refine va_get (ci := 8) (v := .ref a_t_paperMany) (C := RX9) (T := TX9) (N := 28) hx hb hts in_X9_count_X9 hown hK hP 0 rfl rfl 3 (by decide) (hts _ lk_X9_count_3) (fun _ h9 => h9) rfl dX9_count_90 ?_
      refine lv_iconst (v := 0) hx hb dX9_count_93 (by decide) ?_
      obtain ⟨hi32, h⟩ := zz_chkE h
      refine va_iald hx hb hK hP 1 0 rfl rfl hi32 dX9_count_94 ?_
      exact zz_iret (x1, g2) hx hb hr hlocks dX9_count_95 (Option.some.inj h) hP hK hD hS
    have h := zz_ifn c31_1 h
    by_cases c31_2 : p1 = 2
    · have h := zz_if c31_2 h
      refine lv_tableIn (tgt := 96) hx hb dX9_count_54 (by rw [c31_2]; decide) (by rw [c31_2]; decide) (off := 42) (by rw [c31_2]; rfl) (by decide) ?_
      refine lv_aload_n hx hb dX9_count_96 rfl (lv_at hl 0 rfl) ?_
      refine va_get (ci := 8) (v := .int t_wants) (C := RX9) (T := TX9) (N := 28) hx hb hts in_X9_count_X9 hown hK hP 0 rfl rfl 16 (by decide) (hts _ lk_X9_count_4) (fun _ h9 => h9) rfl dX9_count_97 ?_
      exact zz_iret (x1, g2) hx hb hr hlocks dX9_count_100 (Option.some.inj h) hP hK hD hS
    have h := zz_ifn c31_2 h
    by_cases c31_3 : p1 = 3
    · have h := zz_if c31_3 h
      refine lv_tableIn (tgt := 101) hx hb dX9_count_54 (by rw [c31_3]; decide) (by rw [c31_3]; decide) (off := 47) (by rw [c31_3]; rfl) (by decide) ?_
      refine lv_iload_n hx hb dX9_count_101 rfl (lv_at hl 2 rfl) ?_
      exact zz_iret (x1, g2) hx hb hr hlocks dX9_count_102 (Option.some.inj h) hP hK hD hS
    have h := zz_ifn c31_3 h
    have nc31_0 := zz_ne (k := 0) rfl c31_0
    have nc31_1 := zz_ne (k := 1) rfl c31_1
    have nc31_2 := zz_ne (k := 2) rfl c31_2
    have nc31_3 := zz_ne (k := 3) rfl c31_3
    refine lv_tableOut (tgt := 103) hx hb dX9_count_54 (by omega) (by decide) ?_
    refine lv_bipush (v := (-2)) hx hb dX9_count_103 (by decide) ?_
    exact zz_iret (x1, g2) hx hb hr hlocks dX9_count_105 (Option.some.inj h) hP hK hD hS
  refine zz_cut (fun V => ∀ (n : Nat) (x28 : Int32) (x29 : Int32) (H : Heap) (locs : List Loc) (ls : Array Slot), zz_it (fun z => fb_X9_count_8 g2 t_plan z.1 z.2) n (x28, x29) = some x30 → va_P (dC, dI) vwCl [(a_t, .inr (8, [.ref a_t_read, .int t_readMany, .ref a_t_papers, .ref a_t_paperMany, .ref a_t_text, .int t_length, .int t_at, .int t_faultAt, .int t_year, .int x1, .ref a_t_whose, .int t_mendChanges, .ref a_t_plan, .int t_most, .int t_above, .int t_handing, .int t_wants, .ref a_t_wantNight, .ref a_t_wantHouse, .ref a_t_wantWeight, .ref a_t_ahead, .ref a_t_best, .ref a_t_fines, .ref a_t_times, .ref a_t_isKept, .ref a_t_keptPlan, .ref a_t_keptFines, .ref a_t_keptTimes])), (a_t_paperMany, .inl (cI, 3, .inl t_paperMany)), (a_t_papers, .inl (cI, 180, .inl t_papers)), (a_t_plan, .inl (cI, 56, .inl t_plan)), (a_t_whose, .inl (cI, 56, .inl g2))] H → va_D A [(a_t, .inr (8, [.ref a_t_read, .int t_readMany, .ref a_t_papers, .ref a_t_paperMany, .ref a_t_text, .int t_length, .int t_at, .int t_faultAt, .int t_year, .int x1, .ref a_t_whose, .int t_mendChanges, .ref a_t_plan, .int t_most, .int t_above, .int t_handing, .int t_wants, .ref a_t_wantNight, .ref a_t_wantHouse, .ref a_t_wantWeight, .ref a_t_ahead, .ref a_t_best, .ref a_t_fines, .ref a_t_times, .ref a_t_isKept, .ref a_t_keptPlan, .ref a_t_keptFines, .ref a_t_keptTimes])), (a_t_paperMany, .inl (cI, 3, .inl t_paperMany)), (a_t_papers, .inl (cI, 180, .inl t_papers)), (a_t_plan, .inl (cI, 56, .inl t_plan)), (a_t_whose, .inl (cI, 56, .inl g2))] → va_S A s.heap H locs → lv_has ls 4 [(0, .ref a_t), (1, .int p1), (2, .int x28), (3, .int x29)] → V H locs (F0 m 8 ls [])) ?_ (fun hL29 => ?_)
  · intro n
    induction n with
    | zero => intro x28 x29 H locs ls hit29; exact (zz_it0 hit29).elim
    | succ n ih29 =>
      intro x28 x29 H locs ls hit29 hP hD hS hl
      obtain ⟨y29, hb29, hy29⟩ := zz_itE hit29
      have hb29 : fb_X9_count_8 g2 t_plan x28 x29 = some y29 := hb29
      unfold fb_X9_count_8 at hb29
      refine lv_iload_n hx hb dX9_count_8 rfl (lv_at hl 3 rfl) ?_
      refine lv_bipush (v := 56) hx hb dX9_count_9 (by decide) ?_
      refine lv_icmp_ge (tgt := 53) hx hb dX9_count_11 (by decide) (fun c33 => ?_) (fun c33 => ?_)
      · have hb29 := zz_if c33 hb29
        obtain rfl := Option.some.inj hb29
        have hy29 := Option.some.inj hy29
        cases hy29
        exact hE29 _ _ ls hP hD hS (lv_sub hl [0, 1, 2] rfl)
      · have hb29 := zz_ifn c33 hb29
        refine lv_iload_n hx hb dX9_count_14 rfl (lv_at hl 2 rfl) ?_
        refine lv_aload_n hx hb dX9_count_15 rfl (lv_at hl 0 rfl) ?_
        refine va_get (ci := 8) (v := .ref a_t_whose) (C := RX9) (T := TX9) (N := 28) hx hb hts in_X9_count_X9 hown hK hP 0 rfl rfl 10 (by decide) (hts _ lk_X9_count_0) (fun _ h9 => h9) rfl dX9_count_16 ?_
        refine lv_iload_n hx hb dX9_count_19 rfl (lv_at hl 3 rfl) ?_
        obtain ⟨hi34, hb29⟩ := zz_chkE hb29
        refine va_iald hx hb hK hP 4 0 rfl rfl hi34 dX9_count_20 ?_
        refine lv_iconst (v := 2) hx hb dX9_count_21 (by decide) ?_
        refine lv_icmp_ge (tgt := 44) hx hb dX9_count_22 (by decide) (fun c35 => ?_) (fun c35 => ?_)
        · have hb29 := zz_if c35 hb29
          refine lv_iconst (v := 0) hx hb dX9_count_44 (by decide) ?_
          refine lv_iadd hx hb dX9_count_45 ?_
          refine lv_topi (fun x36 ex36 => ?_)
          have hb29 := zz_nmE ex36 hb29
          refine lv_istore_n (lv' := [(2, .int x36), (0, .ref a_t), (1, .int p1), (3, .int x29)]) hx hb dX9_count_46 rfl hl (by decide) rfl (fun ls hl => ?_)
          obtain ⟨x37, ex37⟩ : ∃ z : Int32, z = x29 + 1 := ⟨_, rfl⟩
          have hb29 := zz_nmE ex37 hb29
          refine lv_iinc (v := x37) (lv' := [(3, .int x37), (2, .int x36), (0, .ref a_t), (1, .int p1)]) hx hb dX9_count_47 hl (k := 3) rfl (by rw [ex37]; rfl) (by decide) rfl (fun ls hl => ?_)
          refine lv_goto (tgt := 8) hx hb dX9_count_50 (by decide) ?_
          obtain rfl := Option.some.inj hb29
          exact ih29 x36 x37 _ _ ls hy29 hP hD hS (lv_sub hl [2, 3, 1, 0] rfl)
        · have hb29 := zz_ifn c35 hb29
          refine lv_aload_n hx hb dX9_count_25 rfl (lv_at hl 0 rfl) ?_
          refine va_get (ci := 8) (v := .ref a_t_whose) (C := RX9) (T := TX9) (N := 28) hx hb hts in_X9_count_X9 hown hK hP 0 rfl rfl 10 (by decide) (hts _ lk_X9_count_0) (fun _ h9 => h9) rfl dX9_count_26 ?_
          refine lv_iload_n hx hb dX9_count_29 rfl (lv_at hl 3 rfl) ?_
          obtain ⟨hi38, hb29⟩ := zz_chkE hb29
          refine va_iald hx hb hK hP 4 0 rfl rfl hi38 dX9_count_30 ?_
          refine lv_aload_n hx hb dX9_count_31 rfl (lv_at hl 0 rfl) ?_
          refine va_get (ci := 8) (v := .ref a_t_plan) (C := RX9) (T := TX9) (N := 28) hx hb hts in_X9_count_X9 hown hK hP 0 rfl rfl 12 (by decide) (hts _ lk_X9_count_1) (fun _ h9 => h9) rfl dX9_count_32 ?_
          refine lv_iload_n hx hb dX9_count_35 rfl (lv_at hl 3 rfl) ?_
          obtain ⟨hi39, hb29⟩ := zz_chkE hb29
          refine va_iald hx hb hK hP 3 0 rfl rfl hi39 dX9_count_36 ?_
          refine lv_icmp_eq (tgt := 44) hx hb dX9_count_37 (by decide) (fun c40 => ?_) (fun c40 => ?_)
          · have hb29 := zz_if c40 hb29
            refine lv_iconst (v := 0) hx hb dX9_count_44 (by decide) ?_
            refine lv_iadd hx hb dX9_count_45 ?_
            refine lv_topi (fun x41 ex41 => ?_)
            have hb29 := zz_nmE ex41 hb29
            refine lv_istore_n (lv' := [(2, .int x41), (0, .ref a_t), (1, .int p1), (3, .int x29)]) hx hb dX9_count_46 rfl hl (by decide) rfl (fun ls hl => ?_)
            obtain ⟨x42, ex42⟩ : ∃ z : Int32, z = x29 + 1 := ⟨_, rfl⟩
            have hb29 := zz_nmE ex42 hb29
            refine lv_iinc (v := x42) (lv' := [(3, .int x42), (2, .int x41), (0, .ref a_t), (1, .int p1)]) hx hb dX9_count_47 hl (k := 3) rfl (by rw [ex42]; rfl) (by decide) rfl (fun ls hl => ?_)
            refine lv_goto (tgt := 8) hx hb dX9_count_50 (by decide) ?_
            obtain rfl := Option.some.inj hb29
            exact ih29 x41 x42 _ _ ls hy29 hP hD hS (lv_sub hl [2, 3, 1, 0] rfl)
          · have hb29 := zz_ifn c40 hb29
            refine lv_iconst (v := 1) hx hb dX9_count_40 (by decide) ?_
            refine lv_goto (tgt := 45) hx hb dX9_count_41 (by decide) ?_
            refine lv_iadd hx hb dX9_count_45 ?_
            refine lv_topi (fun x43 ex43 => ?_)
            have hb29 := zz_nmE ex43 hb29
            refine lv_istore_n (lv' := [(2, .int x43), (0, .ref a_t), (1, .int p1), (3, .int x29)]) hx hb dX9_count_46 rfl hl (by decide) rfl (fun ls hl => ?_)
            obtain ⟨x44, ex44⟩ : ∃ z : Int32, z = x29 + 1 := ⟨_, rfl⟩
            have hb29 := zz_nmE ex44 hb29
            refine lv_iinc (v := x44) (lv' := [(3, .int x44), (2, .int x43), (0, .ref a_t), (1, .int p1)]) hx hb dX9_count_47 hl (k := 3) rfl (by rw [ex44]; rfl) (by decide) rfl (fun ls hl => ?_)
            refine lv_goto (tgt := 8) hx hb dX9_count_50 (by decide) ?_
            obtain rfl := Option.some.inj hb29
            exact ih29 x43 x44 _ _ ls hy29 hP hD hS (lv_sub hl [2, 3, 1, 0] rfl)
  exact hL29 zz_fuel 0 0 _ _ ls hit29 hP hD hS (lv_sub hl [2, 3, 1, 0] rfl)
