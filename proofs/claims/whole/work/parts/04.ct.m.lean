theorem hd_X9_late : yX9_late.cls ≠ "java/lang/invoke/MethodHandle" ∧ yX9_late.cls ≠ "java/lang/invoke/VarHandle" ∧ (parseMethodDescriptor yX9_late.desc).map (fun d => d.parameters.length) = some 2 := by decide +kernel
set_option maxRecDepth 20000 in
theorem in_X9_late_X9 : ∀ w ∈ u_ws RX9 TX9 28, w ∈ wsX9_late := by decide +kernel
set_option maxRecDepth 20000 in
theorem lk_X9_late_0 : Cond.constantLong RX9 114 (99) ∈ wsX9_late := by decide +kernel
set_option maxRecDepth 20000 in
theorem lk_X9_late_1 : Cond.fieldLink RX9 25 "TwoHousesOneChildModel" "plan" "[I" ∈ wsX9_late := by decide +kernel
set_option maxRecDepth 20000 in
theorem lk_X9_late_2 : Cond.fieldLink RX9 43 "TwoHousesOneChildModel" "fines" "[I" ∈ wsX9_late := by decide +kernel
set_option maxRecDepth 20000 in
theorem lk_X9_late_3 : Cond.fieldLink RX9 46 "TwoHousesOneChildModel" "times" "[I" ∈ wsX9_late := by decide +kernel
set_option maxRecDepth 20000 in
theorem lk_X9_late_4 : Cond.fieldLink RX9 22 "TwoHousesOneChildModel" "whose" "[I" ∈ wsX9_late := by decide +kernel
set_option maxHeartbeats 4000000 in
set_option maxRecDepth 100000 in
theorem ct_X9_late (l : Launch) (dC : Nat → ClassId) (dI : Nat → Nat → Nat) (cI cJ cB cZ : ClassId) (a_t a_t_fines a_t_paperMany a_t_papers a_t_plan a_t_times a_t_whose a_t_read a_t_text a_t_wantNight a_t_wantHouse a_t_wantWeight a_t_ahead a_t_best a_t_isKept a_t_keptPlan a_t_keptFines a_t_keptTimes : Nat) (t_readMany : Int32) (t_length : Int32) (t_at : Int32) (t_faultAt : Int32) (t_year : Int32) (t_wordsNow : Int32) (t_mendChanges : Int32) (t_most : Int32) (t_above : Int32) (t_handing : Int32) (t_wants : Int32) (t_fines : (Nat → Int32)) (t_paperMany : (Nat → Int32)) (t_papers : (Nat → Int32)) (t_plan : (Nat → Int32)) (t_times : (Nat → Int32)) (t_whose : (Nat → Int32)) (p1 : Int32) (p2 : Int32) (rr : Int32) (o1 : Int32) (o2 : (Nat → Int32)) (o3 : (Nat → Int32)) (o4 : (Nat → Int32)) (o5 : (Nat → Int32)) (h : fn_X9_late t_year t_wordsNow t_fines t_paperMany t_papers t_plan t_times t_whose p1 p2 = some (rr, o1, o2, o3, o4, o5)) : zz_M l yX9_late wsX9_late ({ frames := 4, cells := 0, slots := 0, locals := 104 }) (dC, dI) (zz_T cI cJ cB cZ) [.ref a_t, .int p1, .int p2] [(a_t, .inr (8, [.ref a_t_read, .int t_readMany, .ref a_t_papers, .ref a_t_paperMany, .ref a_t_text, .int t_length, .int t_at, .int t_faultAt, .int t_year, .int t_wordsNow, .ref a_t_whose, .int t_mendChanges, .ref a_t_plan, .int t_most, .int t_above, .int t_handing, .int t_wants, .ref a_t_wantNight, .ref a_t_wantHouse, .ref a_t_wantWeight, .ref a_t_ahead, .ref a_t_best, .ref a_t_fines, .ref a_t_times, .ref a_t_isKept, .ref a_t_keptPlan, .ref a_t_keptFines, .ref a_t_keptTimes])), (a_t_fines, .inl (cI, 2, .inl t_fines)), (a_t_paperMany, .inl (cI, 3, .inl t_paperMany)), (a_t_papers, .inl (cI, 180, .inl t_papers)), (a_t_plan, .inl (cI, 56, .inl t_plan)), (a_t_times, .inl (cI, 2, .inl t_times)), (a_t_whose, .inl (cI, 56, .inl t_whose))] (zz_QI (dC, dI) (zz_T cI cJ cB cZ) (rr, o1, o2, o3, o4, o5) (fun (u : Int32 × (Nat → Int32) × (Nat → Int32) × (Nat → Int32) × (Nat → Int32)) => [(a_t, .inr (8, [.ref a_t_read, .int t_readMany, .ref a_t_papers, .ref a_t_paperMany, .ref a_t_text, .int t_length, .int t_at, .int t_faultAt, .int t_year, .int u.1, .ref a_t_whose, .int t_mendChanges, .ref a_t_plan, .int t_most, .int t_above, .int t_handing, .int t_wants, .ref a_t_wantNight, .ref a_t_wantHouse, .ref a_t_wantWeight, .ref a_t_ahead, .ref a_t_best, .ref a_t_fines, .ref a_t_times, .ref a_t_isKept, .ref a_t_keptPlan, .ref a_t_keptFines, .ref a_t_keptTimes])), (a_t_fines, .inl (cI, 2, .inl u.2.1)), (a_t_paperMany, .inl (cI, 3, .inl t_paperMany)), (a_t_papers, .inl (cI, 180, .inl t_papers)), (a_t_plan, .inl (cI, 56, .inl u.2.2.1)), (a_t_times, .inl (cI, 2, .inl u.2.2.2.1)), (a_t_whose, .inl (cI, 56, .inl u.2.2.2.2))])) := by
  unfold fn_X9_late at h
  refine zz_of (by decide) rfl (Nat.le_of_ble_eq_true rfl) ?_
  intro p e s m below meth c A ls hx hb hr hml hts hown hlocks hA hS hP hK hD hl
  have hown : s.vm.findClass RX9 = some m.cls := hown
  have hl : lv_has ls 5 [(0, .ref a_t), (1, .int p1), (2, .int p2)] := hl
  refine lv_iload_n hx hb dX9_late_0 rfl (lv_at hl 1 rfl) ?_
  obtain ⟨x1, u2, he3, h⟩ := zz_b2E h
  refine zz_PI (As := [.int p1]) (rest := []) ⟨hx, hb, hml, hown, hts⟩ (ct_X9_isNight l dC dI cI cJ cB cZ p1 x1 u2 he3) gX9_late_X9_isNight hd_X9_isNight rfl rfl rfl ⟨Nat.le_of_ble_eq_true rfl, Nat.le_of_ble_eq_true rfl⟩ ⟨Nat.le_of_ble_eq_true rfl, Nat.le_of_ble_eq_true rfl⟩ rfl rfl (Nat.le_of_ble_eq_true rfl) dX9_late_1 hl.1 hP hK hS hA (fun H locs hP hS => ?_)
  refine lv_if_ne (tgt := 9) hx hb dX9_late_4 (by decide) (fun c4 => ?_) (fun c4 => ?_)
  · have h := zz_ifn c4 h
    refine lv_iload_n hx hb dX9_late_9 rfl (lv_at hl 2 rfl) ?_
    refine lv_i2l (v := p2.toInt64) hx hb dX9_late_10 rfl ?_
    refine lv_lconst (v := 1) hx hb dX9_late_11 (by decide) ?_
    refine lv_ldc2 (v := 99) hx hb hown (hts _ lk_X9_late_0) dX9_late_12 ?_
    obtain ⟨x5, u6, he7, h⟩ := zz_b2E h
    refine zz_PI (As := [.long p2.toInt64, .long 1, .long 99]) (rest := []) ⟨hx, hb, hml, hown, hts⟩ (ct_X9_in l dC dI cI cJ cB cZ p2.toInt64 (1 : Int64) (99 : Int64) x5 u6 he7) gX9_late_X9_in hd_X9_in rfl rfl rfl ⟨Nat.le_of_ble_eq_true rfl, Nat.le_of_ble_eq_true rfl⟩ ⟨Nat.le_of_ble_eq_true rfl, Nat.le_of_ble_eq_true rfl⟩ rfl rfl (Nat.le_of_ble_eq_true rfl) dX9_late_15 hl.1 hP hK hS hA (fun H locs hP hS => ?_)
    refine lv_if_ne (tgt := 24) hx hb dX9_late_18 (by decide) (fun c8 => ?_) (fun c8 => ?_)
    · have h := zz_ifn c8 h
      refine lv_iload_n hx hb dX9_late_24 rfl (lv_at hl 1 rfl) ?_
      refine lv_if_eq (tgt := 45) hx hb dX9_late_25 (by decide) (fun c9 => ?_) (fun c9 => ?_)
      · have h := zz_if c9 h
        refine lv_bipush (v := (-3)) hx hb dX9_late_45 (by decide) ?_
        exact zz_iret (t_wordsNow, t_fines, t_plan, t_times, t_whose) hx hb hr hlocks dX9_late_47 (Option.some.inj h) hP hK hD hS
      · have h := zz_ifn c9 h
        refine lv_aload_n hx hb dX9_late_28 rfl (lv_at hl 0 rfl) ?_
        refine va_get (ci := 8) (v := .ref a_t_plan) (C := RX9) (T := TX9) (N := 28) hx hb hts in_X9_late_X9 hown hK hP 0 rfl rfl 12 (by decide) (hts _ lk_X9_late_1) (fun _ h9 => h9) rfl dX9_late_29 ?_
        refine lv_iload_n hx hb dX9_late_32 rfl (lv_at hl 1 rfl) ?_
        obtain ⟨hi10, h⟩ := zz_chkE h
        refine va_iald hx hb hK hP 4 0 rfl rfl hi10 dX9_late_33 ?_
        refine lv_aload_n hx hb dX9_late_34 rfl (lv_at hl 0 rfl) ?_
        refine va_get (ci := 8) (v := .ref a_t_plan) (C := RX9) (T := TX9) (N := 28) hx hb hts in_X9_late_X9 hown hK hP 0 rfl rfl 12 (by decide) (hts _ lk_X9_late_1) (fun _ h9 => h9) rfl dX9_late_35 ?_
        refine lv_iload_n hx hb dX9_late_38 rfl (lv_at hl 1 rfl) ?_
        refine lv_iconst (v := 1) hx hb dX9_late_39 (by decide) ?_
        refine lv_isub hx hb dX9_late_40 ?_
        obtain ⟨hi11, h⟩ := zz_chkE h
        refine va_iald hx hb hK hP 4 0 rfl rfl hi11 dX9_late_41 ?_
        refine lv_icmp_ne (tgt := 48) hx hb dX9_late_42 (by decide) (fun c12 => ?_) (fun c12 => ?_)
        · have h := zz_ifn c12 h
          refine lv_aload_n hx hb dX9_late_48 rfl (lv_at hl 0 rfl) ?_
          refine va_get (ci := 8) (v := .ref a_t_plan) (C := RX9) (T := TX9) (N := 28) hx hb hts in_X9_late_X9 hown hK hP 0 rfl rfl 12 (by decide) (hts _ lk_X9_late_1) (fun _ h9 => h9) rfl dX9_late_49 ?_
          refine lv_iload_n hx hb dX9_late_52 rfl (lv_at hl 1 rfl) ?_
          obtain ⟨hi13, h⟩ := zz_chkE h
          refine va_iald hx hb hK hP 4 0 rfl rfl hi13 dX9_late_53 ?_
          refine lv_topi (fun x14 ex14 => ?_)
          have h := zz_nmE ex14 h
          refine lv_istore_n (lv' := [(3, .int x14), (0, .ref a_t), (1, .int p1), (2, .int p2)]) hx hb dX9_late_54 rfl hl (by decide) rfl (fun ls hl => ?_)
          refine lv_aload_n hx hb dX9_late_55 rfl (lv_at hl 1 rfl) ?_
          refine va_get (ci := 8) (v := .ref a_t_fines) (C := RX9) (T := TX9) (N := 28) hx hb hts in_X9_late_X9 hown hK hP 0 rfl rfl 22 (by decide) (hts _ lk_X9_late_2) (fun _ h9 => h9) rfl dX9_late_56 ?_
          refine lv_iload_n hx hb dX9_late_59 rfl (lv_at hl 0 rfl) ?_
          refine lv_dup2_11 hx hb dX9_late_60 rfl rfl ?_
          obtain ⟨hi15, h⟩ := zz_chkE h
          refine va_iald hx hb hK hP 1 0 rfl rfl hi15 dX9_late_61 ?_
          refine lv_iload_n hx hb dX9_late_62 rfl (lv_at hl 3 rfl) ?_
          refine lv_bipush (v := 9) hx hb dX9_late_63 (by decide) ?_
          refine lv_iadd hx hb dX9_late_65 ?_
          refine lv_bipush (v := 10) hx hb dX9_late_66 (by decide) ?_
          refine lv_idiv hx hb dX9_late_68 (by decide) ?_
          refine lv_iadd hx hb dX9_late_69 ?_
          obtain ⟨hi17, h⟩ := zz_chkE h
          refine zz_iast hx hb hK hP hD hS 1 0 rfl rfl hi17 dX9_late_70 (fun g18 => [(a_t, .inr (8, [.ref a_t_read, .int t_readMany, .ref a_t_papers, .ref a_t_paperMany, .ref a_t_text, .int t_length, .int t_at, .int t_faultAt, .int t_year, .int t_wordsNow, .ref a_t_whose, .int t_mendChanges, .ref a_t_plan, .int t_most, .int t_above, .int t_handing, .int t_wants, .ref a_t_wantNight, .ref a_t_wantHouse, .ref a_t_wantWeight, .ref a_t_ahead, .ref a_t_best, .ref a_t_fines, .ref a_t_times, .ref a_t_isKept, .ref a_t_keptPlan, .ref a_t_keptFines, .ref a_t_keptTimes])), (a_t_fines, .inl (cI, 2, .inl g18)), (a_t_paperMany, .inl (cI, 3, .inl t_paperMany)), (a_t_papers, .inl (cI, 180, .inl t_papers)), (a_t_plan, .inl (cI, 56, .inl t_plan)), (a_t_times, .inl (cI, 2, .inl t_times)), (a_t_whose, .inl (cI, 56, .inl t_whose))]) (fun _ => rfl) (fun g18 H locs eg18 hP hD hS => ?_)
          have h := zz_nmE eg18 h
          refine lv_aload_n hx hb dX9_late_71 rfl (lv_at hl 1 rfl) ?_
          refine va_get (ci := 8) (v := .ref a_t_times) (C := RX9) (T := TX9) (N := 28) hx hb hts in_X9_late_X9 hown hK hP 0 rfl rfl 23 (by decide) (hts _ lk_X9_late_3) (fun _ h9 => h9) rfl dX9_late_72 ?_
          refine lv_iload_n hx hb dX9_late_75 rfl (lv_at hl 0 rfl) ?_
          refine lv_dup2_11 hx hb dX9_late_76 rfl rfl ?_
          obtain ⟨hi19, h⟩ := zz_chkE h
          refine va_iald hx hb hK hP 5 0 rfl rfl hi19 dX9_late_77 ?_
          refine lv_iconst (v := 1) hx hb dX9_late_78 (by decide) ?_
          refine lv_iadd hx hb dX9_late_79 ?_
          obtain ⟨hi20, h⟩ := zz_chkE h
          refine zz_iast hx hb hK hP hD hS 5 0 rfl rfl hi20 dX9_late_80 (fun g21 => [(a_t, .inr (8, [.ref a_t_read, .int t_readMany, .ref a_t_papers, .ref a_t_paperMany, .ref a_t_text, .int t_length, .int t_at, .int t_faultAt, .int t_year, .int t_wordsNow, .ref a_t_whose, .int t_mendChanges, .ref a_t_plan, .int t_most, .int t_above, .int t_handing, .int t_wants, .ref a_t_wantNight, .ref a_t_wantHouse, .ref a_t_wantWeight, .ref a_t_ahead, .ref a_t_best, .ref a_t_fines, .ref a_t_times, .ref a_t_isKept, .ref a_t_keptPlan, .ref a_t_keptFines, .ref a_t_keptTimes])), (a_t_fines, .inl (cI, 2, .inl g18)), (a_t_paperMany, .inl (cI, 3, .inl t_paperMany)), (a_t_papers, .inl (cI, 180, .inl t_papers)), (a_t_plan, .inl (cI, 56, .inl t_plan)), (a_t_times, .inl (cI, 2, .inl g21)), (a_t_whose, .inl (cI, 56, .inl t_whose))]) (fun _ => rfl) (fun g21 H locs eg21 hP hD hS => ?_)
          have h := zz_nmE eg21 h
          refine lv_aload_n hx hb dX9_late_81 rfl (lv_at hl 1 rfl) ?_
          refine va_get (ci := 8) (v := .ref a_t_times) (C := RX9) (T := TX9) (N := 28) hx hb hts in_X9_late_X9 hown hK hP 0 rfl rfl 23 (by decide) (hts _ lk_X9_late_3) (fun _ h9 => h9) rfl dX9_late_82 ?_
          refine lv_iload_n hx hb dX9_late_85 rfl (lv_at hl 0 rfl) ?_
          obtain ⟨hi22, h⟩ := zz_chkE h
          refine va_iald hx hb hK hP 5 0 rfl rfl hi22 dX9_late_86 ?_
          refine lv_iconst (v := 3) hx hb dX9_late_87 (by decide) ?_
          refine lv_irem hx hb dX9_late_88 (by decide) ?_
          refine lv_if_eq (tgt := 95) hx hb dX9_late_89 (by decide) (fun c24 => ?_) (fun c24 => ?_)
          · have h := zz_if c24 h
            refine lv_aload_n hx hb dX9_late_95 rfl (lv_at hl 1 rfl) ?_
            obtain ⟨x25, g26, he27, h⟩ := zz_b2E h
            refine zz_VV (q := (RX9, TX9, 28)) (As := []) (rest := []) (wr := [(a_t_fines, .inl (cI, 2, .inl g18)), (a_t_plan, .inl (cI, 56, .inl t_plan)), (a_t_times, .inl (cI, 2, .inl g21))]) (wm := [(a_t, .inr (8, [.ref a_t_read, .int t_readMany, .ref a_t_papers, .ref a_t_paperMany, .ref a_t_text, .int t_length, .int t_at, .int t_faultAt, .int t_year, .int x25, .ref a_t_whose, .int t_mendChanges, .ref a_t_plan, .int t_most, .int t_above, .int t_handing, .int t_wants, .ref a_t_wantNight, .ref a_t_wantHouse, .ref a_t_wantWeight, .ref a_t_ahead, .ref a_t_best, .ref a_t_fines, .ref a_t_times, .ref a_t_isKept, .ref a_t_keptPlan, .ref a_t_keptFines, .ref a_t_keptTimes])), (a_t_fines, .inl (cI, 2, .inl g18)), (a_t_paperMany, .inl (cI, 3, .inl t_paperMany)), (a_t_papers, .inl (cI, 180, .inl t_papers)), (a_t_plan, .inl (cI, 56, .inl t_plan)), (a_t_times, .inl (cI, 2, .inl g21)), (a_t_whose, .inl (cI, 56, .inl g26))]) ⟨hx, hb, hml, hown, hts⟩ (ct_X9_layWhose l dC dI cI cJ cB cZ a_t a_t_paperMany a_t_papers a_t_whose a_t_read a_t_text a_t_plan a_t_wantNight a_t_wantHouse a_t_wantWeight a_t_ahead a_t_best a_t_fines a_t_times a_t_isKept a_t_keptPlan a_t_keptFines a_t_keptTimes t_readMany t_length t_at t_faultAt t_year t_wordsNow t_mendChanges t_most t_above t_handing t_wants t_paperMany t_papers t_whose x25 g26 he27) gX9_late_X9_layWhose hd_X9_layWhose rfl rfl rfl ⟨Nat.le_of_ble_eq_true rfl, Nat.le_of_ble_eq_true rfl⟩ ⟨Nat.le_of_ble_eq_true rfl, Nat.le_of_ble_eq_true rfl⟩ rfl rfl (Nat.le_of_ble_eq_true rfl) dX9_late_96 hl.1 rfl (ci := 8) rfl (q0 := 0) rfl hP hK hD hS hA [0, 2, 3, 6] [1, 4, 5] [3, 0, 4, 5, 1, 2, 6] rfl rfl (by decide) (by decide) (by decide) (by decide) rfl (fun H locs hP hD hS => ?_)
            refine lv_iload_n hx hb dX9_late_99 rfl (lv_at hl 2 rfl) ?_
            refine lv_iconst (v := 1) hx hb dX9_late_100 (by decide) ?_
            refine lv_iadd hx hb dX9_late_101 ?_
            refine lv_topi (fun x28 ex28 => ?_)
            have h := zz_nmE ex28 h
            refine lv_istore (lv' := [(4, .int x28), (3, .int x14), (0, .ref a_t), (1, .int p1), (2, .int p2)]) hx hb dX9_late_102 hl (by decide) rfl (fun ls hl => ?_)
            obtain ⟨x38, hit37, h⟩ := zz_b1E h
            refine zz_cut (fun V => ∀ (H : Heap) (locs : List Loc) (ls : Array Slot), va_P (dC, dI) vwCl [(a_t, .inr (8, [.ref a_t_read, .int t_readMany, .ref a_t_papers, .ref a_t_paperMany, .ref a_t_text, .int t_length, .int t_at, .int t_faultAt, .int t_year, .int x25, .ref a_t_whose, .int t_mendChanges, .ref a_t_plan, .int t_most, .int t_above, .int t_handing, .int t_wants, .ref a_t_wantNight, .ref a_t_wantHouse, .ref a_t_wantWeight, .ref a_t_ahead, .ref a_t_best, .ref a_t_fines, .ref a_t_times, .ref a_t_isKept, .ref a_t_keptPlan, .ref a_t_keptFines, .ref a_t_keptTimes])), (a_t_fines, .inl (cI, 2, .inl g18)), (a_t_paperMany, .inl (cI, 3, .inl t_paperMany)), (a_t_papers, .inl (cI, 180, .inl t_papers)), (a_t_plan, .inl (cI, 56, .inl t_plan)), (a_t_times, .inl (cI, 2, .inl g21)), (a_t_whose, .inl (cI, 56, .inl g26))] H → va_D A [(a_t, .inr (8, [.ref a_t_read, .int t_readMany, .ref a_t_papers, .ref a_t_paperMany, .ref a_t_text, .int t_length, .int t_at, .int t_faultAt, .int t_year, .int x25, .ref a_t_whose, .int t_mendChanges, .ref a_t_plan, .int t_most, .int t_above, .int t_handing, .int t_wants, .ref a_t_wantNight, .ref a_t_wantHouse, .ref a_t_wantWeight, .ref a_t_ahead, .ref a_t_best, .ref a_t_fines, .ref a_t_times, .ref a_t_isKept, .ref a_t_keptPlan, .ref a_t_keptFines, .ref a_t_keptTimes])), (a_t_fines, .inl (cI, 2, .inl g18)), (a_t_paperMany, .inl (cI, 3, .inl t_paperMany)), (a_t_papers, .inl (cI, 180, .inl t_papers)), (a_t_plan, .inl (cI, 56, .inl t_plan)), (a_t_times, .inl (cI, 2, .inl g21)), (a_t_whose, .inl (cI, 56, .inl g26))] → va_S A s.heap H locs → lv_has ls 5 [(0, .ref a_t), (3, .int x14), (4, .int x38)] → V H locs (F0 m 128 ls [])) ?_ (fun hE37 => ?_)
            · intro H locs ls hP hD hS hl
              refine lv_iload hx hb dX9_late_128 (lv_at hl 2 rfl) ?_
              refine lv_bipush (v := 56) hx hb dX9_late_130 (by decide) ?_
              refine lv_icmp_ne (tgt := 138) hx hb dX9_late_132 (by decide) (fun c39 => ?_) (fun c39 => ?_)
              · have h := zz_ifn c39 h
                refine lv_aload_n hx hb dX9_late_138 rfl (lv_at hl 0 rfl) ?_
                refine va_get (ci := 8) (v := .ref a_t_plan) (C := RX9) (T := TX9) (N := 28) hx hb hts in_X9_late_X9 hown hK hP 0 rfl rfl 12 (by decide) (hts _ lk_X9_late_1) (fun _ h9 => h9) rfl dX9_late_139 ?_
                refine lv_iload hx hb dX9_late_142 (lv_at hl 2 rfl) ?_
                refine lv_iconst (v := 1) hx hb dX9_late_144 (by decide) ?_
                refine lv_iload_n hx hb dX9_late_145 rfl (lv_at hl 1 rfl) ?_
                refine lv_isub hx hb dX9_late_146 ?_
                obtain ⟨hi40, h⟩ := zz_chkE h
                refine zz_iast hx hb hK hP hD hS 4 0 rfl rfl hi40 dX9_late_147 (fun g41 => [(a_t, .inr (8, [.ref a_t_read, .int t_readMany, .ref a_t_papers, .ref a_t_paperMany, .ref a_t_text, .int t_length, .int t_at, .int t_faultAt, .int t_year, .int x25, .ref a_t_whose, .int t_mendChanges, .ref a_t_plan, .int t_most, .int t_above, .int t_handing, .int t_wants, .ref a_t_wantNight, .ref a_t_wantHouse, .ref a_t_wantWeight, .ref a_t_ahead, .ref a_t_best, .ref a_t_fines, .ref a_t_times, .ref a_t_isKept, .ref a_t_keptPlan, .ref a_t_keptFines, .ref a_t_keptTimes])), (a_t_fines, .inl (cI, 2, .inl g18)), (a_t_paperMany, .inl (cI, 3, .inl t_paperMany)), (a_t_papers, .inl (cI, 180, .inl t_papers)), (a_t_plan, .inl (cI, 56, .inl g41)), (a_t_times, .inl (cI, 2, .inl g21)), (a_t_whose, .inl (cI, 56, .inl g26))]) (fun _ => rfl) (fun g41 H locs eg41 hP hD hS => ?_)
                have h := zz_nmE eg41 h
                refine lv_iload hx hb dX9_late_148 (lv_at hl 2 rfl) ?_
                exact zz_iret (x25, g18, g41, g21, g26) hx hb hr hlocks dX9_late_150 (Option.some.inj h) hP hK hD hS
              · have h := zz_if c39 h
                refine lv_bipush (v := (-9)) hx hb dX9_late_135 (by decide) ?_
                exact zz_iret (x25, g18, t_plan, g21, g26) hx hb hr hlocks dX9_late_137 (Option.some.inj h) hP hK hD hS
            refine zz_cut (fun V => ∀ (n : Nat) (x37 : Int32) (H : Heap) (locs : List Loc) (ls : Array Slot), zz_it (fun z => fb_X9_late_104 x14 g26 z) n x37 = some x38 → va_P (dC, dI) vwCl [(a_t, .inr (8, [.ref a_t_read, .int t_readMany, .ref a_t_papers, .ref a_t_paperMany, .ref a_t_text, .int t_length, .int t_at, .int t_faultAt, .int t_year, .int x25, .ref a_t_whose, .int t_mendChanges, .ref a_t_plan, .int t_most, .int t_above, .int t_handing, .int t_wants, .ref a_t_wantNight, .ref a_t_wantHouse, .ref a_t_wantWeight, .ref a_t_ahead, .ref a_t_best, .ref a_t_fines, .ref a_t_times, .ref a_t_isKept, .ref a_t_keptPlan, .ref a_t_keptFines, .ref a_t_keptTimes])), (a_t_fines, .inl (cI, 2, .inl g18)), (a_t_paperMany, .inl (cI, 3, .inl t_paperMany)), (a_t_papers, .inl (cI, 180, .inl t_papers)), (a_t_plan, .inl (cI, 56, .inl t_plan)), (a_t_times, .inl (cI, 2, .inl g21)), (a_t_whose, .inl (cI, 56, .inl g26))] H → va_D A [(a_t, .inr (8, [.ref a_t_read, .int t_readMany, .ref a_t_papers, .ref a_t_paperMany, .ref a_t_text, .int t_length, .int t_at, .int t_faultAt, .int t_year, .int x25, .ref a_t_whose, .int t_mendChanges, .ref a_t_plan, .int t_most, .int t_above, .int t_handing, .int t_wants, .ref a_t_wantNight, .ref a_t_wantHouse, .ref a_t_wantWeight, .ref a_t_ahead, .ref a_t_best, .ref a_t_fines, .ref a_t_times, .ref a_t_isKept, .ref a_t_keptPlan, .ref a_t_keptFines, .ref a_t_keptTimes])), (a_t_fines, .inl (cI, 2, .inl g18)), (a_t_paperMany, .inl (cI, 3, .inl t_paperMany)), (a_t_papers, .inl (cI, 180, .inl t_papers)), (a_t_plan, .inl (cI, 56, .inl t_plan)), (a_t_times, .inl (cI, 2, .inl g21)), (a_t_whose, .inl (cI, 56, .inl g26))] → va_S A s.heap H locs → lv_has ls 5 [(0, .ref a_t), (3, .int x14), (4, .int x37)] → V H locs (F0 m 104 ls [])) ?_ (fun hL37 => ?_)
            · intro n
              induction n with
              | zero => intro x37 H locs ls hit37; exact (zz_it0 hit37).elim
              | succ n ih37 =>
                intro x37 H locs ls hit37 hP hD hS hl
                obtain ⟨y37, hb37, hy37⟩ := zz_itE hit37
                have hb37 : fb_X9_late_104 x14 g26 x37 = some y37 := hb37
                unfold fb_X9_late_104 at hb37
                refine lv_iload hx hb dX9_late_104 (lv_at hl 2 rfl) ?_
                refine lv_bipush (v := 56) hx hb dX9_late_106 (by decide) ?_
                refine lv_icmp_ge (tgt := 128) hx hb dX9_late_108 (by decide) (fun c42 => ?_) (fun c42 => ?_)
                · have hb37 := zz_if c42 hb37
                  obtain rfl := Option.some.inj hb37
                  have hy37 := Option.some.inj hy37
                  cases hy37
                  exact hE37 _ _ ls hP hD hS (lv_sub hl [0, 1, 2] rfl)
                · have hb37 := zz_ifn c42 hb37
                  refine lv_aload_n hx hb dX9_late_111 rfl (lv_at hl 0 rfl) ?_
                  refine va_get (ci := 8) (v := .ref a_t_whose) (C := RX9) (T := TX9) (N := 28) hx hb hts in_X9_late_X9 hown hK hP 0 rfl rfl 10 (by decide) (hts _ lk_X9_late_4) (fun _ h9 => h9) rfl dX9_late_112 ?_
                  refine lv_iload hx hb dX9_late_115 (lv_at hl 2 rfl) ?_
                  obtain ⟨hi43, hb37⟩ := zz_chkE hb37
                  refine va_iald hx hb hK hP 6 0 rfl rfl hi43 dX9_late_117 ?_
                  refine lv_iload_n hx hb dX9_late_118 rfl (lv_at hl 1 rfl) ?_
                  refine lv_icmp_eq (tgt := 128) hx hb dX9_late_119 (by decide) (fun c44 => ?_) (fun c44 => ?_)
                  · have hb37 := zz_if c44 hb37
                    obtain rfl := Option.some.inj hb37
                    have hy37 := Option.some.inj hy37
                    cases hy37
                    exact hE37 _ _ ls hP hD hS (lv_sub hl [0, 1, 2] rfl)
                  · have hb37 := zz_ifn c44 hb37
                    obtain ⟨x45, ex45⟩ : ∃ z : Int32, z = x37 + 1 := ⟨_, rfl⟩
                    have hb37 := zz_nmE ex45 hb37
                    refine lv_iinc (v := x45) (lv' := [(4, .int x45), (0, .ref a_t), (3, .int x14)]) hx hb dX9_late_122 hl (k := 2) rfl (by rw [ex45]; rfl) (by decide) rfl (fun ls hl => ?_)
                    refine lv_goto (tgt := 104) hx hb dX9_late_125 (by decide) ?_
                    obtain rfl := Option.some.inj hb37
                    exact ih37 x45 _ _ ls hy37 hP hD hS (lv_sub hl [1, 2, 0] rfl)
            exact hL37 zz_fuel x28 _ _ ls hit37 hP hD hS (lv_sub hl [2, 1, 0] rfl)
          · have h := zz_ifn c24 h
            refine lv_bipush (v := (-9)) hx hb dX9_late_92 (by decide) ?_
            exact zz_iret (t_wordsNow, g18, t_plan, g21, t_whose) hx hb hr hlocks dX9_late_94 (Option.some.inj h) hP hK hD hS
        · have h := zz_if c12 h
          refine lv_bipush (v := (-3)) hx hb dX9_late_45 (by decide) ?_
          exact zz_iret (t_wordsNow, t_fines, t_plan, t_times, t_whose) hx hb hr hlocks dX9_late_47 (Option.some.inj h) hP hK hD hS
    · have h := zz_if c8 h
      refine lv_bipush (v := (-2)) hx hb dX9_late_21 (by decide) ?_
      exact zz_iret (t_wordsNow, t_fines, t_plan, t_times, t_whose) hx hb hr hlocks dX9_late_23 (Option.some.inj h) hP hK hD hS
  · have h := zz_if c4 h
    refine lv_iconst (v := (-1)) hx hb dX9_late_7 (by decide) ?_
    exact zz_iret (t_wordsNow, t_fines, t_plan, t_times, t_whose) hx hb hr hlocks dX9_late_8 (Option.some.inj h) hP hK hD hS
theorem hd_X9_fines : yX9_fines.cls ≠ "java/lang/invoke/MethodHandle" ∧ yX9_fines.cls ≠ "java/lang/invoke/VarHandle" ∧ (parseMethodDescriptor yX9_fines.desc).map (fun d => d.parameters.length) = some 2 := by decide +kernel
set_option maxRecDepth 20000 in
theorem in_X9_fines_X9 : ∀ w ∈ u_ws RX9 TX9 28, w ∈ wsX9_fines := by decide +kernel
set_option maxRecDepth 20000 in
theorem lk_X9_fines_0 : Cond.fieldLink RX9 43 "TwoHousesOneChildModel" "fines" "[I" ∈ wsX9_fines := by decide +kernel
set_option maxRecDepth 20000 in
theorem lk_X9_fines_1 : Cond.fieldLink RX9 46 "TwoHousesOneChildModel" "times" "[I" ∈ wsX9_fines := by decide +kernel
set_option maxHeartbeats 4000000 in
set_option maxRecDepth 100000 in
theorem ct_X9_fines (l : Launch) (dC : Nat → ClassId) (dI : Nat → Nat → Nat) (cI cJ cB cZ : ClassId) (a_t a_t_fines a_t_times a_t_read a_t_papers a_t_paperMany a_t_text a_t_whose a_t_plan a_t_wantNight a_t_wantHouse a_t_wantWeight a_t_ahead a_t_best a_t_isKept a_t_keptPlan a_t_keptFines a_t_keptTimes : Nat) (t_readMany : Int32) (t_length : Int32) (t_at : Int32) (t_faultAt : Int32) (t_year : Int32) (t_wordsNow : Int32) (t_mendChanges : Int32) (t_most : Int32) (t_above : Int32) (t_handing : Int32) (t_wants : Int32) (t_fines : (Nat → Int32)) (t_times : (Nat → Int32)) (p1 : Int32) (p2 : Int32) (rr : Int32) (u0 : Unit) (h : fn_X9_fines t_fines t_times p1 p2 = some (rr, u0)) : zz_M l yX9_fines wsX9_fines ({ frames := 2, cells := 0, slots := 0, locals := 45 }) (dC, dI) (zz_T cI cJ cB cZ) [.ref a_t, .int p1, .int p2] [(a_t, .inr (8, [.ref a_t_read, .int t_readMany, .ref a_t_papers, .ref a_t_paperMany, .ref a_t_text, .int t_length, .int t_at, .int t_faultAt, .int t_year, .int t_wordsNow, .ref a_t_whose, .int t_mendChanges, .ref a_t_plan, .int t_most, .int t_above, .int t_handing, .int t_wants, .ref a_t_wantNight, .ref a_t_wantHouse, .ref a_t_wantWeight, .ref a_t_ahead, .ref a_t_best, .ref a_t_fines, .ref a_t_times, .ref a_t_isKept, .ref a_t_keptPlan, .ref a_t_keptFines, .ref a_t_keptTimes])), (a_t_fines, .inl (cI, 2, .inl t_fines)), (a_t_times, .inl (cI, 2, .inl t_times))] (zz_QI (dC, dI) (zz_T cI cJ cB cZ) (rr, u0) (fun (u : Unit) => [(a_t, .inr (8, [.ref a_t_read, .int t_readMany, .ref a_t_papers, .ref a_t_paperMany, .ref a_t_text, .int t_length, .int t_at, .int t_faultAt, .int t_year, .int t_wordsNow, .ref a_t_whose, .int t_mendChanges, .ref a_t_plan, .int t_most, .int t_above, .int t_handing, .int t_wants, .ref a_t_wantNight, .ref a_t_wantHouse, .ref a_t_wantWeight, .ref a_t_ahead, .ref a_t_best, .ref a_t_fines, .ref a_t_times, .ref a_t_isKept, .ref a_t_keptPlan, .ref a_t_keptFines, .ref a_t_keptTimes])), (a_t_fines, .inl (cI, 2, .inl t_fines)), (a_t_times, .inl (cI, 2, .inl t_times))])) := by
  unfold fn_X9_fines at h
  refine zz_of (by decide) rfl (Nat.le_of_ble_eq_true rfl) ?_
  intro p e s m below meth c A ls hx hb hr hml hts hown hlocks hA hS hP hK hD hl
  have hown : s.vm.findClass RX9 = some m.cls := hown
  have hl : lv_has ls 3 [(0, .ref a_t), (1, .int p1), (2, .int p2)] := hl
  refine lv_iload_n hx hb dX9_fines_0 rfl (lv_at hl 1 rfl) ?_
  obtain ⟨x1, u2, he3, h⟩ := zz_b2E h
  refine zz_PI (As := [.int p1]) (rest := []) ⟨hx, hb, hml, hown, hts⟩ (ct_X9_isHouse l dC dI cI cJ cB cZ p1 x1 u2 he3) gX9_fines_X9_isHouse hd_X9_isHouse rfl rfl rfl ⟨Nat.le_of_ble_eq_true rfl, Nat.le_of_ble_eq_true rfl⟩ ⟨Nat.le_of_ble_eq_true rfl, Nat.le_of_ble_eq_true rfl⟩ rfl rfl (Nat.le_of_ble_eq_true rfl) dX9_fines_1 hl.1 hP hK hS hA (fun H locs hP hS => ?_)
  refine lv_if_ne (tgt := 9) hx hb dX9_fines_4 (by decide) (fun c4 => ?_) (fun c4 => ?_)
  · have h := zz_ifn c4 h
    refine lv_iload_n hx hb dX9_fines_9 rfl (lv_at hl 2 rfl) ?_
    refine lv_if_eq (tgt := 22) hx hb dX9_fines_10 (by decide) (fun c5 => ?_) (fun c5 => ?_)
    · have h := zz_if c5 h
      refine lv_aload_n hx hb dX9_fines_22 rfl (lv_at hl 0 rfl) ?_
      refine va_get (ci := 8) (v := .ref a_t_fines) (C := RX9) (T := TX9) (N := 28) hx hb hts in_X9_fines_X9 hown hK hP 0 rfl rfl 22 (by decide) (hts _ lk_X9_fines_0) (fun _ h9 => h9) rfl dX9_fines_23 ?_
      refine lv_iload_n hx hb dX9_fines_26 rfl (lv_at hl 1 rfl) ?_
      obtain ⟨hi6, h⟩ := zz_chkE h
      refine va_iald hx hb hK hP 1 0 rfl rfl hi6 dX9_fines_27 ?_
      exact zz_iret () hx hb hr hlocks dX9_fines_28 (Option.some.inj h) hP hK hD hS
    · have h := zz_ifn c5 h
      refine lv_aload_n hx hb dX9_fines_13 rfl (lv_at hl 0 rfl) ?_
      refine va_get (ci := 8) (v := .ref a_t_times) (C := RX9) (T := TX9) (N := 28) hx hb hts in_X9_fines_X9 hown hK hP 0 rfl rfl 23 (by decide) (hts _ lk_X9_fines_1) (fun _ h9 => h9) rfl dX9_fines_14 ?_
      refine lv_iload_n hx hb dX9_fines_17 rfl (lv_at hl 1 rfl) ?_
      obtain ⟨hi7, h⟩ := zz_chkE h
      refine va_iald hx hb hK hP 2 0 rfl rfl hi7 dX9_fines_18 ?_
      refine lv_goto (tgt := 28) hx hb dX9_fines_19 (by decide) ?_
      exact zz_iret () hx hb hr hlocks dX9_fines_28 (Option.some.inj h) hP hK hD hS
  · have h := zz_if c4 h
    refine lv_iconst (v := (-1)) hx hb dX9_fines_7 (by decide) ?_
    exact zz_iret () hx hb hr hlocks dX9_fines_8 (Option.some.inj h) hP hK hD hS
theorem hd_X9_move : yX9_move.cls ≠ "java/lang/invoke/MethodHandle" ∧ yX9_move.cls ≠ "java/lang/invoke/VarHandle" ∧ (parseMethodDescriptor yX9_move.desc).map (fun d => d.parameters.length) = some 1 := by decide +kernel
set_option maxRecDepth 20000 in
theorem in_X9_move_X9 : ∀ w ∈ u_ws RX9 TX9 28, w ∈ wsX9_move := by decide +kernel
set_option maxRecDepth 20000 in
theorem lk_X9_move_0 : Cond.constantLong RX9 114 (99) ∈ wsX9_move := by decide +kernel
set_option maxRecDepth 20000 in
theorem lk_X9_move_1 : Cond.fieldLink RX9 22 "TwoHousesOneChildModel" "whose" "[I" ∈ wsX9_move := by decide +kernel
set_option maxHeartbeats 4000000 in
set_option maxRecDepth 100000 in
theorem ct_X9_move (l : Launch) (dC : Nat → ClassId) (dI : Nat → Nat → Nat) (cI cJ cB cZ : ClassId) (a_t a_t_paperMany a_t_papers a_t_whose a_t_read a_t_text a_t_plan a_t_wantNight a_t_wantHouse a_t_wantWeight a_t_ahead a_t_best a_t_fines a_t_times a_t_isKept a_t_keptPlan a_t_keptFines a_t_keptTimes : Nat) (t_readMany : Int32) (t_length : Int32) (t_at : Int32) (t_faultAt : Int32) (t_year : Int32) (t_wordsNow : Int32) (t_mendChanges : Int32) (t_most : Int32) (t_above : Int32) (t_handing : Int32) (t_wants : Int32) (t_paperMany : (Nat → Int32)) (t_papers : (Nat → Int32)) (t_whose : (Nat → Int32)) (p1 : Int32) (rr : Int32) (o1 : Int32) (o2 : (Nat → Int32)) (h : fn_X9_move t_year t_wordsNow t_paperMany t_papers t_whose p1 = some (rr, o1, o2)) : zz_M l yX9_move wsX9_move ({ frames := 4, cells := 0, slots := 0, locals := 104 }) (dC, dI) (zz_T cI cJ cB cZ) [.ref a_t, .int p1] [(a_t, .inr (8, [.ref a_t_read, .int t_readMany, .ref a_t_papers, .ref a_t_paperMany, .ref a_t_text, .int t_length, .int t_at, .int t_faultAt, .int t_year, .int t_wordsNow, .ref a_t_whose, .int t_mendChanges, .ref a_t_plan, .int t_most, .int t_above, .int t_handing, .int t_wants, .ref a_t_wantNight, .ref a_t_wantHouse, .ref a_t_wantWeight, .ref a_t_ahead, .ref a_t_best, .ref a_t_fines, .ref a_t_times, .ref a_t_isKept, .ref a_t_keptPlan, .ref a_t_keptFines, .ref a_t_keptTimes])), (a_t_paperMany, .inl (cI, 3, .inl t_paperMany)), (a_t_papers, .inl (cI, 180, .inl t_papers)), (a_t_whose, .inl (cI, 56, .inl t_whose))] (zz_QI (dC, dI) (zz_T cI cJ cB cZ) (rr, o1, o2) (fun (u : Int32 × (Nat → Int32)) => [(a_t, .inr (8, [.ref a_t_read, .int t_readMany, .ref a_t_papers, .ref a_t_paperMany, .ref a_t_text, .int t_length, .int t_at, .int t_faultAt, .int t_year, .int u.1, .ref a_t_whose, .int t_mendChanges, .ref a_t_plan, .int t_most, .int t_above, .int t_handing, .int t_wants, .ref a_t_wantNight, .ref a_t_wantHouse, .ref a_t_wantWeight, .ref a_t_ahead, .ref a_t_best, .ref a_t_fines, .ref a_t_times, .ref a_t_isKept, .ref a_t_keptPlan, .ref a_t_keptFines, .ref a_t_keptTimes])), (a_t_paperMany, .inl (cI, 3, .inl t_paperMany)), (a_t_papers, .inl (cI, 180, .inl t_papers)), (a_t_whose, .inl (cI, 56, .inl u.2))])) := by
  unfold fn_X9_move at h
  refine zz_of (by decide) rfl (Nat.le_of_ble_eq_true rfl) ?_
  intro p e s m below meth c A ls hx hb hr hml hts hown hlocks hA hS hP hK hD hl
  have hown : s.vm.findClass RX9 = some m.cls := hown
  have hl : lv_has ls 4 [(0, .ref a_t), (1, .int p1)] := hl
  refine lv_iload_n hx hb dX9_move_0 rfl (lv_at hl 1 rfl) ?_
  refine lv_i2l (v := p1.toInt64) hx hb dX9_move_1 rfl ?_
  refine lv_lconst (v := 0) hx hb dX9_move_2 (by decide) ?_
  refine lv_ldc2 (v := 99) hx hb hown (hts _ lk_X9_move_0) dX9_move_3 ?_
  obtain ⟨x1, u2, he3, h⟩ := zz_b2E h
  refine zz_PI (As := [.long p1.toInt64, .long 0, .long 99]) (rest := []) ⟨hx, hb, hml, hown, hts⟩ (ct_X9_in l dC dI cI cJ cB cZ p1.toInt64 (0 : Int64) (99 : Int64) x1 u2 he3) gX9_move_X9_in hd_X9_in rfl rfl rfl ⟨Nat.le_of_ble_eq_true rfl, Nat.le_of_ble_eq_true rfl⟩ ⟨Nat.le_of_ble_eq_true rfl, Nat.le_of_ble_eq_true rfl⟩ rfl rfl (Nat.le_of_ble_eq_true rfl) dX9_move_6 hl.1 hP hK hS hA (fun H locs hP hS => ?_)
  refine lv_if_ne (tgt := 15) hx hb dX9_move_9 (by decide) (fun c4 => ?_) (fun c4 => ?_)
  · have h := zz_ifn c4 h
    refine lv_aload_n hx hb dX9_move_15 rfl (lv_at hl 0 rfl) ?_
    obtain ⟨x5, g6, he7, h⟩ := zz_b2E h
    refine zz_VV (q := (RX9, TX9, 28)) (As := []) (rest := []) (wr := []) (wm := [(a_t, .inr (8, [.ref a_t_read, .int t_readMany, .ref a_t_papers, .ref a_t_paperMany, .ref a_t_text, .int t_length, .int t_at, .int t_faultAt, .int t_year, .int x5, .ref a_t_whose, .int t_mendChanges, .ref a_t_plan, .int t_most, .int t_above, .int t_handing, .int t_wants, .ref a_t_wantNight, .ref a_t_wantHouse, .ref a_t_wantWeight, .ref a_t_ahead, .ref a_t_best, .ref a_t_fines, .ref a_t_times, .ref a_t_isKept, .ref a_t_keptPlan, .ref a_t_keptFines, .ref a_t_keptTimes])), (a_t_paperMany, .inl (cI, 3, .inl t_paperMany)), (a_t_papers, .inl (cI, 180, .inl t_papers)), (a_t_whose, .inl (cI, 56, .inl g6))]) ⟨hx, hb, hml, hown, hts⟩ (ct_X9_layWhose l dC dI cI cJ cB cZ a_t a_t_paperMany a_t_papers a_t_whose a_t_read a_t_text a_t_plan a_t_wantNight a_t_wantHouse a_t_wantWeight a_t_ahead a_t_best a_t_fines a_t_times a_t_isKept a_t_keptPlan a_t_keptFines a_t_keptTimes t_readMany t_length t_at t_faultAt t_year t_wordsNow t_mendChanges t_most t_above t_handing t_wants t_paperMany t_papers t_whose x5 g6 he7) gX9_move_X9_layWhose hd_X9_layWhose rfl rfl rfl ⟨Nat.le_of_ble_eq_true rfl, Nat.le_of_ble_eq_true rfl⟩ ⟨Nat.le_of_ble_eq_true rfl, Nat.le_of_ble_eq_true rfl⟩ rfl rfl (Nat.le_of_ble_eq_true rfl) dX9_move_16 hl.1 rfl (ci := 8) rfl (q0 := 0) rfl hP hK hD hS hA [0, 1, 2, 3] [] [0, 1, 2, 3] rfl rfl (by decide) (by decide) (by decide) (by decide) rfl (fun H locs hP hD hS => ?_)
    refine lv_iconst (v := 0) hx hb dX9_move_19 (by decide) ?_
    refine lv_istore_n (lv' := [(2, .int 0), (0, .ref a_t), (1, .int p1)]) hx hb dX9_move_20 rfl hl (by decide) rfl (fun ls hl => ?_)
    refine lv_iconst (v := 0) hx hb dX9_move_21 (by decide) ?_
    refine lv_istore_n (lv' := [(3, .int 0), (2, .int 0), (0, .ref a_t), (1, .int p1)]) hx hb dX9_move_22 rfl hl (by decide) rfl (fun ls hl => ?_)
    obtain ⟨x38, hit37, h⟩ := zz_b1E h
    refine zz_cut (fun V => ∀ (H : Heap) (locs : List Loc) (ls : Array Slot), va_P (dC, dI) vwCl [(a_t, .inr (8, [.ref a_t_read, .int t_readMany, .ref a_t_papers, .ref a_t_paperMany, .ref a_t_text, .int t_length, .int t_at, .int t_faultAt, .int t_year, .int x5, .ref a_t_whose, .int t_mendChanges, .ref a_t_plan, .int t_most, .int t_above, .int t_handing, .int t_wants, .ref a_t_wantNight, .ref a_t_wantHouse, .ref a_t_wantWeight, .ref a_t_ahead, .ref a_t_best, .ref a_t_fines, .ref a_t_times, .ref a_t_isKept, .ref a_t_keptPlan, .ref a_t_keptFines, .ref a_t_keptTimes])), (a_t_paperMany, .inl (cI, 3, .inl t_paperMany)), (a_t_papers, .inl (cI, 180, .inl t_papers)), (a_t_whose, .inl (cI, 56, .inl g6))] H → va_D A [(a_t, .inr (8, [.ref a_t_read, .int t_readMany, .ref a_t_papers, .ref a_t_paperMany, .ref a_t_text, .int t_length, .int t_at, .int t_faultAt, .int t_year, .int x5, .ref a_t_whose, .int t_mendChanges, .ref a_t_plan, .int t_most, .int t_above, .int t_handing, .int t_wants, .ref a_t_wantNight, .ref a_t_wantHouse, .ref a_t_wantWeight, .ref a_t_ahead, .ref a_t_best, .ref a_t_fines, .ref a_t_times, .ref a_t_isKept, .ref a_t_keptPlan, .ref a_t_keptFines, .ref a_t_keptTimes])), (a_t_paperMany, .inl (cI, 3, .inl t_paperMany)), (a_t_papers, .inl (cI, 180, .inl t_papers)), (a_t_whose, .inl (cI, 56, .inl g6))] → va_S A s.heap H locs → lv_has ls 4 [(2, .int x38)] → V H locs (F0 m 69 ls [])) ?_ (fun hE37 => ?_)
    · intro H locs ls hP hD hS hl
      refine lv_iload_n hx hb dX9_move_69 rfl (lv_at hl 0 rfl) ?_
      exact zz_iret (x5, g6) hx hb hr hlocks dX9_move_70 (Option.some.inj h) hP hK hD hS
    refine zz_cut (fun V => ∀ (n : Nat) (x36 : Int32) (x37 : Int32) (H : Heap) (locs : List Loc) (ls : Array Slot), zz_it (fun z => fb_X9_move_23 p1 g6 z.1 z.2) n (x36, x37) = some x38 → va_P (dC, dI) vwCl [(a_t, .inr (8, [.ref a_t_read, .int t_readMany, .ref a_t_papers, .ref a_t_paperMany, .ref a_t_text, .int t_length, .int t_at, .int t_faultAt, .int t_year, .int x5, .ref a_t_whose, .int t_mendChanges, .ref a_t_plan, .int t_most, .int t_above, .int t_handing, .int t_wants, .ref a_t_wantNight, .ref a_t_wantHouse, .ref a_t_wantWeight, .ref a_t_ahead, .ref a_t_best, .ref a_t_fines, .ref a_t_times, .ref a_t_isKept, .ref a_t_keptPlan, .ref a_t_keptFines, .ref a_t_keptTimes])), (a_t_paperMany, .inl (cI, 3, .inl t_paperMany)), (a_t_papers, .inl (cI, 180, .inl t_papers)), (a_t_whose, .inl (cI, 56, .inl g6))] H → va_D A [(a_t, .inr (8, [.ref a_t_read, .int t_readMany, .ref a_t_papers, .ref a_t_paperMany, .ref a_t_text, .int t_length, .int t_at, .int t_faultAt, .int t_year, .int x5, .ref a_t_whose, .int t_mendChanges, .ref a_t_plan, .int t_most, .int t_above, .int t_handing, .int t_wants, .ref a_t_wantNight, .ref a_t_wantHouse, .ref a_t_wantWeight, .ref a_t_ahead, .ref a_t_best, .ref a_t_fines, .ref a_t_times, .ref a_t_isKept, .ref a_t_keptPlan, .ref a_t_keptFines, .ref a_t_keptTimes])), (a_t_paperMany, .inl (cI, 3, .inl t_paperMany)), (a_t_papers, .inl (cI, 180, .inl t_papers)), (a_t_whose, .inl (cI, 56, .inl g6))] → va_S A s.heap H locs → lv_has ls 4 [(0, .ref a_t), (1, .int p1), (2, .int x36), (3, .int x37)] → V H locs (F0 m 23 ls [])) ?_ (fun hL37 => ?_)
    · intro n
      induction n with
      | zero => intro x36 x37 H locs ls hit37; exact (zz_it0 hit37).elim
      | succ n ih37 =>
        intro x36 x37 H locs ls hit37 hP hD hS hl
        obtain ⟨y37, hb37, hy37⟩ := zz_itE hit37
        have hb37 : fb_X9_move_23 p1 g6 x36 x37 = some y37 := hb37
        unfold fb_X9_move_23 at hb37
        refine lv_iload_n hx hb dX9_move_23 rfl (lv_at hl 3 rfl) ?_
        refine lv_bipush (v := 56) hx hb dX9_move_24 (by decide) ?_
        refine lv_icmp_ge (tgt := 69) hx hb dX9_move_26 (by decide) (fun c39 => ?_) (fun c39 => ?_)
        · have hb37 := zz_if c39 hb37
          obtain rfl := Option.some.inj hb37
          have hy37 := Option.some.inj hy37
          cases hy37
          exact hE37 _ _ ls hP hD hS (lv_sub hl [2] rfl)
        · have hb37 := zz_ifn c39 hb37
          refine lv_iload_n hx hb dX9_move_29 rfl (lv_at hl 1 rfl) ?_
          refine lv_bipush (v := 45) hx hb dX9_move_30 (by decide) ?_
          refine lv_icmp_le (tgt := 69) hx hb dX9_move_32 (by decide) (fun c40 => ?_) (fun c40 => ?_)
          · have hb37 := zz_if c40 hb37
            obtain rfl := Option.some.inj hb37
            have hy37 := Option.some.inj hy37
            cases hy37
            exact hE37 _ _ ls hP hD hS (lv_sub hl [2] rfl)
          · have hb37 := zz_ifn c40 hb37
            refine lv_iload_n hx hb dX9_move_35 rfl (lv_at hl 2 rfl) ?_
            refine lv_aload_n hx hb dX9_move_36 rfl (lv_at hl 0 rfl) ?_
            refine va_get (ci := 8) (v := .ref a_t_whose) (C := RX9) (T := TX9) (N := 28) hx hb hts in_X9_move_X9 hown hK hP 0 rfl rfl 10 (by decide) (hts _ lk_X9_move_1) (fun _ h9 => h9) rfl dX9_move_37 ?_
            refine lv_iload_n hx hb dX9_move_40 rfl (lv_at hl 3 rfl) ?_
            obtain ⟨hi41, hb37⟩ := zz_chkE hb37
            refine va_iald hx hb hK hP 3 0 rfl rfl hi41 dX9_move_41 ?_
            refine lv_iconst (v := 1) hx hb dX9_move_42 (by decide) ?_
            refine lv_icmp_ne (tgt := 60) hx hb dX9_move_43 (by decide) (fun c42 => ?_) (fun c42 => ?_)
            · have hb37 := zz_ifn c42 hb37
              refine lv_iconst (v := 0) hx hb dX9_move_60 (by decide) ?_
              refine lv_iadd hx hb dX9_move_61 ?_
              refine lv_topi (fun x43 ex43 => ?_)
              have hb37 := zz_nmE ex43 hb37
              refine lv_istore_n (lv' := [(2, .int x43), (0, .ref a_t), (1, .int p1), (3, .int x37)]) hx hb dX9_move_62 rfl hl (by decide) rfl (fun ls hl => ?_)
              obtain ⟨x44, ex44⟩ : ∃ z : Int32, z = x37 + 1 := ⟨_, rfl⟩
              have hb37 := zz_nmE ex44 hb37
              refine lv_iinc (v := x44) (lv' := [(3, .int x44), (2, .int x43), (0, .ref a_t), (1, .int p1)]) hx hb dX9_move_63 hl (k := 3) rfl (by rw [ex44]; rfl) (by decide) rfl (fun ls hl => ?_)
              refine lv_goto (tgt := 23) hx hb dX9_move_66 (by decide) ?_
              obtain rfl := Option.some.inj hb37
              exact ih37 x43 x44 _ _ ls hy37 hP hD hS (lv_sub hl [2, 3, 1, 0] rfl)
            · have hb37 := zz_if c42 hb37
              refine lv_aload_n hx hb dX9_move_46 rfl (lv_at hl 0 rfl) ?_
              refine lv_iload_n hx hb dX9_move_47 rfl (lv_at hl 3 rfl) ?_
              refine lv_iconst (v := 1) hx hb dX9_move_48 (by decide) ?_
              refine lv_iconst (v := 1) hx hb dX9_move_49 (by decide) ?_
              obtain ⟨x45, u46, he47, hb37⟩ := zz_b2E hb37
              refine zz_VI (q := (RX9, TX9, 28)) (As := [.int x37, .int 1, .int 1]) (rest := [.int x36]) (wr := [(a_t_paperMany, .inl (cI, 3, .inl t_paperMany)), (a_t_papers, .inl (cI, 180, .inl t_papers))]) (wm := [(a_t, .inr (8, [.ref a_t_read, .int t_readMany, .ref a_t_papers, .ref a_t_paperMany, .ref a_t_text, .int t_length, .int t_at, .int t_faultAt, .int t_year, .int x5, .ref a_t_whose, .int t_mendChanges, .ref a_t_plan, .int t_most, .int t_above, .int t_handing, .int t_wants, .ref a_t_wantNight, .ref a_t_wantHouse, .ref a_t_wantWeight, .ref a_t_ahead, .ref a_t_best, .ref a_t_fines, .ref a_t_times, .ref a_t_isKept, .ref a_t_keptPlan, .ref a_t_keptFines, .ref a_t_keptTimes])), (a_t_paperMany, .inl (cI, 3, .inl t_paperMany)), (a_t_papers, .inl (cI, 180, .inl t_papers)), (a_t_whose, .inl (cI, 56, .inl g6))]) ⟨hx, hb, hml, hown, hts⟩ (ct_X9_mayBe l dC dI cI cJ cB cZ a_t a_t_whose a_t_read a_t_papers a_t_paperMany a_t_text a_t_plan a_t_wantNight a_t_wantHouse a_t_wantWeight a_t_ahead a_t_best a_t_fines a_t_times a_t_isKept a_t_keptPlan a_t_keptFines a_t_keptTimes t_readMany t_length t_at t_faultAt t_year x5 t_mendChanges t_most t_above t_handing t_wants g6 x37 (1 : Int32) (1 : Int32) x45 u46 he47) gX9_move_X9_mayBe hd_X9_mayBe rfl rfl rfl ⟨Nat.le_of_ble_eq_true rfl, Nat.le_of_ble_eq_true rfl⟩ ⟨Nat.le_of_ble_eq_true rfl, Nat.le_of_ble_eq_true rfl⟩ rfl rfl (Nat.le_of_ble_eq_true rfl) dX9_move_50 hl.1 rfl (ci := 8) rfl (q0 := 0) rfl hP hK hD hS hA [0, 3] [1, 2] [2, 0, 1, 3] rfl rfl (by decide) (by decide) (by decide) (by decide) rfl (fun H locs hP hD hS => ?_)
              refine lv_if_ne (tgt := 60) hx hb dX9_move_53 (by decide) (fun c48 => ?_) (fun c48 => ?_)
              · have hb37 := zz_ifn c48 hb37
                refine lv_iconst (v := 0) hx hb dX9_move_60 (by decide) ?_
                refine lv_iadd hx hb dX9_move_61 ?_
                refine lv_topi (fun x49 ex49 => ?_)
                have hb37 := zz_nmE ex49 hb37
                refine lv_istore_n (lv' := [(2, .int x49), (0, .ref a_t), (1, .int p1), (3, .int x37)]) hx hb dX9_move_62 rfl hl (by decide) rfl (fun ls hl => ?_)
                obtain ⟨x50, ex50⟩ : ∃ z : Int32, z = x37 + 1 := ⟨_, rfl⟩
                have hb37 := zz_nmE ex50 hb37
                refine lv_iinc (v := x50) (lv' := [(3, .int x50), (2, .int x49), (0, .ref a_t), (1, .int p1)]) hx hb dX9_move_63 hl (k := 3) rfl (by rw [ex50]; rfl) (by decide) rfl (fun ls hl => ?_)
                refine lv_goto (tgt := 23) hx hb dX9_move_66 (by decide) ?_
                obtain rfl := Option.some.inj hb37
                exact ih37 x49 x50 _ _ ls hy37 hP hD hS (lv_sub hl [2, 3, 1, 0] rfl)
              · have hb37 := zz_if c48 hb37
                refine lv_iconst (v := 1) hx hb dX9_move_56 (by decide) ?_
                refine lv_goto (tgt := 61) hx hb dX9_move_57 (by decide) ?_
                refine lv_iadd hx hb dX9_move_61 ?_
                refine lv_topi (fun x51 ex51 => ?_)
                have hb37 := zz_nmE ex51 hb37
                refine lv_istore_n (lv' := [(2, .int x51), (0, .ref a_t), (1, .int p1), (3, .int x37)]) hx hb dX9_move_62 rfl hl (by decide) rfl (fun ls hl => ?_)
                obtain ⟨x52, ex52⟩ : ∃ z : Int32, z = x37 + 1 := ⟨_, rfl⟩
                have hb37 := zz_nmE ex52 hb37
                refine lv_iinc (v := x52) (lv' := [(3, .int x52), (2, .int x51), (0, .ref a_t), (1, .int p1)]) hx hb dX9_move_63 hl (k := 3) rfl (by rw [ex52]; rfl) (by decide) rfl (fun ls hl => ?_)
                refine lv_goto (tgt := 23) hx hb dX9_move_66 (by decide) ?_
                obtain rfl := Option.some.inj hb37
                exact ih37 x51 x52 _ _ ls hy37 hP hD hS (lv_sub hl [2, 3, 1, 0] rfl)
    exact hL37 zz_fuel 0 0 _ _ ls hit37 hP hD hS (lv_sub hl [2, 3, 1, 0] rfl)
  · have h := zz_if c4 h
    refine lv_bipush (v := (-2)) hx hb dX9_move_12 (by decide) ?_
    exact zz_iret (t_wordsNow, t_whose) hx hb hr hlocks dX9_move_14 (Option.some.inj h) hP hK hD hS
theorem hd_X9_then : yX9_then.cls ≠ "java/lang/invoke/MethodHandle" ∧ yX9_then.cls ≠ "java/lang/invoke/VarHandle" ∧ (parseMethodDescriptor yX9_then.desc).map (fun d => d.parameters.length) = some 1 := by decide +kernel
set_option maxRecDepth 20000 in
theorem lk_X9_then_0 : Cond.constantLong RX9 114 (99) ∈ wsX9_then := by decide +kernel
set_option maxHeartbeats 4000000 in
set_option maxRecDepth 100000 in
theorem ct_X9_then (l : Launch) (dC : Nat → ClassId) (dI : Nat → Nat → Nat) (cI cJ cB cZ : ClassId) (a_t a_t_ahead a_t_best a_t_paperMany a_t_papers a_t_wantHouse a_t_wantNight a_t_wantWeight a_t_whose a_t_read a_t_text a_t_plan a_t_fines a_t_times a_t_isKept a_t_keptPlan a_t_keptFines a_t_keptTimes : Nat) (t_readMany : Int32) (t_length : Int32) (t_at : Int32) (t_faultAt : Int32) (t_year : Int32) (t_wordsNow : Int32) (t_mendChanges : Int32) (t_most : Int32) (t_above : Int32) (t_handing : Int32) (t_wants : Int32) (t_ahead : (Nat → Int32)) (t_best : (Nat → Int32)) (t_paperMany : (Nat → Int32)) (t_papers : (Nat → Int32)) (t_wantHouse : (Nat → Int32)) (t_wantNight : (Nat → Int32)) (t_wantWeight : (Nat → Int32)) (t_whose : (Nat → Int32)) (p1 : Int32) (rr : Int32) (o1 : Int32) (o2 : (Nat → Int32)) (o3 : (Nat → Int32)) (o4 : (Nat → Int32)) (h : fn_X9_then t_year t_wordsNow t_most t_above t_handing t_wants t_ahead t_best t_paperMany t_papers t_wantHouse t_wantNight t_wantWeight t_whose p1 = some (rr, o1, o2, o3, o4)) : zz_M l yX9_then wsX9_then ({ frames := 5, cells := 0, slots := 0, locals := 131 }) (dC, dI) (zz_T cI cJ cB cZ) [.ref a_t, .int p1] [(a_t, .inr (8, [.ref a_t_read, .int t_readMany, .ref a_t_papers, .ref a_t_paperMany, .ref a_t_text, .int t_length, .int t_at, .int t_faultAt, .int t_year, .int t_wordsNow, .ref a_t_whose, .int t_mendChanges, .ref a_t_plan, .int t_most, .int t_above, .int t_handing, .int t_wants, .ref a_t_wantNight, .ref a_t_wantHouse, .ref a_t_wantWeight, .ref a_t_ahead, .ref a_t_best, .ref a_t_fines, .ref a_t_times, .ref a_t_isKept, .ref a_t_keptPlan, .ref a_t_keptFines, .ref a_t_keptTimes])), (a_t_ahead, .inl (cI, 1824, .inl t_ahead)), (a_t_best, .inl (cI, 56, .inl t_best)), (a_t_paperMany, .inl (cI, 3, .inl t_paperMany)), (a_t_papers, .inl (cI, 180, .inl t_papers)), (a_t_wantHouse, .inl (cI, 12, .inl t_wantHouse)), (a_t_wantNight, .inl (cI, 12, .inl t_wantNight)), (a_t_wantWeight, .inl (cI, 12, .inl t_wantWeight)), (a_t_whose, .inl (cI, 56, .inl t_whose))] (zz_QI (dC, dI) (zz_T cI cJ cB cZ) (rr, o1, o2, o3, o4) (fun (u : Int32 × (Nat → Int32) × (Nat → Int32) × (Nat → Int32)) => [(a_t, .inr (8, [.ref a_t_read, .int t_readMany, .ref a_t_papers, .ref a_t_paperMany, .ref a_t_text, .int t_length, .int t_at, .int t_faultAt, .int t_year, .int u.1, .ref a_t_whose, .int t_mendChanges, .ref a_t_plan, .int t_most, .int t_above, .int t_handing, .int t_wants, .ref a_t_wantNight, .ref a_t_wantHouse, .ref a_t_wantWeight, .ref a_t_ahead, .ref a_t_best, .ref a_t_fines, .ref a_t_times, .ref a_t_isKept, .ref a_t_keptPlan, .ref a_t_keptFines, .ref a_t_keptTimes])), (a_t_ahead, .inl (cI, 1824, .inl u.2.1)), (a_t_best, .inl (cI, 56, .inl u.2.2.1)), (a_t_paperMany, .inl (cI, 3, .inl t_paperMany)), (a_t_papers, .inl (cI, 180, .inl t_papers)), (a_t_wantHouse, .inl (cI, 12, .inl t_wantHouse)), (a_t_wantNight, .inl (cI, 12, .inl t_wantNight)), (a_t_wantWeight, .inl (cI, 12, .inl t_wantWeight)), (a_t_whose, .inl (cI, 56, .inl u.2.2.2))])) := by
  unfold fn_X9_then at h
  refine zz_of (by decide) rfl (Nat.le_of_ble_eq_true rfl) ?_
  intro p e s m below meth c A ls hx hb hr hml hts hown hlocks hA hS hP hK hD hl
  have hown : s.vm.findClass RX9 = some m.cls := hown
  have hl : lv_has ls 2 [(0, .ref a_t), (1, .int p1)] := hl
  refine lv_iload_n hx hb dX9_then_0 rfl (lv_at hl 1 rfl) ?_
  refine lv_i2l (v := p1.toInt64) hx hb dX9_then_1 rfl ?_
  refine lv_lconst (v := 0) hx hb dX9_then_2 (by decide) ?_
  refine lv_ldc2 (v := 99) hx hb hown (hts _ lk_X9_then_0) dX9_then_3 ?_
  obtain ⟨x1, u2, he3, h⟩ := zz_b2E h
  refine zz_PI (As := [.long p1.toInt64, .long 0, .long 99]) (rest := []) ⟨hx, hb, hml, hown, hts⟩ (ct_X9_in l dC dI cI cJ cB cZ p1.toInt64 (0 : Int64) (99 : Int64) x1 u2 he3) gX9_then_X9_in hd_X9_in rfl rfl rfl ⟨Nat.le_of_ble_eq_true rfl, Nat.le_of_ble_eq_true rfl⟩ ⟨Nat.le_of_ble_eq_true rfl, Nat.le_of_ble_eq_true rfl⟩ rfl rfl (Nat.le_of_ble_eq_true rfl) dX9_then_6 hl.1 hP hK hS hA (fun H locs hP hS => ?_)
  refine lv_if_eq (tgt := 30) hx hb dX9_then_9 (by decide) (fun c4 => ?_) (fun c4 => ?_)
  · have h := zz_if c4 h
    refine lv_bipush (v := (-2)) hx hb dX9_then_30 (by decide) ?_
    exact zz_iret (t_wordsNow, t_ahead, t_best, t_whose) hx hb hr hlocks dX9_then_32 (Option.some.inj h) hP hK hD hS
  · have h := zz_ifn c4 h
    refine lv_aload_n hx hb dX9_then_12 rfl (lv_at hl 0 rfl) ?_
    refine lv_iload_n hx hb dX9_then_13 rfl (lv_at hl 1 rfl) ?_
    refine lv_bipush (v := 45) hx hb dX9_then_14 (by decide) ?_
    obtain ⟨x6, hj7, h⟩ := zz_b1E h
    refine zz_cut (fun V => ∀ (H : Heap) (locs : List Loc) (ls : Array Slot), va_P (dC, dI) vwCl [(a_t, .inr (8, [.ref a_t_read, .int t_readMany, .ref a_t_papers, .ref a_t_paperMany, .ref a_t_text, .int t_length, .int t_at, .int t_faultAt, .int t_year, .int t_wordsNow, .ref a_t_whose, .int t_mendChanges, .ref a_t_plan, .int t_most, .int t_above, .int t_handing, .int t_wants, .ref a_t_wantNight, .ref a_t_wantHouse, .ref a_t_wantWeight, .ref a_t_ahead, .ref a_t_best, .ref a_t_fines, .ref a_t_times, .ref a_t_isKept, .ref a_t_keptPlan, .ref a_t_keptFines, .ref a_t_keptTimes])), (a_t_ahead, .inl (cI, 1824, .inl t_ahead)), (a_t_best, .inl (cI, 56, .inl t_best)), (a_t_paperMany, .inl (cI, 3, .inl t_paperMany)), (a_t_papers, .inl (cI, 180, .inl t_papers)), (a_t_wantHouse, .inl (cI, 12, .inl t_wantHouse)), (a_t_wantNight, .inl (cI, 12, .inl t_wantNight)), (a_t_wantWeight, .inl (cI, 12, .inl t_wantWeight)), (a_t_whose, .inl (cI, 56, .inl t_whose))] H → va_D A [(a_t, .inr (8, [.ref a_t_read, .int t_readMany, .ref a_t_papers, .ref a_t_paperMany, .ref a_t_text, .int t_length, .int t_at, .int t_faultAt, .int t_year, .int t_wordsNow, .ref a_t_whose, .int t_mendChanges, .ref a_t_plan, .int t_most, .int t_above, .int t_handing, .int t_wants, .ref a_t_wantNight, .ref a_t_wantHouse, .ref a_t_wantWeight, .ref a_t_ahead, .ref a_t_best, .ref a_t_fines, .ref a_t_times, .ref a_t_isKept, .ref a_t_keptPlan, .ref a_t_keptFines, .ref a_t_keptTimes])), (a_t_ahead, .inl (cI, 1824, .inl t_ahead)), (a_t_best, .inl (cI, 56, .inl t_best)), (a_t_paperMany, .inl (cI, 3, .inl t_paperMany)), (a_t_papers, .inl (cI, 180, .inl t_papers)), (a_t_wantHouse, .inl (cI, 12, .inl t_wantHouse)), (a_t_wantNight, .inl (cI, 12, .inl t_wantNight)), (a_t_wantWeight, .inl (cI, 12, .inl t_wantWeight)), (a_t_whose, .inl (cI, 56, .inl t_whose))] → va_S A s.heap H locs → lv_has ls 2 [] → V H locs (F0 m 24 ls [.int x6, .ref a_t])) ?_ (fun hJ7 => ?_)
    · intro H locs ls hP hD hS hl
      obtain ⟨x8, x9, g10, g11, g12, he13, h⟩ := zz_b5E h
      refine zz_VI (q := (RX9, TX9, 28)) (As := [.int x6]) (rest := []) (wr := []) (wm := [(a_t, .inr (8, [.ref a_t_read, .int t_readMany, .ref a_t_papers, .ref a_t_paperMany, .ref a_t_text, .int t_length, .int t_at, .int t_faultAt, .int t_year, .int x9, .ref a_t_whose, .int t_mendChanges, .ref a_t_plan, .int t_most, .int t_above, .int t_handing, .int t_wants, .ref a_t_wantNight, .ref a_t_wantHouse, .ref a_t_wantWeight, .ref a_t_ahead, .ref a_t_best, .ref a_t_fines, .ref a_t_times, .ref a_t_isKept, .ref a_t_keptPlan, .ref a_t_keptFines, .ref a_t_keptTimes])), (a_t_ahead, .inl (cI, 1824, .inl g10)), (a_t_best, .inl (cI, 56, .inl g11)), (a_t_paperMany, .inl (cI, 3, .inl t_paperMany)), (a_t_papers, .inl (cI, 180, .inl t_papers)), (a_t_wantHouse, .inl (cI, 12, .inl t_wantHouse)), (a_t_wantNight, .inl (cI, 12, .inl t_wantNight)), (a_t_wantWeight, .inl (cI, 12, .inl t_wantWeight)), (a_t_whose, .inl (cI, 56, .inl g12))]) ⟨hx, hb, hml, hown, hts⟩ (ct_X9_layBest l dC dI cI cJ cB cZ a_t a_t_ahead a_t_best a_t_paperMany a_t_papers a_t_wantHouse a_t_wantNight a_t_wantWeight a_t_whose a_t_read a_t_text a_t_plan a_t_fines a_t_times a_t_isKept a_t_keptPlan a_t_keptFines a_t_keptTimes t_readMany t_length t_at t_faultAt t_year t_wordsNow t_mendChanges t_most t_above t_handing t_wants t_ahead t_best t_paperMany t_papers t_wantHouse t_wantNight t_wantWeight t_whose x6 x8 x9 g10 g11 g12 he13) gX9_then_X9_layBest hd_X9_layBest rfl rfl rfl ⟨Nat.le_of_ble_eq_true rfl, Nat.le_of_ble_eq_true rfl⟩ ⟨Nat.le_of_ble_eq_true rfl, Nat.le_of_ble_eq_true rfl⟩ rfl rfl (Nat.le_of_ble_eq_true rfl) dX9_then_24 hl.1 rfl (ci := 8) rfl (q0 := 0) rfl hP hK hD hS hA [0, 1, 2, 3, 4, 5, 6, 7, 8] [] [0, 1, 2, 3, 4, 5, 6, 7, 8] rfl rfl (by decide) (by decide) (by decide) (by decide) rfl (fun H locs hP hD hS => ?_)
      refine lv_goto (tgt := 32) hx hb dX9_then_27 (by decide) ?_
      exact zz_iret (x9, g10, g11, g12) hx hb hr hlocks dX9_then_32 (Option.some.inj h) hP hK hD hS
    refine lv_icmp_le (tgt := 23) hx hb dX9_then_16 (by decide) (fun c5 => ?_) (fun c5 => ?_)
    · have hj7 := zz_if c5 hj7
      refine lv_iconst (v := 0) hx hb dX9_then_23 (by decide) ?_
      cases hj7
      exact hJ7 _ _ ls hP hD hS (lv_sub hl [] rfl)
    · have hj7 := zz_ifn c5 hj7
      refine lv_iconst (v := 1) hx hb dX9_then_19 (by decide) ?_
      refine lv_goto (tgt := 24) hx hb dX9_then_20 (by decide) ?_
      cases hj7
      exact hJ7 _ _ ls hP hD hS (lv_sub hl [] rfl)
theorem hd_X9_together : yX9_together.cls ≠ "java/lang/invoke/MethodHandle" ∧ yX9_together.cls ≠ "java/lang/invoke/VarHandle" ∧ (parseMethodDescriptor yX9_together.desc).map (fun d => d.parameters.length) = some 2 := by decide +kernel
set_option maxRecDepth 20000 in
theorem in_X9_together_X9 : ∀ w ∈ u_ws RX9 TX9 28, w ∈ wsX9_together := by decide +kernel
set_option maxRecDepth 20000 in
theorem lk_X9_together_0 : Cond.fieldLink RX9 49 "TwoHousesOneChildModel" "isKept" "[Z" ∈ wsX9_together := by decide +kernel
set_option maxRecDepth 20000 in
theorem lk_X9_together_1 : Cond.fieldLink RX9 72 "TwoHousesOneChildModel" "year" "I" ∈ wsX9_together := by decide +kernel
set_option maxHeartbeats 4000000 in
set_option maxRecDepth 100000 in
theorem ct_X9_together (l : Launch) (dC : Nat → ClassId) (dI : Nat → Nat → Nat) (cI cJ cB cZ : ClassId) (a_t a_t_isKept a_t_paperMany a_t_papers a_t_read a_t_text a_t_whose a_t_plan a_t_wantNight a_t_wantHouse a_t_wantWeight a_t_ahead a_t_best a_t_fines a_t_times a_t_keptPlan a_t_keptFines a_t_keptTimes : Nat) (t_readMany : Int32) (t_length : Int32) (t_at : Int32) (t_faultAt : Int32) (t_year : Int32) (t_wordsNow : Int32) (t_mendChanges : Int32) (t_most : Int32) (t_above : Int32) (t_handing : Int32) (t_wants : Int32) (t_isKept : (Nat → Int32)) (t_paperMany : (Nat → Int32)) (t_papers : (Nat → Int32)) (p1 : Int32) (p2 : Int32) (rr : Int32) (o1 : Int32) (h : fn_X9_together t_year t_wordsNow t_isKept t_paperMany t_papers p1 p2 = some (rr, o1)) : zz_M l yX9_together wsX9_together ({ frames := 3, cells := 0, slots := 0, locals := 83 }) (dC, dI) (zz_T cI cJ cB cZ) [.ref a_t, .int p1, .int p2] [(a_t, .inr (8, [.ref a_t_read, .int t_readMany, .ref a_t_papers, .ref a_t_paperMany, .ref a_t_text, .int t_length, .int t_at, .int t_faultAt, .int t_year, .int t_wordsNow, .ref a_t_whose, .int t_mendChanges, .ref a_t_plan, .int t_most, .int t_above, .int t_handing, .int t_wants, .ref a_t_wantNight, .ref a_t_wantHouse, .ref a_t_wantWeight, .ref a_t_ahead, .ref a_t_best, .ref a_t_fines, .ref a_t_times, .ref a_t_isKept, .ref a_t_keptPlan, .ref a_t_keptFines, .ref a_t_keptTimes])), (a_t_isKept, .inl (cZ, 2, .inl t_isKept)), (a_t_paperMany, .inl (cI, 3, .inl t_paperMany)), (a_t_papers, .inl (cI, 180, .inl t_papers))] (zz_QI (dC, dI) (zz_T cI cJ cB cZ) (rr, o1) (fun (u : Int32) => [(a_t, .inr (8, [.ref a_t_read, .int t_readMany, .ref a_t_papers, .ref a_t_paperMany, .ref a_t_text, .int t_length, .int t_at, .int t_faultAt, .int t_year, .int u, .ref a_t_whose, .int t_mendChanges, .ref a_t_plan, .int t_most, .int t_above, .int t_handing, .int t_wants, .ref a_t_wantNight, .ref a_t_wantHouse, .ref a_t_wantWeight, .ref a_t_ahead, .ref a_t_best, .ref a_t_fines, .ref a_t_times, .ref a_t_isKept, .ref a_t_keptPlan, .ref a_t_keptFines, .ref a_t_keptTimes])), (a_t_isKept, .inl (cZ, 2, .inl t_isKept)), (a_t_paperMany, .inl (cI, 3, .inl t_paperMany)), (a_t_papers, .inl (cI, 180, .inl t_papers))])) := by
  unfold fn_X9_together at h
  refine zz_of (by decide) rfl (Nat.le_of_ble_eq_true rfl) ?_
  intro p e s m below meth c A ls hx hb hr hml hts hown hlocks hA hS hP hK hD hl
  have hown : s.vm.findClass RX9 = some m.cls := hown
  have hl : lv_has ls 7 [(0, .ref a_t), (1, .int p1), (2, .int p2)] := hl
  refine lv_iload_n hx hb dX9_together_0 rfl (lv_at hl 1 rfl) ?_
  refine lv_i2l (v := p1.toInt64) hx hb dX9_together_1 rfl ?_
  refine lv_lconst (v := 0) hx hb dX9_together_2 (by decide) ?_
  refine lv_lconst (v := 1) hx hb dX9_together_3 (by decide) ?_
  obtain ⟨x1, u2, he3, h⟩ := zz_b2E h
  refine zz_PI (As := [.long p1.toInt64, .long 0, .long 1]) (rest := []) ⟨hx, hb, hml, hown, hts⟩ (ct_X9_in l dC dI cI cJ cB cZ p1.toInt64 (0 : Int64) (1 : Int64) x1 u2 he3) gX9_together_X9_in hd_X9_in rfl rfl rfl ⟨Nat.le_of_ble_eq_true rfl, Nat.le_of_ble_eq_true rfl⟩ ⟨Nat.le_of_ble_eq_true rfl, Nat.le_of_ble_eq_true rfl⟩ rfl rfl (Nat.le_of_ble_eq_true rfl) dX9_together_4 hl.1 hP hK hS hA (fun H locs hP hS => ?_)
  refine lv_if_ne (tgt := 12) hx hb dX9_together_7 (by decide) (fun c4 => ?_) (fun c4 => ?_)
  · have h := zz_ifn c4 h
    refine lv_aload_n hx hb dX9_together_12 rfl (lv_at hl 0 rfl) ?_
    refine va_get (ci := 8) (v := .ref a_t_isKept) (C := RX9) (T := TX9) (N := 28) hx hb hts in_X9_together_X9 hown hK hP 0 rfl rfl 24 (by decide) (hts _ lk_X9_together_0) (fun _ h9 => h9) rfl dX9_together_13 ?_
    refine lv_iload_n hx hb dX9_together_16 rfl (lv_at hl 1 rfl) ?_
    obtain ⟨hi5, h⟩ := zz_chkE h
    refine va_zald hx hb hK hP 1 3 rfl rfl hi5 dX9_together_17 ?_
    refine lv_if_ne (tgt := 24) hx hb dX9_together_18 (by decide) (fun c6 => ?_) (fun c6 => ?_)
    · have h := zz_ifn c6 h
      refine lv_iconst (v := 0) hx hb dX9_together_24 (by decide) ?_
      refine lv_istore_n (lv' := [(3, .int 0), (0, .ref a_t), (1, .int p1), (2, .int p2)]) hx hb dX9_together_25 rfl hl (by decide) rfl (fun ls hl => ?_)
      refine lv_iconst (v := 0) hx hb dX9_together_26 (by decide) ?_
      refine lv_istore (lv' := [(4, .int 0), (3, .int 0), (0, .ref a_t), (1, .int p1), (2, .int p2)]) hx hb dX9_together_27 hl (by decide) rfl (fun ls hl => ?_)
      obtain ⟨x64, x65, hit63, h⟩ := zz_b2E h
      refine zz_cut (fun V => ∀ (H : Heap) (locs : List Loc) (ls : Array Slot), va_P (dC, dI) vwCl [(a_t, .inr (8, [.ref a_t_read, .int t_readMany, .ref a_t_papers, .ref a_t_paperMany, .ref a_t_text, .int t_length, .int t_at, .int t_faultAt, .int t_year, .int x65, .ref a_t_whose, .int t_mendChanges, .ref a_t_plan, .int t_most, .int t_above, .int t_handing, .int t_wants, .ref a_t_wantNight, .ref a_t_wantHouse, .ref a_t_wantWeight, .ref a_t_ahead, .ref a_t_best, .ref a_t_fines, .ref a_t_times, .ref a_t_isKept, .ref a_t_keptPlan, .ref a_t_keptFines, .ref a_t_keptTimes])), (a_t_isKept, .inl (cZ, 2, .inl t_isKept)), (a_t_paperMany, .inl (cI, 3, .inl t_paperMany)), (a_t_papers, .inl (cI, 180, .inl t_papers))] H → va_D A [(a_t, .inr (8, [.ref a_t_read, .int t_readMany, .ref a_t_papers, .ref a_t_paperMany, .ref a_t_text, .int t_length, .int t_at, .int t_faultAt, .int t_year, .int x65, .ref a_t_whose, .int t_mendChanges, .ref a_t_plan, .int t_most, .int t_above, .int t_handing, .int t_wants, .ref a_t_wantNight, .ref a_t_wantHouse, .ref a_t_wantWeight, .ref a_t_ahead, .ref a_t_best, .ref a_t_fines, .ref a_t_times, .ref a_t_isKept, .ref a_t_keptPlan, .ref a_t_keptFines, .ref a_t_keptTimes])), (a_t_isKept, .inl (cZ, 2, .inl t_isKept)), (a_t_paperMany, .inl (cI, 3, .inl t_paperMany)), (a_t_papers, .inl (cI, 180, .inl t_papers))] → va_S A s.heap H locs → lv_has ls 7 [(3, .int x64)] → V H locs (F0 m 124 ls [])) ?_ (fun hE63 => ?_)
      · intro H locs ls hP hD hS hl
        refine lv_iload_n hx hb dX9_together_124 rfl (lv_at hl 0 rfl) ?_
        exact zz_iret x65 hx hb hr hlocks dX9_together_125 (Option.some.inj h) hP hK hD hS
      refine zz_cut (fun V => ∀ (n : Nat) (x61 : Int32) (x62 : Int32) (x63 : Int32) (H : Heap) (locs : List Loc) (ls : Array Slot), zz_it (fun z => fb_X9_together_29 p1 p2 t_year t_paperMany t_papers z.1 z.2.1 z.2.2) n (x61, x62, x63) = some (x64, x65) → va_P (dC, dI) vwCl [(a_t, .inr (8, [.ref a_t_read, .int t_readMany, .ref a_t_papers, .ref a_t_paperMany, .ref a_t_text, .int t_length, .int t_at, .int t_faultAt, .int t_year, .int x63, .ref a_t_whose, .int t_mendChanges, .ref a_t_plan, .int t_most, .int t_above, .int t_handing, .int t_wants, .ref a_t_wantNight, .ref a_t_wantHouse, .ref a_t_wantWeight, .ref a_t_ahead, .ref a_t_best, .ref a_t_fines, .ref a_t_times, .ref a_t_isKept, .ref a_t_keptPlan, .ref a_t_keptFines, .ref a_t_keptTimes])), (a_t_isKept, .inl (cZ, 2, .inl t_isKept)), (a_t_paperMany, .inl (cI, 3, .inl t_paperMany)), (a_t_papers, .inl (cI, 180, .inl t_papers))] H → va_D A [(a_t, .inr (8, [.ref a_t_read, .int t_readMany, .ref a_t_papers, .ref a_t_paperMany, .ref a_t_text, .int t_length, .int t_at, .int t_faultAt, .int t_year, .int x63, .ref a_t_whose, .int t_mendChanges, .ref a_t_plan, .int t_most, .int t_above, .int t_handing, .int t_wants, .ref a_t_wantNight, .ref a_t_wantHouse, .ref a_t_wantWeight, .ref a_t_ahead, .ref a_t_best, .ref a_t_fines, .ref a_t_times, .ref a_t_isKept, .ref a_t_keptPlan, .ref a_t_keptFines, .ref a_t_keptTimes])), (a_t_isKept, .inl (cZ, 2, .inl t_isKept)), (a_t_paperMany, .inl (cI, 3, .inl t_paperMany)), (a_t_papers, .inl (cI, 180, .inl t_papers))] → va_S A s.heap H locs → lv_has ls 7 [(0, .ref a_t), (1, .int p1), (2, .int p2), (3, .int x61), (4, .int x62)] → V H locs (F0 m 29 ls [])) ?_ (fun hL63 => ?_)
      · intro n
        induction n with
        | zero => intro x61 x62 x63 H locs ls hit63; exact (zz_it0 hit63).elim
        | succ n ih63 =>
          intro x61 x62 x63 H locs ls hit63 hP hD hS hl
          obtain ⟨y63, hb63, hy63⟩ := zz_itE hit63
          have hb63 : fb_X9_together_29 p1 p2 t_year t_paperMany t_papers x61 x62 x63 = some y63 := hb63
          unfold fb_X9_together_29 at hb63
          refine lv_iload hx hb dX9_together_29 (lv_at hl 4 rfl) ?_
          refine lv_bipush (v := 56) hx hb dX9_together_31 (by decide) ?_
          refine lv_icmp_ge (tgt := 124) hx hb dX9_together_33 (by decide) (fun c66 => ?_) (fun c66 => ?_)
          · have hb63 := zz_if c66 hb63
            obtain rfl := Option.some.inj hb63
            have hy63 := Option.some.inj hy63
            cases hy63
            exact hE63 _ _ ls hP hD hS (lv_sub hl [3] rfl)
          · have hb63 := zz_ifn c66 hb63
            refine lv_aload_n hx hb dX9_together_36 rfl (lv_at hl 0 rfl) ?_
            refine lv_iconst (v := 0) hx hb dX9_together_37 (by decide) ?_
            refine lv_iload hx hb dX9_together_38 (lv_at hl 4 rfl) ?_
            refine lv_aload_n hx hb dX9_together_40 rfl (lv_at hl 0 rfl) ?_
            refine va_get (ci := 8) (v := .int t_year) (C := RX9) (T := TX9) (N := 28) hx hb hts in_X9_together_X9 hown hK hP 0 rfl rfl 8 (by decide) (hts _ lk_X9_together_1) (fun _ h9 => h9) rfl dX9_together_41 ?_
            refine lv_iconst (v := 0) hx hb dX9_together_44 (by decide) ?_
            obtain ⟨x67, x68, he69, hb63⟩ := zz_b2E hb63
            refine zz_VI (q := (RX9, TX9, 28)) (As := [.int 0, .int x62, .int t_year, .int 0]) (rest := []) (wr := [(a_t_isKept, .inl (cZ, 2, .inl t_isKept))]) (wm := [(a_t, .inr (8, [.ref a_t_read, .int t_readMany, .ref a_t_papers, .ref a_t_paperMany, .ref a_t_text, .int t_length, .int t_at, .int t_faultAt, .int t_year, .int x68, .ref a_t_whose, .int t_mendChanges, .ref a_t_plan, .int t_most, .int t_above, .int t_handing, .int t_wants, .ref a_t_wantNight, .ref a_t_wantHouse, .ref a_t_wantWeight, .ref a_t_ahead, .ref a_t_best, .ref a_t_fines, .ref a_t_times, .ref a_t_isKept, .ref a_t_keptPlan, .ref a_t_keptFines, .ref a_t_keptTimes])), (a_t_isKept, .inl (cZ, 2, .inl t_isKept)), (a_t_paperMany, .inl (cI, 3, .inl t_paperMany)), (a_t_papers, .inl (cI, 180, .inl t_papers))]) ⟨hx, hb, hml, hown, hts⟩ (ct_X9_whoseOf l dC dI cI cJ cB cZ a_t a_t_paperMany a_t_papers a_t_read a_t_text a_t_whose a_t_plan a_t_wantNight a_t_wantHouse a_t_wantWeight a_t_ahead a_t_best a_t_fines a_t_times a_t_isKept a_t_keptPlan a_t_keptFines a_t_keptTimes t_readMany t_length t_at t_faultAt t_year x63 t_mendChanges t_most t_above t_handing t_wants t_paperMany t_papers (0 : Int32) x62 t_year (0 : Int32) x67 x68 he69) gX9_together_X9_whoseOf hd_X9_whoseOf rfl rfl rfl ⟨Nat.le_of_ble_eq_true rfl, Nat.le_of_ble_eq_true rfl⟩ ⟨Nat.le_of_ble_eq_true rfl, Nat.le_of_ble_eq_true rfl⟩ rfl rfl (Nat.le_of_ble_eq_true rfl) dX9_together_45 hl.1 rfl (ci := 8) rfl (q0 := 0) rfl hP hK hD hS hA [0, 2, 3] [1] [1, 0, 2, 3] rfl rfl (by decide) (by decide) (by decide) (by decide) rfl (fun H locs hP hD hS => ?_)
            refine lv_istore (lv' := [(5, .int x67), (0, .ref a_t), (1, .int p1), (2, .int p2), (3, .int x61), (4, .int x62)]) hx hb dX9_together_48 hl (by decide) rfl (fun ls hl => ?_)
            refine lv_aload_n hx hb dX9_together_50 rfl (lv_at hl 1 rfl) ?_
            refine lv_iconst (v := 1) hx hb dX9_together_51 (by decide) ?_
            refine lv_iload_n hx hb dX9_together_52 rfl (lv_at hl 2 rfl) ?_
            refine lv_iadd hx hb dX9_together_53 ?_
            refine lv_iload hx hb dX9_together_54 (lv_at hl 5 rfl) ?_
            refine lv_aload_n hx hb dX9_together_56 rfl (lv_at hl 1 rfl) ?_
            refine va_get (ci := 8) (v := .int t_year) (C := RX9) (T := TX9) (N := 28) hx hb hts in_X9_together_X9 hown hK hP 0 rfl rfl 8 (by decide) (hts _ lk_X9_together_1) (fun _ h9 => h9) rfl dX9_together_57 ?_
            refine lv_iconst (v := 0) hx hb dX9_together_60 (by decide) ?_
            obtain ⟨x70, x71, he72, hb63⟩ := zz_b2E hb63
            refine zz_VI (q := (RX9, TX9, 28)) (As := [.int (1 + p1), .int x62, .int t_year, .int 0]) (rest := []) (wr := [(a_t_isKept, .inl (cZ, 2, .inl t_isKept))]) (wm := [(a_t, .inr (8, [.ref a_t_read, .int t_readMany, .ref a_t_papers, .ref a_t_paperMany, .ref a_t_text, .int t_length, .int t_at, .int t_faultAt, .int t_year, .int x71, .ref a_t_whose, .int t_mendChanges, .ref a_t_plan, .int t_most, .int t_above, .int t_handing, .int t_wants, .ref a_t_wantNight, .ref a_t_wantHouse, .ref a_t_wantWeight, .ref a_t_ahead, .ref a_t_best, .ref a_t_fines, .ref a_t_times, .ref a_t_isKept, .ref a_t_keptPlan, .ref a_t_keptFines, .ref a_t_keptTimes])), (a_t_isKept, .inl (cZ, 2, .inl t_isKept)), (a_t_paperMany, .inl (cI, 3, .inl t_paperMany)), (a_t_papers, .inl (cI, 180, .inl t_papers))]) ⟨hx, hb, hml, hown, hts⟩ (ct_X9_whoseOf l dC dI cI cJ cB cZ a_t a_t_paperMany a_t_papers a_t_read a_t_text a_t_whose a_t_plan a_t_wantNight a_t_wantHouse a_t_wantWeight a_t_ahead a_t_best a_t_fines a_t_times a_t_isKept a_t_keptPlan a_t_keptFines a_t_keptTimes t_readMany t_length t_at t_faultAt t_year x68 t_mendChanges t_most t_above t_handing t_wants t_paperMany t_papers (1 + p1) x62 t_year (0 : Int32) x70 x71 he72) gX9_together_X9_whoseOf hd_X9_whoseOf rfl rfl rfl ⟨Nat.le_of_ble_eq_true rfl, Nat.le_of_ble_eq_true rfl⟩ ⟨Nat.le_of_ble_eq_true rfl, Nat.le_of_ble_eq_true rfl⟩ rfl rfl (Nat.le_of_ble_eq_true rfl) dX9_together_61 hl.1 rfl (ci := 8) rfl (q0 := 0) rfl hP hK hD hS hA [0, 2, 3] [1] [1, 0, 2, 3] rfl rfl (by decide) (by decide) (by decide) (by decide) rfl (fun H locs hP hD hS => ?_)
            refine lv_istore (lv' := [(6, .int x70), (5, .int x67), (0, .ref a_t), (1, .int p1), (2, .int p2), (3, .int x61), (4, .int x62)]) hx hb dX9_together_64 hl (by decide) rfl (fun ls hl => ?_)
            refine lv_iload_n hx hb dX9_together_66 rfl (lv_at hl 5 rfl) ?_
            refine lv_iload_n hx hb dX9_together_67 rfl (lv_at hl 4 rfl) ?_
            refine lv_if_eq (tgt := 98) hx hb dX9_together_68 (by decide) (fun c73 => ?_) (fun c73 => ?_)
            · have hb63 := zz_if c73 hb63
              refine lv_iload hx hb dX9_together_98 (lv_at hl 1 rfl) ?_
              refine lv_iconst (v := 2) hx hb dX9_together_100 (by decide) ?_
              refine lv_icmp_ge (tgt := 115) hx hb dX9_together_101 (by decide) (fun c74 => ?_) (fun c74 => ?_)
              · have hb63 := zz_if c74 hb63
                refine lv_iconst (v := 0) hx hb dX9_together_115 (by decide) ?_
                refine lv_iadd hx hb dX9_together_116 ?_
                refine lv_topi (fun x75 ex75 => ?_)
                have hb63 := zz_nmE ex75 hb63
                refine lv_istore_n (lv' := [(3, .int x75), (6, .int x70), (5, .int x67), (0, .ref a_t), (1, .int p1), (2, .int p2), (4, .int x62)]) hx hb dX9_together_117 rfl hl (by decide) rfl (fun ls hl => ?_)
                obtain ⟨x76, ex76⟩ : ∃ z : Int32, z = x62 + 1 := ⟨_, rfl⟩
                have hb63 := zz_nmE ex76 hb63
                refine lv_iinc (v := x76) (lv' := [(4, .int x76), (3, .int x75), (6, .int x70), (5, .int x67), (0, .ref a_t), (1, .int p1), (2, .int p2)]) hx hb dX9_together_118 hl (k := 6) rfl (by rw [ex76]; rfl) (by decide) rfl (fun ls hl => ?_)
                refine lv_goto (tgt := 29) hx hb dX9_together_121 (by decide) ?_
                obtain rfl := Option.some.inj hb63
                exact ih63 x75 x76 x71 _ _ ls hy63 hP hD hS (lv_sub hl [4, 5, 6, 1, 0] rfl)
              · have hb63 := zz_ifn c74 hb63
                refine lv_iload hx hb dX9_together_104 (lv_at hl 1 rfl) ?_
                refine lv_iload hx hb dX9_together_106 (lv_at hl 0 rfl) ?_
                refine lv_icmp_ne (tgt := 115) hx hb dX9_together_108 (by decide) (fun c77 => ?_) (fun c77 => ?_)
                · have hb63 := zz_ifn c77 hb63
                  refine lv_iconst (v := 0) hx hb dX9_together_115 (by decide) ?_
                  refine lv_iadd hx hb dX9_together_116 ?_
                  refine lv_topi (fun x78 ex78 => ?_)
                  have hb63 := zz_nmE ex78 hb63
                  refine lv_istore_n (lv' := [(3, .int x78), (6, .int x70), (5, .int x67), (0, .ref a_t), (1, .int p1), (2, .int p2), (4, .int x62)]) hx hb dX9_together_117 rfl hl (by decide) rfl (fun ls hl => ?_)
                  obtain ⟨x79, ex79⟩ : ∃ z : Int32, z = x62 + 1 := ⟨_, rfl⟩
                  have hb63 := zz_nmE ex79 hb63
                  refine lv_iinc (v := x79) (lv' := [(4, .int x79), (3, .int x78), (6, .int x70), (5, .int x67), (0, .ref a_t), (1, .int p1), (2, .int p2)]) hx hb dX9_together_118 hl (k := 6) rfl (by rw [ex79]; rfl) (by decide) rfl (fun ls hl => ?_)
                  refine lv_goto (tgt := 29) hx hb dX9_together_121 (by decide) ?_
                  obtain rfl := Option.some.inj hb63
                  exact ih63 x78 x79 x71 _ _ ls hy63 hP hD hS (lv_sub hl [4, 5, 6, 1, 0] rfl)
                · have hb63 := zz_if c77 hb63
                  refine lv_iconst (v := 1) hx hb dX9_together_111 (by decide) ?_
                  refine lv_goto (tgt := 116) hx hb dX9_together_112 (by decide) ?_
                  refine lv_iadd hx hb dX9_together_116 ?_
                  refine lv_topi (fun x80 ex80 => ?_)
                  have hb63 := zz_nmE ex80 hb63
                  refine lv_istore_n (lv' := [(3, .int x80), (6, .int x70), (5, .int x67), (0, .ref a_t), (1, .int p1), (2, .int p2), (4, .int x62)]) hx hb dX9_together_117 rfl hl (by decide) rfl (fun ls hl => ?_)
                  obtain ⟨x81, ex81⟩ : ∃ z : Int32, z = x62 + 1 := ⟨_, rfl⟩
                  have hb63 := zz_nmE ex81 hb63
                  refine lv_iinc (v := x81) (lv' := [(4, .int x81), (3, .int x80), (6, .int x70), (5, .int x67), (0, .ref a_t), (1, .int p1), (2, .int p2)]) hx hb dX9_together_118 hl (k := 6) rfl (by rw [ex81]; rfl) (by decide) rfl (fun ls hl => ?_)
                  refine lv_goto (tgt := 29) hx hb dX9_together_121 (by decide) ?_
                  obtain rfl := Option.some.inj hb63
                  exact ih63 x80 x81 x71 _ _ ls hy63 hP hD hS (lv_sub hl [4, 5, 6, 1, 0] rfl)
            · have hb63 := zz_ifn c73 hb63
              refine lv_iload hx hb dX9_together_71 (lv_at hl 1 rfl) ?_
              refine lv_iconst (v := 1) hx hb dX9_together_73 (by decide) ?_
              refine lv_icmp_gt (tgt := 90) hx hb dX9_together_74 (by decide) (fun c82 => ?_) (fun c82 => ?_)
              · have hb63 := zz_if c82 hb63
                refine lv_iconst (v := 1) hx hb dX9_together_90 (by decide) ?_
                refine lv_goto (tgt := 116) hx hb dX9_together_91 (by decide) ?_
                refine lv_iadd hx hb dX9_together_116 ?_
                refine lv_topi (fun x83 ex83 => ?_)
                have hb63 := zz_nmE ex83 hb63
                refine lv_istore_n (lv' := [(3, .int x83), (6, .int x70), (5, .int x67), (0, .ref a_t), (1, .int p1), (2, .int p2), (4, .int x62)]) hx hb dX9_together_117 rfl hl (by decide) rfl (fun ls hl => ?_)
                obtain ⟨x84, ex84⟩ : ∃ z : Int32, z = x62 + 1 := ⟨_, rfl⟩
                have hb63 := zz_nmE ex84 hb63
                refine lv_iinc (v := x84) (lv' := [(4, .int x84), (3, .int x83), (6, .int x70), (5, .int x67), (0, .ref a_t), (1, .int p1), (2, .int p2)]) hx hb dX9_together_118 hl (k := 6) rfl (by rw [ex84]; rfl) (by decide) rfl (fun ls hl => ?_)
                refine lv_goto (tgt := 29) hx hb dX9_together_121 (by decide) ?_
                obtain rfl := Option.some.inj hb63
                exact ih63 x83 x84 x71 _ _ ls hy63 hP hD hS (lv_sub hl [4, 5, 6, 1, 0] rfl)
              · have hb63 := zz_ifn c82 hb63
                refine lv_iload hx hb dX9_together_77 (lv_at hl 0 rfl) ?_
                refine lv_iconst (v := 1) hx hb dX9_together_79 (by decide) ?_
                refine lv_icmp_gt (tgt := 90) hx hb dX9_together_80 (by decide) (fun c85 => ?_) (fun c85 => ?_)
                · have hb63 := zz_if c85 hb63
                  refine lv_iconst (v := 1) hx hb dX9_together_90 (by decide) ?_
                  refine lv_goto (tgt := 116) hx hb dX9_together_91 (by decide) ?_
                  refine lv_iadd hx hb dX9_together_116 ?_
                  refine lv_topi (fun x86 ex86 => ?_)
                  have hb63 := zz_nmE ex86 hb63
                  refine lv_istore_n (lv' := [(3, .int x86), (6, .int x70), (5, .int x67), (0, .ref a_t), (1, .int p1), (2, .int p2), (4, .int x62)]) hx hb dX9_together_117 rfl hl (by decide) rfl (fun ls hl => ?_)
                  obtain ⟨x87, ex87⟩ : ∃ z : Int32, z = x62 + 1 := ⟨_, rfl⟩
                  have hb63 := zz_nmE ex87 hb63
                  refine lv_iinc (v := x87) (lv' := [(4, .int x87), (3, .int x86), (6, .int x70), (5, .int x67), (0, .ref a_t), (1, .int p1), (2, .int p2)]) hx hb dX9_together_118 hl (k := 6) rfl (by rw [ex87]; rfl) (by decide) rfl (fun ls hl => ?_)
                  refine lv_goto (tgt := 29) hx hb dX9_together_121 (by decide) ?_
                  obtain rfl := Option.some.inj hb63
                  exact ih63 x86 x87 x71 _ _ ls hy63 hP hD hS (lv_sub hl [4, 5, 6, 1, 0] rfl)
                · have hb63 := zz_ifn c85 hb63
                  refine lv_iload hx hb dX9_together_83 (lv_at hl 1 rfl) ?_
                  refine lv_iload hx hb dX9_together_85 (lv_at hl 0 rfl) ?_
                  refine lv_icmp_ne (tgt := 94) hx hb dX9_together_87 (by decide) (fun c88 => ?_) (fun c88 => ?_)
                  · have hb63 := zz_ifn c88 hb63
                    refine lv_iconst (v := 0) hx hb dX9_together_94 (by decide) ?_
                    refine lv_goto (tgt := 116) hx hb dX9_together_95 (by decide) ?_
                    refine lv_iadd hx hb dX9_together_116 ?_
                    refine lv_topi (fun x89 ex89 => ?_)
                    have hb63 := zz_nmE ex89 hb63
                    refine lv_istore_n (lv' := [(3, .int x89), (6, .int x70), (5, .int x67), (0, .ref a_t), (1, .int p1), (2, .int p2), (4, .int x62)]) hx hb dX9_together_117 rfl hl (by decide) rfl (fun ls hl => ?_)
                    obtain ⟨x90, ex90⟩ : ∃ z : Int32, z = x62 + 1 := ⟨_, rfl⟩
                    have hb63 := zz_nmE ex90 hb63
                    refine lv_iinc (v := x90) (lv' := [(4, .int x90), (3, .int x89), (6, .int x70), (5, .int x67), (0, .ref a_t), (1, .int p1), (2, .int p2)]) hx hb dX9_together_118 hl (k := 6) rfl (by rw [ex90]; rfl) (by decide) rfl (fun ls hl => ?_)
                    refine lv_goto (tgt := 29) hx hb dX9_together_121 (by decide) ?_
                    obtain rfl := Option.some.inj hb63
                    exact ih63 x89 x90 x71 _ _ ls hy63 hP hD hS (lv_sub hl [4, 5, 6, 1, 0] rfl)
                  · have hb63 := zz_if c88 hb63
                    refine lv_iconst (v := 1) hx hb dX9_together_90 (by decide) ?_
                    refine lv_goto (tgt := 116) hx hb dX9_together_91 (by decide) ?_
                    refine lv_iadd hx hb dX9_together_116 ?_
                    refine lv_topi (fun x91 ex91 => ?_)
                    have hb63 := zz_nmE ex91 hb63
                    refine lv_istore_n (lv' := [(3, .int x91), (6, .int x70), (5, .int x67), (0, .ref a_t), (1, .int p1), (2, .int p2), (4, .int x62)]) hx hb dX9_together_117 rfl hl (by decide) rfl (fun ls hl => ?_)
                    obtain ⟨x92, ex92⟩ : ∃ z : Int32, z = x62 + 1 := ⟨_, rfl⟩
                    have hb63 := zz_nmE ex92 hb63
                    refine lv_iinc (v := x92) (lv' := [(4, .int x92), (3, .int x91), (6, .int x70), (5, .int x67), (0, .ref a_t), (1, .int p1), (2, .int p2)]) hx hb dX9_together_118 hl (k := 6) rfl (by rw [ex92]; rfl) (by decide) rfl (fun ls hl => ?_)
                    refine lv_goto (tgt := 29) hx hb dX9_together_121 (by decide) ?_
                    obtain rfl := Option.some.inj hb63
                    exact ih63 x91 x92 x71 _ _ ls hy63 hP hD hS (lv_sub hl [4, 5, 6, 1, 0] rfl)
      exact hL63 zz_fuel 0 0 t_wordsNow _ _ ls hit63 hP hD hS (lv_sub hl [2, 3, 4, 1, 0] rfl)
    · have h := zz_if c6 h
      refine lv_bipush (v := (-3)) hx hb dX9_together_21 (by decide) ?_
      exact zz_iret t_wordsNow hx hb hr hlocks dX9_together_23 (Option.some.inj h) hP hK hD hS
  · have h := zz_if c4 h
    refine lv_iconst (v := (-1)) hx hb dX9_together_10 (by decide) ?_
    exact zz_iret t_wordsNow hx hb hr hlocks dX9_together_11 (Option.some.inj h) hP hK hD hS
theorem hd_X9_years : yX9_years.cls ≠ "java/lang/invoke/MethodHandle" ∧ yX9_years.cls ≠ "java/lang/invoke/VarHandle" ∧ (parseMethodDescriptor yX9_years.desc).map (fun d => d.parameters.length) = some 0 := by decide +kernel
set_option maxHeartbeats 4000000 in
set_option maxRecDepth 100000 in
theorem ct_X9_years (l : Launch) (dC : Nat → ClassId) (dI : Nat → Nat → Nat) (cI cJ cB cZ : ClassId) (a_t a_t_paperMany a_t_papers a_t_read a_t_text a_t_whose a_t_plan a_t_wantNight a_t_wantHouse a_t_wantWeight a_t_ahead a_t_best a_t_fines a_t_times a_t_isKept a_t_keptPlan a_t_keptFines a_t_keptTimes : Nat) (t_readMany : Int32) (t_length : Int32) (t_at : Int32) (t_faultAt : Int32) (t_year : Int32) (t_wordsNow : Int32) (t_mendChanges : Int32) (t_most : Int32) (t_above : Int32) (t_handing : Int32) (t_wants : Int32) (t_paperMany : (Nat → Int32)) (t_papers : (Nat → Int32)) (rr : Int32) (o1 : Int32) (h : fn_X9_years t_wordsNow t_paperMany t_papers = some (rr, o1)) : zz_M l yX9_years wsX9_years ({ frames := 3, cells := 0, slots := 0, locals := 83 }) (dC, dI) (zz_T cI cJ cB cZ) [.ref a_t] [(a_t, .inr (8, [.ref a_t_read, .int t_readMany, .ref a_t_papers, .ref a_t_paperMany, .ref a_t_text, .int t_length, .int t_at, .int t_faultAt, .int t_year, .int t_wordsNow, .ref a_t_whose, .int t_mendChanges, .ref a_t_plan, .int t_most, .int t_above, .int t_handing, .int t_wants, .ref a_t_wantNight, .ref a_t_wantHouse, .ref a_t_wantWeight, .ref a_t_ahead, .ref a_t_best, .ref a_t_fines, .ref a_t_times, .ref a_t_isKept, .ref a_t_keptPlan, .ref a_t_keptFines, .ref a_t_keptTimes])), (a_t_paperMany, .inl (cI, 3, .inl t_paperMany)), (a_t_papers, .inl (cI, 180, .inl t_papers))] (zz_QI (dC, dI) (zz_T cI cJ cB cZ) (rr, o1) (fun (u : Int32) => [(a_t, .inr (8, [.ref a_t_read, .int t_readMany, .ref a_t_papers, .ref a_t_paperMany, .ref a_t_text, .int t_length, .int t_at, .int t_faultAt, .int t_year, .int u, .ref a_t_whose, .int t_mendChanges, .ref a_t_plan, .int t_most, .int t_above, .int t_handing, .int t_wants, .ref a_t_wantNight, .ref a_t_wantHouse, .ref a_t_wantWeight, .ref a_t_ahead, .ref a_t_best, .ref a_t_fines, .ref a_t_times, .ref a_t_isKept, .ref a_t_keptPlan, .ref a_t_keptFines, .ref a_t_keptTimes])), (a_t_paperMany, .inl (cI, 3, .inl t_paperMany)), (a_t_papers, .inl (cI, 180, .inl t_papers))])) := by
  unfold fn_X9_years at h
  refine zz_of (by decide) rfl (Nat.le_of_ble_eq_true rfl) ?_
  intro p e s m below meth c A ls hx hb hr hml hts hown hlocks hA hS hP hK hD hl
  have hown : s.vm.findClass RX9 = some m.cls := hown
  have hl : lv_has ls 4 [(0, .ref a_t)] := hl
  refine lv_sipush (v := 200) hx hb dX9_years_0 (by decide) ?_
  refine lv_istore_n (lv' := [(1, .int 200), (0, .ref a_t)]) hx hb dX9_years_3 rfl hl (by decide) rfl (fun ls hl => ?_)
  refine lv_iconst (v := 0) hx hb dX9_years_4 (by decide) ?_
  refine lv_istore_n (lv' := [(2, .int 0), (1, .int 200), (0, .ref a_t)]) hx hb dX9_years_5 rfl hl (by decide) rfl (fun ls hl => ?_)
  obtain ⟨x32, x33, hit31, h⟩ := zz_b2E h
  refine zz_cut (fun V => ∀ (H : Heap) (locs : List Loc) (ls : Array Slot), va_P (dC, dI) vwCl [(a_t, .inr (8, [.ref a_t_read, .int t_readMany, .ref a_t_papers, .ref a_t_paperMany, .ref a_t_text, .int t_length, .int t_at, .int t_faultAt, .int t_year, .int x33, .ref a_t_whose, .int t_mendChanges, .ref a_t_plan, .int t_most, .int t_above, .int t_handing, .int t_wants, .ref a_t_wantNight, .ref a_t_wantHouse, .ref a_t_wantWeight, .ref a_t_ahead, .ref a_t_best, .ref a_t_fines, .ref a_t_times, .ref a_t_isKept, .ref a_t_keptPlan, .ref a_t_keptFines, .ref a_t_keptTimes])), (a_t_paperMany, .inl (cI, 3, .inl t_paperMany)), (a_t_papers, .inl (cI, 180, .inl t_papers))] H → va_D A [(a_t, .inr (8, [.ref a_t_read, .int t_readMany, .ref a_t_papers, .ref a_t_paperMany, .ref a_t_text, .int t_length, .int t_at, .int t_faultAt, .int t_year, .int x33, .ref a_t_whose, .int t_mendChanges, .ref a_t_plan, .int t_most, .int t_above, .int t_handing, .int t_wants, .ref a_t_wantNight, .ref a_t_wantHouse, .ref a_t_wantWeight, .ref a_t_ahead, .ref a_t_best, .ref a_t_fines, .ref a_t_times, .ref a_t_isKept, .ref a_t_keptPlan, .ref a_t_keptFines, .ref a_t_keptTimes])), (a_t_paperMany, .inl (cI, 3, .inl t_paperMany)), (a_t_papers, .inl (cI, 180, .inl t_papers))] → va_S A s.heap H locs → lv_has ls 4 [(1, .int x32)] → V H locs (F0 m 54 ls [])) ?_ (fun hE31 => ?_)
  · intro H locs ls hP hD hS hl
    refine lv_iload_n hx hb dX9_years_54 rfl (lv_at hl 0 rfl) ?_
    exact zz_iret x33 hx hb hr hlocks dX9_years_55 (Option.some.inj h) hP hK hD hS
  refine zz_cut (fun V => ∀ (n : Nat) (x29 : Int32) (x30 : Int32) (x31 : Int32) (H : Heap) (locs : List Loc) (ls : Array Slot), zz_it (fun z => fb_X9_years_6 t_paperMany t_papers z.1 z.2.1 z.2.2) n (x29, x30, x31) = some (x32, x33) → va_P (dC, dI) vwCl [(a_t, .inr (8, [.ref a_t_read, .int t_readMany, .ref a_t_papers, .ref a_t_paperMany, .ref a_t_text, .int t_length, .int t_at, .int t_faultAt, .int t_year, .int x31, .ref a_t_whose, .int t_mendChanges, .ref a_t_plan, .int t_most, .int t_above, .int t_handing, .int t_wants, .ref a_t_wantNight, .ref a_t_wantHouse, .ref a_t_wantWeight, .ref a_t_ahead, .ref a_t_best, .ref a_t_fines, .ref a_t_times, .ref a_t_isKept, .ref a_t_keptPlan, .ref a_t_keptFines, .ref a_t_keptTimes])), (a_t_paperMany, .inl (cI, 3, .inl t_paperMany)), (a_t_papers, .inl (cI, 180, .inl t_papers))] H → va_D A [(a_t, .inr (8, [.ref a_t_read, .int t_readMany, .ref a_t_papers, .ref a_t_paperMany, .ref a_t_text, .int t_length, .int t_at, .int t_faultAt, .int t_year, .int x31, .ref a_t_whose, .int t_mendChanges, .ref a_t_plan, .int t_most, .int t_above, .int t_handing, .int t_wants, .ref a_t_wantNight, .ref a_t_wantHouse, .ref a_t_wantWeight, .ref a_t_ahead, .ref a_t_best, .ref a_t_fines, .ref a_t_times, .ref a_t_isKept, .ref a_t_keptPlan, .ref a_t_keptFines, .ref a_t_keptTimes])), (a_t_paperMany, .inl (cI, 3, .inl t_paperMany)), (a_t_papers, .inl (cI, 180, .inl t_papers))] → va_S A s.heap H locs → lv_has ls 4 [(0, .ref a_t), (1, .int x29), (2, .int x30)] → V H locs (F0 m 6 ls [])) ?_ (fun hL31 => ?_)
  · intro n
    induction n with
    | zero => intro x29 x30 x31 H locs ls hit31; exact (zz_it0 hit31).elim
    | succ n ih31 =>
      intro x29 x30 x31 H locs ls hit31 hP hD hS hl
      obtain ⟨y31, hb31, hy31⟩ := zz_itE hit31
      have hb31 : fb_X9_years_6 t_paperMany t_papers x29 x30 x31 = some y31 := hb31
      unfold fb_X9_years_6 at hb31
      refine lv_iload_n hx hb dX9_years_6 rfl (lv_at hl 2 rfl) ?_
      refine lv_bipush (v := 112) hx hb dX9_years_7 (by decide) ?_
      refine lv_icmp_ge (tgt := 54) hx hb dX9_years_9 (by decide) (fun c34 => ?_) (fun c34 => ?_)
      · have hb31 := zz_if c34 hb31
        obtain rfl := Option.some.inj hb31
        have hy31 := Option.some.inj hy31
        cases hy31
        exact hE31 _ _ ls hP hD hS (lv_sub hl [1] rfl)
      · have hb31 := zz_ifn c34 hb31
        refine lv_aload_n hx hb dX9_years_12 rfl (lv_at hl 0 rfl) ?_
        refine lv_iconst (v := 0) hx hb dX9_years_13 (by decide) ?_
        refine lv_iload_n hx hb dX9_years_14 rfl (lv_at hl 2 rfl) ?_
        refine lv_bipush (v := 56) hx hb dX9_years_15 (by decide) ?_
        refine lv_irem hx hb dX9_years_17 (by decide) ?_
        refine lv_iload_n hx hb dX9_years_18 rfl (lv_at hl 2 rfl) ?_
        refine lv_bipush (v := 56) hx hb dX9_years_19 (by decide) ?_
        refine lv_idiv hx hb dX9_years_21 (by decide) ?_
        refine lv_iconst (v := 0) hx hb dX9_years_22 (by decide) ?_
        obtain ⟨x37, x38, he39, hb31⟩ := zz_b2E hb31
        refine zz_VI (q := (RX9, TX9, 28)) (As := [.int 0, .int (x30 - x30 / 56 * 56), .int (x30 / 56), .int 0]) (rest := []) (wr := []) (wm := [(a_t, .inr (8, [.ref a_t_read, .int t_readMany, .ref a_t_papers, .ref a_t_paperMany, .ref a_t_text, .int t_length, .int t_at, .int t_faultAt, .int t_year, .int x38, .ref a_t_whose, .int t_mendChanges, .ref a_t_plan, .int t_most, .int t_above, .int t_handing, .int t_wants, .ref a_t_wantNight, .ref a_t_wantHouse, .ref a_t_wantWeight, .ref a_t_ahead, .ref a_t_best, .ref a_t_fines, .ref a_t_times, .ref a_t_isKept, .ref a_t_keptPlan, .ref a_t_keptFines, .ref a_t_keptTimes])), (a_t_paperMany, .inl (cI, 3, .inl t_paperMany)), (a_t_papers, .inl (cI, 180, .inl t_papers))]) ⟨hx, hb, hml, hown, hts⟩ (ct_X9_whoseOf l dC dI cI cJ cB cZ a_t a_t_paperMany a_t_papers a_t_read a_t_text a_t_whose a_t_plan a_t_wantNight a_t_wantHouse a_t_wantWeight a_t_ahead a_t_best a_t_fines a_t_times a_t_isKept a_t_keptPlan a_t_keptFines a_t_keptTimes t_readMany t_length t_at t_faultAt t_year x31 t_mendChanges t_most t_above t_handing t_wants t_paperMany t_papers (0 : Int32) (x30 - x30 / 56 * 56) (x30 / 56) (0 : Int32) x37 x38 he39) gX9_years_X9_whoseOf hd_X9_whoseOf rfl rfl rfl ⟨Nat.le_of_ble_eq_true rfl, Nat.le_of_ble_eq_true rfl⟩ ⟨Nat.le_of_ble_eq_true rfl, Nat.le_of_ble_eq_true rfl⟩ rfl rfl (Nat.le_of_ble_eq_true rfl) dX9_years_23 hl.1 rfl (ci := 8) rfl (q0 := 0) rfl hP hK hD hS hA [0, 1, 2] [] [0, 1, 2] rfl rfl (by decide) (by decide) (by decide) (by decide) rfl (fun H locs hP hD hS => ?_)
        refine lv_istore_n (lv' := [(3, .int x37), (0, .ref a_t), (1, .int x29), (2, .int x30)]) hx hb dX9_years_26 rfl hl (by decide) rfl (fun ls hl => ?_)
        refine lv_iload_n hx hb dX9_years_27 rfl (lv_at hl 2 rfl) ?_
        refine lv_iload_n hx hb dX9_years_28 rfl (lv_at hl 0 rfl) ?_
        refine lv_if_ne (tgt := 36) hx hb dX9_years_29 (by decide) (fun c40 => ?_) (fun c40 => ?_)
        · have hb31 := zz_ifn c40 hb31
          refine lv_iload_n hx hb dX9_years_36 rfl (lv_at hl 0 rfl) ?_
          refine lv_iconst (v := 1) hx hb dX9_years_37 (by decide) ?_
          refine lv_icmp_ne (tgt := 45) hx hb dX9_years_38 (by decide) (fun c41 => ?_) (fun c41 => ?_)
          · have hb31 := zz_ifn c41 hb31
            refine lv_iconst (v := 0) hx hb dX9_years_45 (by decide) ?_
            refine lv_iadd hx hb dX9_years_46 ?_
            refine lv_topi (fun x42 ex42 => ?_)
            have hb31 := zz_nmE ex42 hb31
            refine lv_istore_n (lv' := [(1, .int x42), (3, .int x37), (0, .ref a_t), (2, .int x30)]) hx hb dX9_years_47 rfl hl (by decide) rfl (fun ls hl => ?_)
            obtain ⟨x43, ex43⟩ : ∃ z : Int32, z = x30 + 1 := ⟨_, rfl⟩
            have hb31 := zz_nmE ex43 hb31
            refine lv_iinc (v := x43) (lv' := [(2, .int x43), (1, .int x42), (3, .int x37), (0, .ref a_t)]) hx hb dX9_years_48 hl (k := 3) rfl (by rw [ex43]; rfl) (by decide) rfl (fun ls hl => ?_)
            refine lv_goto (tgt := 6) hx hb dX9_years_51 (by decide) ?_
            obtain rfl := Option.some.inj hb31
            exact ih31 x42 x43 x38 _ _ ls hy31 hP hD hS (lv_sub hl [3, 1, 0] rfl)
          · have hb31 := zz_if c41 hb31
            refine lv_iconst (v := (-1)) hx hb dX9_years_41 (by decide) ?_
            refine lv_goto (tgt := 46) hx hb dX9_years_42 (by decide) ?_
            refine lv_iadd hx hb dX9_years_46 ?_
            refine lv_topi (fun x44 ex44 => ?_)
            have hb31 := zz_nmE ex44 hb31
            refine lv_istore_n (lv' := [(1, .int x44), (3, .int x37), (0, .ref a_t), (2, .int x30)]) hx hb dX9_years_47 rfl hl (by decide) rfl (fun ls hl => ?_)
            obtain ⟨x45, ex45⟩ : ∃ z : Int32, z = x30 + 1 := ⟨_, rfl⟩
            have hb31 := zz_nmE ex45 hb31
            refine lv_iinc (v := x45) (lv' := [(2, .int x45), (1, .int x44), (3, .int x37), (0, .ref a_t)]) hx hb dX9_years_48 hl (k := 3) rfl (by rw [ex45]; rfl) (by decide) rfl (fun ls hl => ?_)
            refine lv_goto (tgt := 6) hx hb dX9_years_51 (by decide) ?_
            obtain rfl := Option.some.inj hb31
            exact ih31 x44 x45 x38 _ _ ls hy31 hP hD hS (lv_sub hl [3, 1, 0] rfl)
        · have hb31 := zz_if c40 hb31
          refine lv_iconst (v := 1) hx hb dX9_years_32 (by decide) ?_
          refine lv_goto (tgt := 46) hx hb dX9_years_33 (by decide) ?_
          refine lv_iadd hx hb dX9_years_46 ?_
          refine lv_topi (fun x46 ex46 => ?_)
          have hb31 := zz_nmE ex46 hb31
          refine lv_istore_n (lv' := [(1, .int x46), (3, .int x37), (0, .ref a_t), (2, .int x30)]) hx hb dX9_years_47 rfl hl (by decide) rfl (fun ls hl => ?_)
          obtain ⟨x47, ex47⟩ : ∃ z : Int32, z = x30 + 1 := ⟨_, rfl⟩
          have hb31 := zz_nmE ex47 hb31
          refine lv_iinc (v := x47) (lv' := [(2, .int x47), (1, .int x46), (3, .int x37), (0, .ref a_t)]) hx hb dX9_years_48 hl (k := 3) rfl (by rw [ex47]; rfl) (by decide) rfl (fun ls hl => ?_)
          refine lv_goto (tgt := 6) hx hb dX9_years_51 (by decide) ?_
          obtain rfl := Option.some.inj hb31
          exact ih31 x46 x47 x38 _ _ ls hy31 hP hD hS (lv_sub hl [3, 1, 0] rfl)
  exact hL31 zz_fuel 200 0 t_wordsNow _ _ ls hit31 hP hD hS (lv_sub hl [2, 1, 0] rfl)
theorem hd_X9_keep : yX9_keep.cls ≠ "java/lang/invoke/MethodHandle" ∧ yX9_keep.cls ≠ "java/lang/invoke/VarHandle" ∧ (parseMethodDescriptor yX9_keep.desc).map (fun d => d.parameters.length) = some 1 := by decide +kernel
set_option maxRecDepth 20000 in
theorem in_X9_keep_X9 : ∀ w ∈ u_ws RX9 TX9 28, w ∈ wsX9_keep := by decide +kernel
set_option maxRecDepth 20000 in
theorem lk_X9_keep_0 : Cond.fieldLink RX9 49 "TwoHousesOneChildModel" "isKept" "[Z" ∈ wsX9_keep := by decide +kernel
set_option maxRecDepth 20000 in
theorem lk_X9_keep_1 : Cond.fieldLink RX9 16 "TwoHousesOneChildModel" "paperMany" "[I" ∈ wsX9_keep := by decide +kernel
set_option maxRecDepth 20000 in
theorem lk_X9_keep_2 : Cond.fieldLink RX9 13 "TwoHousesOneChildModel" "papers" "[I" ∈ wsX9_keep := by decide +kernel
set_option maxRecDepth 20000 in
theorem lk_X9_keep_3 : Cond.fieldLink RX9 53 "TwoHousesOneChildModel" "keptPlan" "[I" ∈ wsX9_keep := by decide +kernel
set_option maxRecDepth 20000 in
theorem lk_X9_keep_4 : Cond.fieldLink RX9 25 "TwoHousesOneChildModel" "plan" "[I" ∈ wsX9_keep := by decide +kernel
set_option maxRecDepth 20000 in
theorem lk_X9_keep_5 : Cond.fieldLink RX9 56 "TwoHousesOneChildModel" "keptFines" "[I" ∈ wsX9_keep := by decide +kernel
set_option maxRecDepth 20000 in
theorem lk_X9_keep_6 : Cond.fieldLink RX9 43 "TwoHousesOneChildModel" "fines" "[I" ∈ wsX9_keep := by decide +kernel
set_option maxRecDepth 20000 in
theorem lk_X9_keep_7 : Cond.fieldLink RX9 59 "TwoHousesOneChildModel" "keptTimes" "[I" ∈ wsX9_keep := by decide +kernel
set_option maxRecDepth 20000 in
theorem lk_X9_keep_8 : Cond.fieldLink RX9 46 "TwoHousesOneChildModel" "times" "[I" ∈ wsX9_keep := by decide +kernel
set_option maxHeartbeats 4000000 in
set_option maxRecDepth 100000 in
theorem ct_X9_keep (l : Launch) (dC : Nat → ClassId) (dI : Nat → Nat → Nat) (cI cJ cB cZ : ClassId) (a_t a_t_fines a_t_isKept a_t_keptFines a_t_keptPlan a_t_keptTimes a_t_paperMany a_t_papers a_t_plan a_t_times a_t_read a_t_text a_t_whose a_t_wantNight a_t_wantHouse a_t_wantWeight a_t_ahead a_t_best : Nat) (t_readMany : Int32) (t_length : Int32) (t_at : Int32) (t_faultAt : Int32) (t_year : Int32) (t_wordsNow : Int32) (t_mendChanges : Int32) (t_most : Int32) (t_above : Int32) (t_handing : Int32) (t_wants : Int32) (t_fines : (Nat → Int32)) (t_isKept : (Nat → Int32)) (t_keptFines : (Nat → Int32)) (t_keptPlan : (Nat → Int32)) (t_keptTimes : (Nat → Int32)) (t_paperMany : (Nat → Int32)) (t_papers : (Nat → Int32)) (t_plan : (Nat → Int32)) (t_times : (Nat → Int32)) (p1 : Int32) (rr : Int32) (o1 : (Nat → Int32)) (o2 : (Nat → Int32)) (o3 : (Nat → Int32)) (o4 : (Nat → Int32)) (o5 : (Nat → Int32)) (o6 : (Nat → Int32)) (h : fn_X9_keep t_fines t_isKept t_keptFines t_keptPlan t_keptTimes t_paperMany t_papers t_plan t_times p1 = some (rr, o1, o2, o3, o4, o5, o6)) : zz_M l yX9_keep wsX9_keep ({ frames := 1, cells := 0, slots := 0, locals := 25 }) (dC, dI) (zz_T cI cJ cB cZ) [.ref a_t, .int p1] [(a_t, .inr (8, [.ref a_t_read, .int t_readMany, .ref a_t_papers, .ref a_t_paperMany, .ref a_t_text, .int t_length, .int t_at, .int t_faultAt, .int t_year, .int t_wordsNow, .ref a_t_whose, .int t_mendChanges, .ref a_t_plan, .int t_most, .int t_above, .int t_handing, .int t_wants, .ref a_t_wantNight, .ref a_t_wantHouse, .ref a_t_wantWeight, .ref a_t_ahead, .ref a_t_best, .ref a_t_fines, .ref a_t_times, .ref a_t_isKept, .ref a_t_keptPlan, .ref a_t_keptFines, .ref a_t_keptTimes])), (a_t_fines, .inl (cI, 2, .inl t_fines)), (a_t_isKept, .inl (cZ, 2, .inl t_isKept)), (a_t_keptFines, .inl (cI, 4, .inl t_keptFines)), (a_t_keptPlan, .inl (cI, 112, .inl t_keptPlan)), (a_t_keptTimes, .inl (cI, 4, .inl t_keptTimes)), (a_t_paperMany, .inl (cI, 3, .inl t_paperMany)), (a_t_papers, .inl (cI, 180, .inl t_papers)), (a_t_plan, .inl (cI, 56, .inl t_plan)), (a_t_times, .inl (cI, 2, .inl t_times))] (zz_QI (dC, dI) (zz_T cI cJ cB cZ) (rr, o1, o2, o3, o4, o5, o6) (fun (u : (Nat → Int32) × (Nat → Int32) × (Nat → Int32) × (Nat → Int32) × (Nat → Int32) × (Nat → Int32)) => [(a_t, .inr (8, [.ref a_t_read, .int t_readMany, .ref a_t_papers, .ref a_t_paperMany, .ref a_t_text, .int t_length, .int t_at, .int t_faultAt, .int t_year, .int t_wordsNow, .ref a_t_whose, .int t_mendChanges, .ref a_t_plan, .int t_most, .int t_above, .int t_handing, .int t_wants, .ref a_t_wantNight, .ref a_t_wantHouse, .ref a_t_wantWeight, .ref a_t_ahead, .ref a_t_best, .ref a_t_fines, .ref a_t_times, .ref a_t_isKept, .ref a_t_keptPlan, .ref a_t_keptFines, .ref a_t_keptTimes])), (a_t_fines, .inl (cI, 2, .inl t_fines)), (a_t_isKept, .inl (cZ, 2, .inl u.1)), (a_t_keptFines, .inl (cI, 4, .inl u.2.1)), (a_t_keptPlan, .inl (cI, 112, .inl u.2.2.1)), (a_t_keptTimes, .inl (cI, 4, .inl u.2.2.2.1)), (a_t_paperMany, .inl (cI, 3, .inl u.2.2.2.2.1)), (a_t_papers, .inl (cI, 180, .inl u.2.2.2.2.2)), (a_t_plan, .inl (cI, 56, .inl t_plan)), (a_t_times, .inl (cI, 2, .inl t_times))])) := by
  unfold fn_X9_keep at h
  refine zz_of (by decide) rfl (Nat.le_of_ble_eq_true rfl) ?_
  intro p e s m below meth c A ls hx hb hr hml hts hown hlocks hA hS hP hK hD hl
  have hown : s.vm.findClass RX9 = some m.cls := hown
  have hl : lv_has ls 3 [(0, .ref a_t), (1, .int p1)] := hl
  refine lv_iload_n hx hb dX9_keep_0 rfl (lv_at hl 1 rfl) ?_
  refine lv_i2l (v := p1.toInt64) hx hb dX9_keep_1 rfl ?_
  refine lv_lconst (v := 0) hx hb dX9_keep_2 (by decide) ?_
  refine lv_lconst (v := 1) hx hb dX9_keep_3 (by decide) ?_
  obtain ⟨x1, u2, he3, h⟩ := zz_b2E h
  refine zz_PI (As := [.long p1.toInt64, .long 0, .long 1]) (rest := []) ⟨hx, hb, hml, hown, hts⟩ (ct_X9_in l dC dI cI cJ cB cZ p1.toInt64 (0 : Int64) (1 : Int64) x1 u2 he3) gX9_keep_X9_in hd_X9_in rfl rfl rfl ⟨Nat.le_of_ble_eq_true rfl, Nat.le_of_ble_eq_true rfl⟩ ⟨Nat.le_of_ble_eq_true rfl, Nat.le_of_ble_eq_true rfl⟩ rfl rfl (Nat.le_of_ble_eq_true rfl) dX9_keep_4 hl.1 hP hK hS hA (fun H locs hP hS => ?_)
  refine lv_if_ne (tgt := 12) hx hb dX9_keep_7 (by decide) (fun c4 => ?_) (fun c4 => ?_)
  · have h := zz_ifn c4 h
    refine lv_aload_n hx hb dX9_keep_12 rfl (lv_at hl 0 rfl) ?_
    refine va_get (ci := 8) (v := .ref a_t_isKept) (C := RX9) (T := TX9) (N := 28) hx hb hts in_X9_keep_X9 hown hK hP 0 rfl rfl 24 (by decide) (hts _ lk_X9_keep_0) (fun _ h9 => h9) rfl dX9_keep_13 ?_
    refine lv_iload_n hx hb dX9_keep_16 rfl (lv_at hl 1 rfl) ?_
    refine lv_iconst (v := 1) hx hb dX9_keep_17 (by decide) ?_
    obtain ⟨hi5, h⟩ := zz_chkE h
    refine zz_zast hx hb hK hP hD hS 2 3 rfl rfl hi5 dX9_keep_18 (fun g6 => [(a_t, .inr (8, [.ref a_t_read, .int t_readMany, .ref a_t_papers, .ref a_t_paperMany, .ref a_t_text, .int t_length, .int t_at, .int t_faultAt, .int t_year, .int t_wordsNow, .ref a_t_whose, .int t_mendChanges, .ref a_t_plan, .int t_most, .int t_above, .int t_handing, .int t_wants, .ref a_t_wantNight, .ref a_t_wantHouse, .ref a_t_wantWeight, .ref a_t_ahead, .ref a_t_best, .ref a_t_fines, .ref a_t_times, .ref a_t_isKept, .ref a_t_keptPlan, .ref a_t_keptFines, .ref a_t_keptTimes])), (a_t_fines, .inl (cI, 2, .inl t_fines)), (a_t_isKept, .inl (cZ, 2, .inl g6)), (a_t_keptFines, .inl (cI, 4, .inl t_keptFines)), (a_t_keptPlan, .inl (cI, 112, .inl t_keptPlan)), (a_t_keptTimes, .inl (cI, 4, .inl t_keptTimes)), (a_t_paperMany, .inl (cI, 3, .inl t_paperMany)), (a_t_papers, .inl (cI, 180, .inl t_papers)), (a_t_plan, .inl (cI, 56, .inl t_plan)), (a_t_times, .inl (cI, 2, .inl t_times))]) (fun _ => rfl) (fun g6 H locs eg6 hP hD hS => ?_)
    have h := zz_nmE eg6 h
    refine lv_aload_n hx hb dX9_keep_19 rfl (lv_at hl 0 rfl) ?_
    refine va_get (ci := 8) (v := .ref a_t_paperMany) (C := RX9) (T := TX9) (N := 28) hx hb hts in_X9_keep_X9 hown hK hP 0 rfl rfl 3 (by decide) (hts _ lk_X9_keep_1) (fun _ h9 => h9) rfl dX9_keep_20 ?_
    refine lv_iconst (v := 1) hx hb dX9_keep_23 (by decide) ?_
    refine lv_iload_n hx hb dX9_keep_24 rfl (lv_at hl 1 rfl) ?_
    refine lv_iadd hx hb dX9_keep_25 ?_
    refine lv_aload_n hx hb dX9_keep_26 rfl (lv_at hl 0 rfl) ?_
    refine va_get (ci := 8) (v := .ref a_t_paperMany) (C := RX9) (T := TX9) (N := 28) hx hb hts in_X9_keep_X9 hown hK hP 0 rfl rfl 3 (by decide) (hts _ lk_X9_keep_1) (fun _ h9 => h9) rfl dX9_keep_27 ?_
    refine lv_iconst (v := 0) hx hb dX9_keep_30 (by decide) ?_
    obtain ⟨hi7, h⟩ := zz_chkE h
    refine va_iald hx hb hK hP 6 0 rfl rfl hi7 dX9_keep_31 ?_
    obtain ⟨hi8, h⟩ := zz_chkE h
    refine zz_iast hx hb hK hP hD hS 6 0 rfl rfl hi8 dX9_keep_32 (fun g9 => [(a_t, .inr (8, [.ref a_t_read, .int t_readMany, .ref a_t_papers, .ref a_t_paperMany, .ref a_t_text, .int t_length, .int t_at, .int t_faultAt, .int t_year, .int t_wordsNow, .ref a_t_whose, .int t_mendChanges, .ref a_t_plan, .int t_most, .int t_above, .int t_handing, .int t_wants, .ref a_t_wantNight, .ref a_t_wantHouse, .ref a_t_wantWeight, .ref a_t_ahead, .ref a_t_best, .ref a_t_fines, .ref a_t_times, .ref a_t_isKept, .ref a_t_keptPlan, .ref a_t_keptFines, .ref a_t_keptTimes])), (a_t_fines, .inl (cI, 2, .inl t_fines)), (a_t_isKept, .inl (cZ, 2, .inl g6)), (a_t_keptFines, .inl (cI, 4, .inl t_keptFines)), (a_t_keptPlan, .inl (cI, 112, .inl t_keptPlan)), (a_t_keptTimes, .inl (cI, 4, .inl t_keptTimes)), (a_t_paperMany, .inl (cI, 3, .inl g9)), (a_t_papers, .inl (cI, 180, .inl t_papers)), (a_t_plan, .inl (cI, 56, .inl t_plan)), (a_t_times, .inl (cI, 2, .inl t_times))]) (fun _ => rfl) (fun g9 H locs eg9 hP hD hS => ?_)
    have h := zz_nmE eg9 h
    refine lv_iconst (v := 0) hx hb dX9_keep_33 (by decide) ?_
    refine lv_istore_n (lv' := [(2, .int 0), (0, .ref a_t), (1, .int p1)]) hx hb dX9_keep_34 rfl hl (by decide) rfl (fun ls hl => ?_)
    obtain ⟨g22, hit21, h⟩ := zz_b1E h
    refine zz_cut (fun V => ∀ (H : Heap) (locs : List Loc) (ls : Array Slot), va_P (dC, dI) vwCl [(a_t, .inr (8, [.ref a_t_read, .int t_readMany, .ref a_t_papers, .ref a_t_paperMany, .ref a_t_text, .int t_length, .int t_at, .int t_faultAt, .int t_year, .int t_wordsNow, .ref a_t_whose, .int t_mendChanges, .ref a_t_plan, .int t_most, .int t_above, .int t_handing, .int t_wants, .ref a_t_wantNight, .ref a_t_wantHouse, .ref a_t_wantWeight, .ref a_t_ahead, .ref a_t_best, .ref a_t_fines, .ref a_t_times, .ref a_t_isKept, .ref a_t_keptPlan, .ref a_t_keptFines, .ref a_t_keptTimes])), (a_t_fines, .inl (cI, 2, .inl t_fines)), (a_t_isKept, .inl (cZ, 2, .inl g6)), (a_t_keptFines, .inl (cI, 4, .inl t_keptFines)), (a_t_keptPlan, .inl (cI, 112, .inl t_keptPlan)), (a_t_keptTimes, .inl (cI, 4, .inl t_keptTimes)), (a_t_paperMany, .inl (cI, 3, .inl g9)), (a_t_papers, .inl (cI, 180, .inl g22)), (a_t_plan, .inl (cI, 56, .inl t_plan)), (a_t_times, .inl (cI, 2, .inl t_times))] H → va_D A [(a_t, .inr (8, [.ref a_t_read, .int t_readMany, .ref a_t_papers, .ref a_t_paperMany, .ref a_t_text, .int t_length, .int t_at, .int t_faultAt, .int t_year, .int t_wordsNow, .ref a_t_whose, .int t_mendChanges, .ref a_t_plan, .int t_most, .int t_above, .int t_handing, .int t_wants, .ref a_t_wantNight, .ref a_t_wantHouse, .ref a_t_wantWeight, .ref a_t_ahead, .ref a_t_best, .ref a_t_fines, .ref a_t_times, .ref a_t_isKept, .ref a_t_keptPlan, .ref a_t_keptFines, .ref a_t_keptTimes])), (a_t_fines, .inl (cI, 2, .inl t_fines)), (a_t_isKept, .inl (cZ, 2, .inl g6)), (a_t_keptFines, .inl (cI, 4, .inl t_keptFines)), (a_t_keptPlan, .inl (cI, 112, .inl t_keptPlan)), (a_t_keptTimes, .inl (cI, 4, .inl t_keptTimes)), (a_t_paperMany, .inl (cI, 3, .inl g9)), (a_t_papers, .inl (cI, 180, .inl g22)), (a_t_plan, .inl (cI, 56, .inl t_plan)), (a_t_times, .inl (cI, 2, .inl t_times))] → va_S A s.heap H locs → lv_has ls 3 [(0, .ref a_t), (1, .int p1)] → V H locs (F0 m 67 ls [])) ?_ (fun hE21 => ?_)
    · intro H locs ls hP hD hS hl
      refine lv_iconst (v := 0) hx hb dX9_keep_67 (by decide) ?_
      refine lv_istore_n (lv' := [(2, .int 0), (0, .ref a_t), (1, .int p1)]) hx hb dX9_keep_68 rfl hl (by decide) rfl (fun ls hl => ?_)
      obtain ⟨g35, hit34, h⟩ := zz_b1E h
      refine zz_cut (fun V => ∀ (H : Heap) (locs : List Loc) (ls : Array Slot), va_P (dC, dI) vwCl [(a_t, .inr (8, [.ref a_t_read, .int t_readMany, .ref a_t_papers, .ref a_t_paperMany, .ref a_t_text, .int t_length, .int t_at, .int t_faultAt, .int t_year, .int t_wordsNow, .ref a_t_whose, .int t_mendChanges, .ref a_t_plan, .int t_most, .int t_above, .int t_handing, .int t_wants, .ref a_t_wantNight, .ref a_t_wantHouse, .ref a_t_wantWeight, .ref a_t_ahead, .ref a_t_best, .ref a_t_fines, .ref a_t_times, .ref a_t_isKept, .ref a_t_keptPlan, .ref a_t_keptFines, .ref a_t_keptTimes])), (a_t_fines, .inl (cI, 2, .inl t_fines)), (a_t_isKept, .inl (cZ, 2, .inl g6)), (a_t_keptFines, .inl (cI, 4, .inl t_keptFines)), (a_t_keptPlan, .inl (cI, 112, .inl g35)), (a_t_keptTimes, .inl (cI, 4, .inl t_keptTimes)), (a_t_paperMany, .inl (cI, 3, .inl g9)), (a_t_papers, .inl (cI, 180, .inl g22)), (a_t_plan, .inl (cI, 56, .inl t_plan)), (a_t_times, .inl (cI, 2, .inl t_times))] H → va_D A [(a_t, .inr (8, [.ref a_t_read, .int t_readMany, .ref a_t_papers, .ref a_t_paperMany, .ref a_t_text, .int t_length, .int t_at, .int t_faultAt, .int t_year, .int t_wordsNow, .ref a_t_whose, .int t_mendChanges, .ref a_t_plan, .int t_most, .int t_above, .int t_handing, .int t_wants, .ref a_t_wantNight, .ref a_t_wantHouse, .ref a_t_wantWeight, .ref a_t_ahead, .ref a_t_best, .ref a_t_fines, .ref a_t_times, .ref a_t_isKept, .ref a_t_keptPlan, .ref a_t_keptFines, .ref a_t_keptTimes])), (a_t_fines, .inl (cI, 2, .inl t_fines)), (a_t_isKept, .inl (cZ, 2, .inl g6)), (a_t_keptFines, .inl (cI, 4, .inl t_keptFines)), (a_t_keptPlan, .inl (cI, 112, .inl g35)), (a_t_keptTimes, .inl (cI, 4, .inl t_keptTimes)), (a_t_paperMany, .inl (cI, 3, .inl g9)), (a_t_papers, .inl (cI, 180, .inl g22)), (a_t_plan, .inl (cI, 56, .inl t_plan)), (a_t_times, .inl (cI, 2, .inl t_times))] → va_S A s.heap H locs → lv_has ls 3 [(0, .ref a_t), (1, .int p1)] → V H locs (F0 m 98 ls [])) ?_ (fun hE34 => ?_)
      · intro H locs ls hP hD hS hl
        refine lv_iconst (v := 0) hx hb dX9_keep_98 (by decide) ?_
        refine lv_istore_n (lv' := [(2, .int 0), (0, .ref a_t), (1, .int p1)]) hx hb dX9_keep_99 rfl hl (by decide) rfl (fun ls hl => ?_)
        obtain ⟨g55, g56, hit54, h⟩ := zz_b2E h
        refine zz_cut (fun V => ∀ (H : Heap) (locs : List Loc) (ls : Array Slot), va_P (dC, dI) vwCl [(a_t, .inr (8, [.ref a_t_read, .int t_readMany, .ref a_t_papers, .ref a_t_paperMany, .ref a_t_text, .int t_length, .int t_at, .int t_faultAt, .int t_year, .int t_wordsNow, .ref a_t_whose, .int t_mendChanges, .ref a_t_plan, .int t_most, .int t_above, .int t_handing, .int t_wants, .ref a_t_wantNight, .ref a_t_wantHouse, .ref a_t_wantWeight, .ref a_t_ahead, .ref a_t_best, .ref a_t_fines, .ref a_t_times, .ref a_t_isKept, .ref a_t_keptPlan, .ref a_t_keptFines, .ref a_t_keptTimes])), (a_t_fines, .inl (cI, 2, .inl t_fines)), (a_t_isKept, .inl (cZ, 2, .inl g6)), (a_t_keptFines, .inl (cI, 4, .inl g55)), (a_t_keptPlan, .inl (cI, 112, .inl g35)), (a_t_keptTimes, .inl (cI, 4, .inl g56)), (a_t_paperMany, .inl (cI, 3, .inl g9)), (a_t_papers, .inl (cI, 180, .inl g22)), (a_t_plan, .inl (cI, 56, .inl t_plan)), (a_t_times, .inl (cI, 2, .inl t_times))] H → va_D A [(a_t, .inr (8, [.ref a_t_read, .int t_readMany, .ref a_t_papers, .ref a_t_paperMany, .ref a_t_text, .int t_length, .int t_at, .int t_faultAt, .int t_year, .int t_wordsNow, .ref a_t_whose, .int t_mendChanges, .ref a_t_plan, .int t_most, .int t_above, .int t_handing, .int t_wants, .ref a_t_wantNight, .ref a_t_wantHouse, .ref a_t_wantWeight, .ref a_t_ahead, .ref a_t_best, .ref a_t_fines, .ref a_t_times, .ref a_t_isKept, .ref a_t_keptPlan, .ref a_t_keptFines, .ref a_t_keptTimes])), (a_t_fines, .inl (cI, 2, .inl t_fines)), (a_t_isKept, .inl (cZ, 2, .inl g6)), (a_t_keptFines, .inl (cI, 4, .inl g55)), (a_t_keptPlan, .inl (cI, 112, .inl g35)), (a_t_keptTimes, .inl (cI, 4, .inl g56)), (a_t_paperMany, .inl (cI, 3, .inl g9)), (a_t_papers, .inl (cI, 180, .inl g22)), (a_t_plan, .inl (cI, 56, .inl t_plan)), (a_t_times, .inl (cI, 2, .inl t_times))] → va_S A s.heap H locs → lv_has ls 3 [(0, .ref a_t)] → V H locs (F0 m 143 ls [])) ?_ (fun hE54 => ?_)
        · intro H locs ls hP hD hS hl
          refine lv_aload_n hx hb dX9_keep_143 rfl (lv_at hl 0 rfl) ?_
          refine va_get (ci := 8) (v := .ref a_t_paperMany) (C := RX9) (T := TX9) (N := 28) hx hb hts in_X9_keep_X9 hown hK hP 0 rfl rfl 3 (by decide) (hts _ lk_X9_keep_1) (fun _ h9 => h9) rfl dX9_keep_144 ?_
          refine lv_iconst (v := 0) hx hb dX9_keep_147 (by decide) ?_
          obtain ⟨hi57, h⟩ := zz_chkE h
          refine va_iald hx hb hK hP 6 0 rfl rfl hi57 dX9_keep_148 ?_
          exact zz_iret (g6, g55, g35, g56, g9, g22) hx hb hr hlocks dX9_keep_149 (Option.some.inj h) hP hK hD hS
        refine zz_cut (fun V => ∀ (n : Nat) (x52 : Int32) (g53 : (Nat → Int32)) (g54 : (Nat → Int32)) (H : Heap) (locs : List Loc) (ls : Array Slot), zz_it (fun z => fb_X9_keep_100 p1 t_fines t_times z.1 z.2.1 z.2.2) n (x52, g53, g54) = some (g55, g56) → va_P (dC, dI) vwCl [(a_t, .inr (8, [.ref a_t_read, .int t_readMany, .ref a_t_papers, .ref a_t_paperMany, .ref a_t_text, .int t_length, .int t_at, .int t_faultAt, .int t_year, .int t_wordsNow, .ref a_t_whose, .int t_mendChanges, .ref a_t_plan, .int t_most, .int t_above, .int t_handing, .int t_wants, .ref a_t_wantNight, .ref a_t_wantHouse, .ref a_t_wantWeight, .ref a_t_ahead, .ref a_t_best, .ref a_t_fines, .ref a_t_times, .ref a_t_isKept, .ref a_t_keptPlan, .ref a_t_keptFines, .ref a_t_keptTimes])), (a_t_fines, .inl (cI, 2, .inl t_fines)), (a_t_isKept, .inl (cZ, 2, .inl g6)), (a_t_keptFines, .inl (cI, 4, .inl g53)), (a_t_keptPlan, .inl (cI, 112, .inl g35)), (a_t_keptTimes, .inl (cI, 4, .inl g54)), (a_t_paperMany, .inl (cI, 3, .inl g9)), (a_t_papers, .inl (cI, 180, .inl g22)), (a_t_plan, .inl (cI, 56, .inl t_plan)), (a_t_times, .inl (cI, 2, .inl t_times))] H → va_D A [(a_t, .inr (8, [.ref a_t_read, .int t_readMany, .ref a_t_papers, .ref a_t_paperMany, .ref a_t_text, .int t_length, .int t_at, .int t_faultAt, .int t_year, .int t_wordsNow, .ref a_t_whose, .int t_mendChanges, .ref a_t_plan, .int t_most, .int t_above, .int t_handing, .int t_wants, .ref a_t_wantNight, .ref a_t_wantHouse, .ref a_t_wantWeight, .ref a_t_ahead, .ref a_t_best, .ref a_t_fines, .ref a_t_times, .ref a_t_isKept, .ref a_t_keptPlan, .ref a_t_keptFines, .ref a_t_keptTimes])), (a_t_fines, .inl (cI, 2, .inl t_fines)), (a_t_isKept, .inl (cZ, 2, .inl g6)), (a_t_keptFines, .inl (cI, 4, .inl g53)), (a_t_keptPlan, .inl (cI, 112, .inl g35)), (a_t_keptTimes, .inl (cI, 4, .inl g54)), (a_t_paperMany, .inl (cI, 3, .inl g9)), (a_t_papers, .inl (cI, 180, .inl g22)), (a_t_plan, .inl (cI, 56, .inl t_plan)), (a_t_times, .inl (cI, 2, .inl t_times))] → va_S A s.heap H locs → lv_has ls 3 [(0, .ref a_t), (1, .int p1), (2, .int x52)] → V H locs (F0 m 100 ls [])) ?_ (fun hL54 => ?_)
        · intro n
          induction n with
          | zero => intro x52 g53 g54 H locs ls hit54; exact (zz_it0 hit54).elim
          | succ n ih54 =>
            intro x52 g53 g54 H locs ls hit54 hP hD hS hl
            obtain ⟨y54, hb54, hy54⟩ := zz_itE hit54
            have hb54 : fb_X9_keep_100 p1 t_fines t_times x52 g53 g54 = some y54 := hb54
            unfold fb_X9_keep_100 at hb54
            refine lv_iload_n hx hb dX9_keep_100 rfl (lv_at hl 2 rfl) ?_
            refine lv_iconst (v := 2) hx hb dX9_keep_101 (by decide) ?_
            refine lv_icmp_ge (tgt := 143) hx hb dX9_keep_102 (by decide) (fun c58 => ?_) (fun c58 => ?_)
            · have hb54 := zz_if c58 hb54
              obtain rfl := Option.some.inj hb54
              have hy54 := Option.some.inj hy54
              cases hy54
              exact hE54 _ _ ls hP hD hS (lv_sub hl [0] rfl)
            · have hb54 := zz_ifn c58 hb54
              refine lv_aload_n hx hb dX9_keep_105 rfl (lv_at hl 0 rfl) ?_
              refine va_get (ci := 8) (v := .ref a_t_keptFines) (C := RX9) (T := TX9) (N := 28) hx hb hts in_X9_keep_X9 hown hK hP 0 rfl rfl 26 (by decide) (hts _ lk_X9_keep_5) (fun _ h9 => h9) rfl dX9_keep_106 ?_
              refine lv_iconst (v := 2) hx hb dX9_keep_109 (by decide) ?_
              refine lv_iload_n hx hb dX9_keep_110 rfl (lv_at hl 1 rfl) ?_
              refine lv_imul hx hb dX9_keep_111 ?_
              refine lv_iload_n hx hb dX9_keep_112 rfl (lv_at hl 2 rfl) ?_
              refine lv_iadd hx hb dX9_keep_113 ?_
              refine lv_aload_n hx hb dX9_keep_114 rfl (lv_at hl 0 rfl) ?_
              refine va_get (ci := 8) (v := .ref a_t_fines) (C := RX9) (T := TX9) (N := 28) hx hb hts in_X9_keep_X9 hown hK hP 0 rfl rfl 22 (by decide) (hts _ lk_X9_keep_6) (fun _ h9 => h9) rfl dX9_keep_115 ?_
              refine lv_iload_n hx hb dX9_keep_118 rfl (lv_at hl 2 rfl) ?_
              obtain ⟨hi59, hb54⟩ := zz_chkE hb54
              refine va_iald hx hb hK hP 1 0 rfl rfl hi59 dX9_keep_119 ?_
              obtain ⟨hi60, hb54⟩ := zz_chkE hb54
              refine zz_iast hx hb hK hP hD hS 3 0 rfl rfl hi60 dX9_keep_120 (fun g61 => [(a_t, .inr (8, [.ref a_t_read, .int t_readMany, .ref a_t_papers, .ref a_t_paperMany, .ref a_t_text, .int t_length, .int t_at, .int t_faultAt, .int t_year, .int t_wordsNow, .ref a_t_whose, .int t_mendChanges, .ref a_t_plan, .int t_most, .int t_above, .int t_handing, .int t_wants, .ref a_t_wantNight, .ref a_t_wantHouse, .ref a_t_wantWeight, .ref a_t_ahead, .ref a_t_best, .ref a_t_fines, .ref a_t_times, .ref a_t_isKept, .ref a_t_keptPlan, .ref a_t_keptFines, .ref a_t_keptTimes])), (a_t_fines, .inl (cI, 2, .inl t_fines)), (a_t_isKept, .inl (cZ, 2, .inl g6)), (a_t_keptFines, .inl (cI, 4, .inl g61)), (a_t_keptPlan, .inl (cI, 112, .inl g35)), (a_t_keptTimes, .inl (cI, 4, .inl g54)), (a_t_paperMany, .inl (cI, 3, .inl g9)), (a_t_papers, .inl (cI, 180, .inl g22)), (a_t_plan, .inl (cI, 56, .inl t_plan)), (a_t_times, .inl (cI, 2, .inl t_times))]) (fun _ => rfl) (fun g61 H locs eg61 hP hD hS => ?_)
              have hb54 := zz_nmE eg61 hb54
              refine lv_aload_n hx hb dX9_keep_121 rfl (lv_at hl 0 rfl) ?_
              refine va_get (ci := 8) (v := .ref a_t_keptTimes) (C := RX9) (T := TX9) (N := 28) hx hb hts in_X9_keep_X9 hown hK hP 0 rfl rfl 27 (by decide) (hts _ lk_X9_keep_7) (fun _ h9 => h9) rfl dX9_keep_122 ?_
              refine lv_iconst (v := 2) hx hb dX9_keep_125 (by decide) ?_
              refine lv_iload_n hx hb dX9_keep_126 rfl (lv_at hl 1 rfl) ?_
              refine lv_imul hx hb dX9_keep_127 ?_
              refine lv_iload_n hx hb dX9_keep_128 rfl (lv_at hl 2 rfl) ?_
              refine lv_iadd hx hb dX9_keep_129 ?_
              refine lv_aload_n hx hb dX9_keep_130 rfl (lv_at hl 0 rfl) ?_
              refine va_get (ci := 8) (v := .ref a_t_times) (C := RX9) (T := TX9) (N := 28) hx hb hts in_X9_keep_X9 hown hK hP 0 rfl rfl 23 (by decide) (hts _ lk_X9_keep_8) (fun _ h9 => h9) rfl dX9_keep_131 ?_
              refine lv_iload_n hx hb dX9_keep_134 rfl (lv_at hl 2 rfl) ?_
              obtain ⟨hi62, hb54⟩ := zz_chkE hb54
              refine va_iald hx hb hK hP 9 0 rfl rfl hi62 dX9_keep_135 ?_
              obtain ⟨hi63, hb54⟩ := zz_chkE hb54
              refine zz_iast hx hb hK hP hD hS 5 0 rfl rfl hi63 dX9_keep_136 (fun g64 => [(a_t, .inr (8, [.ref a_t_read, .int t_readMany, .ref a_t_papers, .ref a_t_paperMany, .ref a_t_text, .int t_length, .int t_at, .int t_faultAt, .int t_year, .int t_wordsNow, .ref a_t_whose, .int t_mendChanges, .ref a_t_plan, .int t_most, .int t_above, .int t_handing, .int t_wants, .ref a_t_wantNight, .ref a_t_wantHouse, .ref a_t_wantWeight, .ref a_t_ahead, .ref a_t_best, .ref a_t_fines, .ref a_t_times, .ref a_t_isKept, .ref a_t_keptPlan, .ref a_t_keptFines, .ref a_t_keptTimes])), (a_t_fines, .inl (cI, 2, .inl t_fines)), (a_t_isKept, .inl (cZ, 2, .inl g6)), (a_t_keptFines, .inl (cI, 4, .inl g61)), (a_t_keptPlan, .inl (cI, 112, .inl g35)), (a_t_keptTimes, .inl (cI, 4, .inl g64)), (a_t_paperMany, .inl (cI, 3, .inl g9)), (a_t_papers, .inl (cI, 180, .inl g22)), (a_t_plan, .inl (cI, 56, .inl t_plan)), (a_t_times, .inl (cI, 2, .inl t_times))]) (fun _ => rfl) (fun g64 H locs eg64 hP hD hS => ?_)
              have hb54 := zz_nmE eg64 hb54
              obtain ⟨x65, ex65⟩ : ∃ z : Int32, z = x52 + 1 := ⟨_, rfl⟩
              have hb54 := zz_nmE ex65 hb54
              refine lv_iinc (v := x65) (lv' := [(2, .int x65), (0, .ref a_t), (1, .int p1)]) hx hb dX9_keep_137 hl (k := 2) rfl (by rw [ex65]; rfl) (by decide) rfl (fun ls hl => ?_)
              refine lv_goto (tgt := 100) hx hb dX9_keep_140 (by decide) ?_
              obtain rfl := Option.some.inj hb54
              exact ih54 x65 g61 g64 _ _ ls hy54 hP hD hS (lv_sub hl [1, 2, 0] rfl)
        exact hL54 zz_fuel 0 t_keptFines t_keptTimes _ _ ls hit54 hP hD hS (lv_sub hl [1, 2, 0] rfl)
      refine zz_cut (fun V => ∀ (n : Nat) (x33 : Int32) (g34 : (Nat → Int32)) (H : Heap) (locs : List Loc) (ls : Array Slot), zz_it (fun z => fb_X9_keep_69 p1 t_plan z.1 z.2) n (x33, g34) = some g35 → va_P (dC, dI) vwCl [(a_t, .inr (8, [.ref a_t_read, .int t_readMany, .ref a_t_papers, .ref a_t_paperMany, .ref a_t_text, .int t_length, .int t_at, .int t_faultAt, .int t_year, .int t_wordsNow, .ref a_t_whose, .int t_mendChanges, .ref a_t_plan, .int t_most, .int t_above, .int t_handing, .int t_wants, .ref a_t_wantNight, .ref a_t_wantHouse, .ref a_t_wantWeight, .ref a_t_ahead, .ref a_t_best, .ref a_t_fines, .ref a_t_times, .ref a_t_isKept, .ref a_t_keptPlan, .ref a_t_keptFines, .ref a_t_keptTimes])), (a_t_fines, .inl (cI, 2, .inl t_fines)), (a_t_isKept, .inl (cZ, 2, .inl g6)), (a_t_keptFines, .inl (cI, 4, .inl t_keptFines)), (a_t_keptPlan, .inl (cI, 112, .inl g34)), (a_t_keptTimes, .inl (cI, 4, .inl t_keptTimes)), (a_t_paperMany, .inl (cI, 3, .inl g9)), (a_t_papers, .inl (cI, 180, .inl g22)), (a_t_plan, .inl (cI, 56, .inl t_plan)), (a_t_times, .inl (cI, 2, .inl t_times))] H → va_D A [(a_t, .inr (8, [.ref a_t_read, .int t_readMany, .ref a_t_papers, .ref a_t_paperMany, .ref a_t_text, .int t_length, .int t_at, .int t_faultAt, .int t_year, .int t_wordsNow, .ref a_t_whose, .int t_mendChanges, .ref a_t_plan, .int t_most, .int t_above, .int t_handing, .int t_wants, .ref a_t_wantNight, .ref a_t_wantHouse, .ref a_t_wantWeight, .ref a_t_ahead, .ref a_t_best, .ref a_t_fines, .ref a_t_times, .ref a_t_isKept, .ref a_t_keptPlan, .ref a_t_keptFines, .ref a_t_keptTimes])), (a_t_fines, .inl (cI, 2, .inl t_fines)), (a_t_isKept, .inl (cZ, 2, .inl g6)), (a_t_keptFines, .inl (cI, 4, .inl t_keptFines)), (a_t_keptPlan, .inl (cI, 112, .inl g34)), (a_t_keptTimes, .inl (cI, 4, .inl t_keptTimes)), (a_t_paperMany, .inl (cI, 3, .inl g9)), (a_t_papers, .inl (cI, 180, .inl g22)), (a_t_plan, .inl (cI, 56, .inl t_plan)), (a_t_times, .inl (cI, 2, .inl t_times))] → va_S A s.heap H locs → lv_has ls 3 [(0, .ref a_t), (1, .int p1), (2, .int x33)] → V H locs (F0 m 69 ls [])) ?_ (fun hL34 => ?_)
      · intro n
        induction n with
        | zero => intro x33 g34 H locs ls hit34; exact (zz_it0 hit34).elim
        | succ n ih34 =>
          intro x33 g34 H locs ls hit34 hP hD hS hl
          obtain ⟨y34, hb34, hy34⟩ := zz_itE hit34
          have hb34 : fb_X9_keep_69 p1 t_plan x33 g34 = some y34 := hb34
          unfold fb_X9_keep_69 at hb34
          refine lv_iload_n hx hb dX9_keep_69 rfl (lv_at hl 2 rfl) ?_
          refine lv_bipush (v := 56) hx hb dX9_keep_70 (by decide) ?_
          refine lv_icmp_ge (tgt := 98) hx hb dX9_keep_72 (by decide) (fun c66 => ?_) (fun c66 => ?_)
          · have hb34 := zz_if c66 hb34
            obtain rfl := Option.some.inj hb34
            have hy34 := Option.some.inj hy34
            cases hy34
            exact hE34 _ _ ls hP hD hS (lv_sub hl [0, 1] rfl)
          · have hb34 := zz_ifn c66 hb34
            refine lv_aload_n hx hb dX9_keep_75 rfl (lv_at hl 0 rfl) ?_
            refine va_get (ci := 8) (v := .ref a_t_keptPlan) (C := RX9) (T := TX9) (N := 28) hx hb hts in_X9_keep_X9 hown hK hP 0 rfl rfl 25 (by decide) (hts _ lk_X9_keep_3) (fun _ h9 => h9) rfl dX9_keep_76 ?_
            refine lv_bipush (v := 56) hx hb dX9_keep_79 (by decide) ?_
            refine lv_iload_n hx hb dX9_keep_81 rfl (lv_at hl 1 rfl) ?_
            refine lv_imul hx hb dX9_keep_82 ?_
            refine lv_iload_n hx hb dX9_keep_83 rfl (lv_at hl 2 rfl) ?_
            refine lv_iadd hx hb dX9_keep_84 ?_
            refine lv_aload_n hx hb dX9_keep_85 rfl (lv_at hl 0 rfl) ?_
            refine va_get (ci := 8) (v := .ref a_t_plan) (C := RX9) (T := TX9) (N := 28) hx hb hts in_X9_keep_X9 hown hK hP 0 rfl rfl 12 (by decide) (hts _ lk_X9_keep_4) (fun _ h9 => h9) rfl dX9_keep_86 ?_
            refine lv_iload_n hx hb dX9_keep_89 rfl (lv_at hl 2 rfl) ?_
            obtain ⟨hi67, hb34⟩ := zz_chkE hb34
            refine va_iald hx hb hK hP 8 0 rfl rfl hi67 dX9_keep_90 ?_
            obtain ⟨hi68, hb34⟩ := zz_chkE hb34
            refine zz_iast hx hb hK hP hD hS 4 0 rfl rfl hi68 dX9_keep_91 (fun g69 => [(a_t, .inr (8, [.ref a_t_read, .int t_readMany, .ref a_t_papers, .ref a_t_paperMany, .ref a_t_text, .int t_length, .int t_at, .int t_faultAt, .int t_year, .int t_wordsNow, .ref a_t_whose, .int t_mendChanges, .ref a_t_plan, .int t_most, .int t_above, .int t_handing, .int t_wants, .ref a_t_wantNight, .ref a_t_wantHouse, .ref a_t_wantWeight, .ref a_t_ahead, .ref a_t_best, .ref a_t_fines, .ref a_t_times, .ref a_t_isKept, .ref a_t_keptPlan, .ref a_t_keptFines, .ref a_t_keptTimes])), (a_t_fines, .inl (cI, 2, .inl t_fines)), (a_t_isKept, .inl (cZ, 2, .inl g6)), (a_t_keptFines, .inl (cI, 4, .inl t_keptFines)), (a_t_keptPlan, .inl (cI, 112, .inl g69)), (a_t_keptTimes, .inl (cI, 4, .inl t_keptTimes)), (a_t_paperMany, .inl (cI, 3, .inl g9)), (a_t_papers, .inl (cI, 180, .inl g22)), (a_t_plan, .inl (cI, 56, .inl t_plan)), (a_t_times, .inl (cI, 2, .inl t_times))]) (fun _ => rfl) (fun g69 H locs eg69 hP hD hS => ?_)
            have hb34 := zz_nmE eg69 hb34
            obtain ⟨x70, ex70⟩ : ∃ z : Int32, z = x33 + 1 := ⟨_, rfl⟩
            have hb34 := zz_nmE ex70 hb34
            refine lv_iinc (v := x70) (lv' := [(2, .int x70), (0, .ref a_t), (1, .int p1)]) hx hb dX9_keep_92 hl (k := 2) rfl (by rw [ex70]; rfl) (by decide) rfl (fun ls hl => ?_)
            refine lv_goto (tgt := 69) hx hb dX9_keep_95 (by decide) ?_
            obtain rfl := Option.some.inj hb34
            exact ih34 x70 g69 _ _ ls hy34 hP hD hS (lv_sub hl [1, 2, 0] rfl)
      exact hL34 zz_fuel 0 t_keptPlan _ _ ls hit34 hP hD hS (lv_sub hl [1, 2, 0] rfl)
    refine zz_cut (fun V => ∀ (n : Nat) (x20 : Int32) (g21 : (Nat → Int32)) (H : Heap) (locs : List Loc) (ls : Array Slot), zz_it (fun z => fb_X9_keep_35 p1 z.1 z.2) n (x20, g21) = some g22 → va_P (dC, dI) vwCl [(a_t, .inr (8, [.ref a_t_read, .int t_readMany, .ref a_t_papers, .ref a_t_paperMany, .ref a_t_text, .int t_length, .int t_at, .int t_faultAt, .int t_year, .int t_wordsNow, .ref a_t_whose, .int t_mendChanges, .ref a_t_plan, .int t_most, .int t_above, .int t_handing, .int t_wants, .ref a_t_wantNight, .ref a_t_wantHouse, .ref a_t_wantWeight, .ref a_t_ahead, .ref a_t_best, .ref a_t_fines, .ref a_t_times, .ref a_t_isKept, .ref a_t_keptPlan, .ref a_t_keptFines, .ref a_t_keptTimes])), (a_t_fines, .inl (cI, 2, .inl t_fines)), (a_t_isKept, .inl (cZ, 2, .inl g6)), (a_t_keptFines, .inl (cI, 4, .inl t_keptFines)), (a_t_keptPlan, .inl (cI, 112, .inl t_keptPlan)), (a_t_keptTimes, .inl (cI, 4, .inl t_keptTimes)), (a_t_paperMany, .inl (cI, 3, .inl g9)), (a_t_papers, .inl (cI, 180, .inl g21)), (a_t_plan, .inl (cI, 56, .inl t_plan)), (a_t_times, .inl (cI, 2, .inl t_times))] H → va_D A [(a_t, .inr (8, [.ref a_t_read, .int t_readMany, .ref a_t_papers, .ref a_t_paperMany, .ref a_t_text, .int t_length, .int t_at, .int t_faultAt, .int t_year, .int t_wordsNow, .ref a_t_whose, .int t_mendChanges, .ref a_t_plan, .int t_most, .int t_above, .int t_handing, .int t_wants, .ref a_t_wantNight, .ref a_t_wantHouse, .ref a_t_wantWeight, .ref a_t_ahead, .ref a_t_best, .ref a_t_fines, .ref a_t_times, .ref a_t_isKept, .ref a_t_keptPlan, .ref a_t_keptFines, .ref a_t_keptTimes])), (a_t_fines, .inl (cI, 2, .inl t_fines)), (a_t_isKept, .inl (cZ, 2, .inl g6)), (a_t_keptFines, .inl (cI, 4, .inl t_keptFines)), (a_t_keptPlan, .inl (cI, 112, .inl t_keptPlan)), (a_t_keptTimes, .inl (cI, 4, .inl t_keptTimes)), (a_t_paperMany, .inl (cI, 3, .inl g9)), (a_t_papers, .inl (cI, 180, .inl g21)), (a_t_plan, .inl (cI, 56, .inl t_plan)), (a_t_times, .inl (cI, 2, .inl t_times))] → va_S A s.heap H locs → lv_has ls 3 [(0, .ref a_t), (1, .int p1), (2, .int x20)] → V H locs (F0 m 35 ls [])) ?_ (fun hL21 => ?_)
    · intro n
      induction n with
      | zero => intro x20 g21 H locs ls hit21; exact (zz_it0 hit21).elim
      | succ n ih21 =>
        intro x20 g21 H locs ls hit21 hP hD hS hl
        obtain ⟨y21, hb21, hy21⟩ := zz_itE hit21
        have hb21 : fb_X9_keep_35 p1 x20 g21 = some y21 := hb21
        unfold fb_X9_keep_35 at hb21
        refine lv_iload_n hx hb dX9_keep_35 rfl (lv_at hl 2 rfl) ?_
        refine lv_bipush (v := 60) hx hb dX9_keep_36 (by decide) ?_
        refine lv_icmp_ge (tgt := 67) hx hb dX9_keep_38 (by decide) (fun c71 => ?_) (fun c71 => ?_)
        · have hb21 := zz_if c71 hb21
          obtain rfl := Option.some.inj hb21
          have hy21 := Option.some.inj hy21
          cases hy21
          exact hE21 _ _ ls hP hD hS (lv_sub hl [0, 1] rfl)
        · have hb21 := zz_ifn c71 hb21
          refine lv_aload_n hx hb dX9_keep_41 rfl (lv_at hl 0 rfl) ?_
          refine va_get (ci := 8) (v := .ref a_t_papers) (C := RX9) (T := TX9) (N := 28) hx hb hts in_X9_keep_X9 hown hK hP 0 rfl rfl 2 (by decide) (hts _ lk_X9_keep_2) (fun _ h9 => h9) rfl dX9_keep_42 ?_
          refine lv_bipush (v := 60) hx hb dX9_keep_45 (by decide) ?_
          refine lv_bipush (v := 60) hx hb dX9_keep_47 (by decide) ?_
          refine lv_iload_n hx hb dX9_keep_49 rfl (lv_at hl 1 rfl) ?_
          refine lv_imul hx hb dX9_keep_50 ?_
          refine lv_iadd hx hb dX9_keep_51 ?_
          refine lv_iload_n hx hb dX9_keep_52 rfl (lv_at hl 2 rfl) ?_
          refine lv_iadd hx hb dX9_keep_53 ?_
          refine lv_aload_n hx hb dX9_keep_54 rfl (lv_at hl 0 rfl) ?_
          refine va_get (ci := 8) (v := .ref a_t_papers) (C := RX9) (T := TX9) (N := 28) hx hb hts in_X9_keep_X9 hown hK hP 0 rfl rfl 2 (by decide) (hts _ lk_X9_keep_2) (fun _ h9 => h9) rfl dX9_keep_55 ?_
          refine lv_iload_n hx hb dX9_keep_58 rfl (lv_at hl 2 rfl) ?_
          obtain ⟨hi72, hb21⟩ := zz_chkE hb21
          refine va_iald hx hb hK hP 7 0 rfl rfl hi72 dX9_keep_59 ?_
          obtain ⟨hi73, hb21⟩ := zz_chkE hb21
          refine zz_iast hx hb hK hP hD hS 7 0 rfl rfl hi73 dX9_keep_60 (fun g74 => [(a_t, .inr (8, [.ref a_t_read, .int t_readMany, .ref a_t_papers, .ref a_t_paperMany, .ref a_t_text, .int t_length, .int t_at, .int t_faultAt, .int t_year, .int t_wordsNow, .ref a_t_whose, .int t_mendChanges, .ref a_t_plan, .int t_most, .int t_above, .int t_handing, .int t_wants, .ref a_t_wantNight, .ref a_t_wantHouse, .ref a_t_wantWeight, .ref a_t_ahead, .ref a_t_best, .ref a_t_fines, .ref a_t_times, .ref a_t_isKept, .ref a_t_keptPlan, .ref a_t_keptFines, .ref a_t_keptTimes])), (a_t_fines, .inl (cI, 2, .inl t_fines)), (a_t_isKept, .inl (cZ, 2, .inl g6)), (a_t_keptFines, .inl (cI, 4, .inl t_keptFines)), (a_t_keptPlan, .inl (cI, 112, .inl t_keptPlan)), (a_t_keptTimes, .inl (cI, 4, .inl t_keptTimes)), (a_t_paperMany, .inl (cI, 3, .inl g9)), (a_t_papers, .inl (cI, 180, .inl g74)), (a_t_plan, .inl (cI, 56, .inl t_plan)), (a_t_times, .inl (cI, 2, .inl t_times))]) (fun _ => rfl) (fun g74 H locs eg74 hP hD hS => ?_)
          have hb21 := zz_nmE eg74 hb21
          obtain ⟨x75, ex75⟩ : ∃ z : Int32, z = x20 + 1 := ⟨_, rfl⟩
          have hb21 := zz_nmE ex75 hb21
          refine lv_iinc (v := x75) (lv' := [(2, .int x75), (0, .ref a_t), (1, .int p1)]) hx hb dX9_keep_61 hl (k := 2) rfl (by rw [ex75]; rfl) (by decide) rfl (fun ls hl => ?_)
          refine lv_goto (tgt := 35) hx hb dX9_keep_64 (by decide) ?_
          obtain rfl := Option.some.inj hb21
          exact ih21 x75 g74 _ _ ls hy21 hP hD hS (lv_sub hl [1, 2, 0] rfl)
    exact hL21 zz_fuel 0 t_papers _ _ ls hit21 hP hD hS (lv_sub hl [1, 2, 0] rfl)
  · have h := zz_if c4 h
    refine lv_iconst (v := (-1)) hx hb dX9_keep_10 (by decide) ?_
    exact zz_iret (t_isKept, t_keptFines, t_keptPlan, t_keptTimes, t_paperMany, t_papers) hx hb hr hlocks dX9_keep_11 (Option.some.inj h) hP hK hD hS
