theorem hd_X9_readText : yX9_readText.cls ≠ "java/lang/invoke/MethodHandle" ∧ yX9_readText.cls ≠ "java/lang/invoke/VarHandle" ∧ (parseMethodDescriptor yX9_readText.desc).map (fun d => d.parameters.length) = some 0 := by decide +kernel
set_option maxRecDepth 20000 in
theorem in_X9_readText_X9 : ∀ w ∈ u_ws RX9 TX9 28, w ∈ wsX9_readText := by decide +kernel
set_option maxRecDepth 20000 in
theorem lk_X9_readText_0 : Cond.fieldLink RX9 89 "TwoHousesOneChildModel" "at" "I" ∈ wsX9_readText := by decide +kernel
set_option maxRecDepth 20000 in
theorem lk_X9_readText_1 : Cond.fieldLink RX9 86 "TwoHousesOneChildModel" "faultAt" "I" ∈ wsX9_readText := by decide +kernel
set_option maxRecDepth 20000 in
theorem lk_X9_readText_2 : Cond.fieldLink RX9 99 "TwoHousesOneChildModel" "readMany" "I" ∈ wsX9_readText := by decide +kernel
set_option maxRecDepth 20000 in
theorem lk_X9_readText_3 : Cond.fieldLink RX9 81 "TwoHousesOneChildModel" "length" "I" ∈ wsX9_readText := by decide +kernel
set_option maxRecDepth 20000 in
theorem lk_X9_readText_4 : Cond.fieldLink RX9 19 "TwoHousesOneChildModel" "text" "[I" ∈ wsX9_readText := by decide +kernel
set_option maxHeartbeats 4000000 in
set_option maxRecDepth 100000 in
theorem ct_X9_readText (l : Launch) (dC : Nat → ClassId) (dI : Nat → Nat → Nat) (cI cJ cB cZ : ClassId) (a_t a_t_read a_t_text a_t_papers a_t_paperMany a_t_whose a_t_plan a_t_wantNight a_t_wantHouse a_t_wantWeight a_t_ahead a_t_best a_t_fines a_t_times a_t_isKept a_t_keptPlan a_t_keptFines a_t_keptTimes : Nat) (t_readMany : Int32) (t_length : Int32) (t_at : Int32) (t_faultAt : Int32) (t_year : Int32) (t_wordsNow : Int32) (t_mendChanges : Int32) (t_most : Int32) (t_above : Int32) (t_handing : Int32) (t_wants : Int32) (t_read : (Nat → Int32)) (t_text : (Nat → Int32)) (rr : Int32) (o1 : Int32) (o2 : Int32) (o3 : Int32) (o4 : (Nat → Int32)) (h : fn_X9_readText t_length t_read t_text = some (rr, o1, o2, o3, o4)) : zz_M l yX9_readText wsX9_readText ({ frames := 4, cells := 0, slots := 0, locals := 93 }) (dC, dI) (zz_T cI cJ cB cZ) [.ref a_t] [(a_t, .inr (8, [.ref a_t_read, .int t_readMany, .ref a_t_papers, .ref a_t_paperMany, .ref a_t_text, .int t_length, .int t_at, .int t_faultAt, .int t_year, .int t_wordsNow, .ref a_t_whose, .int t_mendChanges, .ref a_t_plan, .int t_most, .int t_above, .int t_handing, .int t_wants, .ref a_t_wantNight, .ref a_t_wantHouse, .ref a_t_wantWeight, .ref a_t_ahead, .ref a_t_best, .ref a_t_fines, .ref a_t_times, .ref a_t_isKept, .ref a_t_keptPlan, .ref a_t_keptFines, .ref a_t_keptTimes])), (a_t_read, .inl (cI, 60, .inl t_read)), (a_t_text, .inl (cI, 64, .inl t_text))] (zz_QI (dC, dI) (zz_T cI cJ cB cZ) (rr, o1, o2, o3, o4) (fun (u : Int32 × Int32 × Int32 × (Nat → Int32)) => [(a_t, .inr (8, [.ref a_t_read, .int u.1, .ref a_t_papers, .ref a_t_paperMany, .ref a_t_text, .int t_length, .int u.2.1, .int u.2.2.1, .int t_year, .int t_wordsNow, .ref a_t_whose, .int t_mendChanges, .ref a_t_plan, .int t_most, .int t_above, .int t_handing, .int t_wants, .ref a_t_wantNight, .ref a_t_wantHouse, .ref a_t_wantWeight, .ref a_t_ahead, .ref a_t_best, .ref a_t_fines, .ref a_t_times, .ref a_t_isKept, .ref a_t_keptPlan, .ref a_t_keptFines, .ref a_t_keptTimes])), (a_t_read, .inl (cI, 60, .inl u.2.2.2)), (a_t_text, .inl (cI, 64, .inl t_text))])) := by
  unfold fn_X9_readText at h
  refine zz_of (by decide) rfl (Nat.le_of_ble_eq_true rfl) ?_
  intro p e s m below meth c A ls hx hb hr hml hts hown hlocks hA hS hP hK hD hl
  have hown : s.vm.findClass RX9 = some m.cls := hown
  have hl : lv_has ls 3 [(0, .ref a_t)] := hl
  refine lv_aload_n hx hb dX9_readText_0 rfl (lv_at hl 0 rfl) ?_
  refine lv_iconst (v := 0) hx hb dX9_readText_1 (by decide) ?_
  refine va_put (ci := 8) (v := .int 0) (ty := .int) (C := RX9) (T := TX9) (N := 28) hx hb hts in_X9_readText_X9 tyX9 tyX9_ok nmX9 hown hK hP hD hS 0 rfl rfl 6 (by decide) (hts _ lk_X9_readText_0) (fun _ h9 => h9) rfl (by decide +kernel) rfl rfl (Nat.le_of_ble_eq_true rfl) dX9_readText_2 (fun H locs hP hD hS => ?_)
  have hP : va_P (dC, dI) vwCl [(a_t, .inr (8, [.ref a_t_read, .int t_readMany, .ref a_t_papers, .ref a_t_paperMany, .ref a_t_text, .int t_length, .int 0, .int t_faultAt, .int t_year, .int t_wordsNow, .ref a_t_whose, .int t_mendChanges, .ref a_t_plan, .int t_most, .int t_above, .int t_handing, .int t_wants, .ref a_t_wantNight, .ref a_t_wantHouse, .ref a_t_wantWeight, .ref a_t_ahead, .ref a_t_best, .ref a_t_fines, .ref a_t_times, .ref a_t_isKept, .ref a_t_keptPlan, .ref a_t_keptFines, .ref a_t_keptTimes])), (a_t_read, .inl (cI, 60, .inl t_read)), (a_t_text, .inl (cI, 64, .inl t_text))] H := hP
  have hD : va_D A [(a_t, .inr (8, [.ref a_t_read, .int t_readMany, .ref a_t_papers, .ref a_t_paperMany, .ref a_t_text, .int t_length, .int 0, .int t_faultAt, .int t_year, .int t_wordsNow, .ref a_t_whose, .int t_mendChanges, .ref a_t_plan, .int t_most, .int t_above, .int t_handing, .int t_wants, .ref a_t_wantNight, .ref a_t_wantHouse, .ref a_t_wantWeight, .ref a_t_ahead, .ref a_t_best, .ref a_t_fines, .ref a_t_times, .ref a_t_isKept, .ref a_t_keptPlan, .ref a_t_keptFines, .ref a_t_keptTimes])), (a_t_read, .inl (cI, 60, .inl t_read)), (a_t_text, .inl (cI, 64, .inl t_text))] := hD
  refine lv_aload_n hx hb dX9_readText_5 rfl (lv_at hl 0 rfl) ?_
  refine lv_bipush (v := (-9)) hx hb dX9_readText_6 (by decide) ?_
  refine va_put (ci := 8) (v := .int (-9)) (ty := .int) (C := RX9) (T := TX9) (N := 28) hx hb hts in_X9_readText_X9 tyX9 tyX9_ok nmX9 hown hK hP hD hS 0 rfl rfl 7 (by decide) (hts _ lk_X9_readText_1) (fun _ h9 => h9) rfl (by decide +kernel) rfl rfl (Nat.le_of_ble_eq_true rfl) dX9_readText_8 (fun H locs hP hD hS => ?_)
  have hP : va_P (dC, dI) vwCl [(a_t, .inr (8, [.ref a_t_read, .int t_readMany, .ref a_t_papers, .ref a_t_paperMany, .ref a_t_text, .int t_length, .int 0, .int (-9), .int t_year, .int t_wordsNow, .ref a_t_whose, .int t_mendChanges, .ref a_t_plan, .int t_most, .int t_above, .int t_handing, .int t_wants, .ref a_t_wantNight, .ref a_t_wantHouse, .ref a_t_wantWeight, .ref a_t_ahead, .ref a_t_best, .ref a_t_fines, .ref a_t_times, .ref a_t_isKept, .ref a_t_keptPlan, .ref a_t_keptFines, .ref a_t_keptTimes])), (a_t_read, .inl (cI, 60, .inl t_read)), (a_t_text, .inl (cI, 64, .inl t_text))] H := hP
  have hD : va_D A [(a_t, .inr (8, [.ref a_t_read, .int t_readMany, .ref a_t_papers, .ref a_t_paperMany, .ref a_t_text, .int t_length, .int 0, .int (-9), .int t_year, .int t_wordsNow, .ref a_t_whose, .int t_mendChanges, .ref a_t_plan, .int t_most, .int t_above, .int t_handing, .int t_wants, .ref a_t_wantNight, .ref a_t_wantHouse, .ref a_t_wantWeight, .ref a_t_ahead, .ref a_t_best, .ref a_t_fines, .ref a_t_times, .ref a_t_isKept, .ref a_t_keptPlan, .ref a_t_keptFines, .ref a_t_keptTimes])), (a_t_read, .inl (cI, 60, .inl t_read)), (a_t_text, .inl (cI, 64, .inl t_text))] := hD
  refine lv_aload_n hx hb dX9_readText_11 rfl (lv_at hl 0 rfl) ?_
  refine lv_iconst (v := 0) hx hb dX9_readText_12 (by decide) ?_
  refine va_put (ci := 8) (v := .int 0) (ty := .int) (C := RX9) (T := TX9) (N := 28) hx hb hts in_X9_readText_X9 tyX9 tyX9_ok nmX9 hown hK hP hD hS 0 rfl rfl 1 (by decide) (hts _ lk_X9_readText_2) (fun _ h9 => h9) rfl (by decide +kernel) rfl rfl (Nat.le_of_ble_eq_true rfl) dX9_readText_13 (fun H locs hP hD hS => ?_)
  have hP : va_P (dC, dI) vwCl [(a_t, .inr (8, [.ref a_t_read, .int 0, .ref a_t_papers, .ref a_t_paperMany, .ref a_t_text, .int t_length, .int 0, .int (-9), .int t_year, .int t_wordsNow, .ref a_t_whose, .int t_mendChanges, .ref a_t_plan, .int t_most, .int t_above, .int t_handing, .int t_wants, .ref a_t_wantNight, .ref a_t_wantHouse, .ref a_t_wantWeight, .ref a_t_ahead, .ref a_t_best, .ref a_t_fines, .ref a_t_times, .ref a_t_isKept, .ref a_t_keptPlan, .ref a_t_keptFines, .ref a_t_keptTimes])), (a_t_read, .inl (cI, 60, .inl t_read)), (a_t_text, .inl (cI, 64, .inl t_text))] H := hP
  have hD : va_D A [(a_t, .inr (8, [.ref a_t_read, .int 0, .ref a_t_papers, .ref a_t_paperMany, .ref a_t_text, .int t_length, .int 0, .int (-9), .int t_year, .int t_wordsNow, .ref a_t_whose, .int t_mendChanges, .ref a_t_plan, .int t_most, .int t_above, .int t_handing, .int t_wants, .ref a_t_wantNight, .ref a_t_wantHouse, .ref a_t_wantWeight, .ref a_t_ahead, .ref a_t_best, .ref a_t_fines, .ref a_t_times, .ref a_t_isKept, .ref a_t_keptPlan, .ref a_t_keptFines, .ref a_t_keptTimes])), (a_t_read, .inl (cI, 60, .inl t_read)), (a_t_text, .inl (cI, 64, .inl t_text))] := hD
  obtain ⟨x59, x60, x61, g62, hit58, h⟩ := zz_b4E h
  refine zz_cut (fun V => ∀ (H : Heap) (locs : List Loc) (ls : Array Slot), va_P (dC, dI) vwCl [(a_t, .inr (8, [.ref a_t_read, .int x59, .ref a_t_papers, .ref a_t_paperMany, .ref a_t_text, .int t_length, .int x60, .int x61, .int t_year, .int t_wordsNow, .ref a_t_whose, .int t_mendChanges, .ref a_t_plan, .int t_most, .int t_above, .int t_handing, .int t_wants, .ref a_t_wantNight, .ref a_t_wantHouse, .ref a_t_wantWeight, .ref a_t_ahead, .ref a_t_best, .ref a_t_fines, .ref a_t_times, .ref a_t_isKept, .ref a_t_keptPlan, .ref a_t_keptFines, .ref a_t_keptTimes])), (a_t_read, .inl (cI, 60, .inl g62)), (a_t_text, .inl (cI, 64, .inl t_text))] H → va_D A [(a_t, .inr (8, [.ref a_t_read, .int x59, .ref a_t_papers, .ref a_t_paperMany, .ref a_t_text, .int t_length, .int x60, .int x61, .int t_year, .int t_wordsNow, .ref a_t_whose, .int t_mendChanges, .ref a_t_plan, .int t_most, .int t_above, .int t_handing, .int t_wants, .ref a_t_wantNight, .ref a_t_wantHouse, .ref a_t_wantWeight, .ref a_t_ahead, .ref a_t_best, .ref a_t_fines, .ref a_t_times, .ref a_t_isKept, .ref a_t_keptPlan, .ref a_t_keptFines, .ref a_t_keptTimes])), (a_t_read, .inl (cI, 60, .inl g62)), (a_t_text, .inl (cI, 64, .inl t_text))] → va_S A s.heap H locs → lv_has ls 3 [(0, .ref a_t)] → V H locs (F0 m 137 ls [])) ?_ (fun hE58 => ?_)
  · intro H locs ls hP hD hS hl
    refine lv_aload_n hx hb dX9_readText_137 rfl (lv_at hl 0 rfl) ?_
    refine va_get (ci := 8) (v := .int x61) (C := RX9) (T := TX9) (N := 28) hx hb hts in_X9_readText_X9 hown hK hP 0 rfl rfl 7 (by decide) (hts _ lk_X9_readText_1) (fun _ h9 => h9) rfl dX9_readText_138 ?_
    exact zz_iret (x59, x60, x61, g62) hx hb hr hlocks dX9_readText_141 (Option.some.inj h) hP hK hD hS
  refine zz_cut (fun V => ∀ (n : Nat) (x55 : Int32) (x56 : Int32) (x57 : Int32) (g58 : (Nat → Int32)) (H : Heap) (locs : List Loc) (ls : Array Slot), zz_it (fun z => fb_X9_readText_16 t_length t_text z.1 z.2.1 z.2.2.1 z.2.2.2) n (x55, x56, x57, g58) = some (x59, x60, x61, g62) → va_P (dC, dI) vwCl [(a_t, .inr (8, [.ref a_t_read, .int x55, .ref a_t_papers, .ref a_t_paperMany, .ref a_t_text, .int t_length, .int x56, .int x57, .int t_year, .int t_wordsNow, .ref a_t_whose, .int t_mendChanges, .ref a_t_plan, .int t_most, .int t_above, .int t_handing, .int t_wants, .ref a_t_wantNight, .ref a_t_wantHouse, .ref a_t_wantWeight, .ref a_t_ahead, .ref a_t_best, .ref a_t_fines, .ref a_t_times, .ref a_t_isKept, .ref a_t_keptPlan, .ref a_t_keptFines, .ref a_t_keptTimes])), (a_t_read, .inl (cI, 60, .inl g58)), (a_t_text, .inl (cI, 64, .inl t_text))] H → va_D A [(a_t, .inr (8, [.ref a_t_read, .int x55, .ref a_t_papers, .ref a_t_paperMany, .ref a_t_text, .int t_length, .int x56, .int x57, .int t_year, .int t_wordsNow, .ref a_t_whose, .int t_mendChanges, .ref a_t_plan, .int t_most, .int t_above, .int t_handing, .int t_wants, .ref a_t_wantNight, .ref a_t_wantHouse, .ref a_t_wantWeight, .ref a_t_ahead, .ref a_t_best, .ref a_t_fines, .ref a_t_times, .ref a_t_isKept, .ref a_t_keptPlan, .ref a_t_keptFines, .ref a_t_keptTimes])), (a_t_read, .inl (cI, 60, .inl g58)), (a_t_text, .inl (cI, 64, .inl t_text))] → va_S A s.heap H locs → lv_has ls 3 [(0, .ref a_t)] → V H locs (F0 m 16 ls [])) ?_ (fun hL58 => ?_)
  · intro n
    induction n with
    | zero => intro x55 x56 x57 g58 H locs ls hit58; exact (zz_it0 hit58).elim
    | succ n ih58 =>
      intro x55 x56 x57 g58 H locs ls hit58 hP hD hS hl
      obtain ⟨y58, hb58, hy58⟩ := zz_itE hit58
      have hb58 : fb_X9_readText_16 t_length t_text x55 x56 x57 g58 = some y58 := hb58
      unfold fb_X9_readText_16 at hb58
      refine lv_aload_n hx hb dX9_readText_16 rfl (lv_at hl 0 rfl) ?_
      refine va_get (ci := 8) (v := .int x57) (C := RX9) (T := TX9) (N := 28) hx hb hts in_X9_readText_X9 hown hK hP 0 rfl rfl 7 (by decide) (hts _ lk_X9_readText_1) (fun _ h9 => h9) rfl dX9_readText_17 ?_
      refine lv_bipush (v := (-9)) hx hb dX9_readText_20 (by decide) ?_
      refine lv_icmp_ne (tgt := 137) hx hb dX9_readText_22 (by decide) (fun c63 => ?_) (fun c63 => ?_)
      · have hb58 := zz_ifn c63 hb58
        obtain rfl := Option.some.inj hb58
        have hy58 := Option.some.inj hy58
        cases hy58
        exact hE58 _ _ ls hP hD hS (lv_sub hl [0] rfl)
      · have hb58 := zz_if c63 hb58
        refine lv_aload_n hx hb dX9_readText_25 rfl (lv_at hl 0 rfl) ?_
        refine va_get (ci := 8) (v := .int x56) (C := RX9) (T := TX9) (N := 28) hx hb hts in_X9_readText_X9 hown hK hP 0 rfl rfl 6 (by decide) (hts _ lk_X9_readText_0) (fun _ h9 => h9) rfl dX9_readText_26 ?_
        refine lv_aload_n hx hb dX9_readText_29 rfl (lv_at hl 0 rfl) ?_
        refine va_get (ci := 8) (v := .int t_length) (C := RX9) (T := TX9) (N := 28) hx hb hts in_X9_readText_X9 hown hK hP 0 rfl rfl 5 (by decide) (hts _ lk_X9_readText_3) (fun _ h9 => h9) rfl dX9_readText_30 ?_
        refine lv_icmp_ge (tgt := 137) hx hb dX9_readText_33 (by decide) (fun c64 => ?_) (fun c64 => ?_)
        · have hb58 := zz_if c64 hb58
          obtain rfl := Option.some.inj hb58
          have hy58 := Option.some.inj hy58
          cases hy58
          exact hE58 _ _ ls hP hD hS (lv_sub hl [0] rfl)
        · have hb58 := zz_ifn c64 hb58
          refine lv_aload_n hx hb dX9_readText_36 rfl (lv_at hl 0 rfl) ?_
          refine va_get (ci := 8) (v := .ref a_t_text) (C := RX9) (T := TX9) (N := 28) hx hb hts in_X9_readText_X9 hown hK hP 0 rfl rfl 4 (by decide) (hts _ lk_X9_readText_4) (fun _ h9 => h9) rfl dX9_readText_37 ?_
          refine lv_aload_n hx hb dX9_readText_40 rfl (lv_at hl 0 rfl) ?_
          refine va_get (ci := 8) (v := .int x56) (C := RX9) (T := TX9) (N := 28) hx hb hts in_X9_readText_X9 hown hK hP 0 rfl rfl 6 (by decide) (hts _ lk_X9_readText_0) (fun _ h9 => h9) rfl dX9_readText_41 ?_
          obtain ⟨hi65, hb58⟩ := zz_chkE hb58
          refine va_iald hx hb hK hP 2 0 rfl rfl hi65 dX9_readText_44 ?_
          refine lv_topi (fun x66 ex66 => ?_)
          have hb58 := zz_nmE ex66 hb58
          refine lv_istore_n (lv' := [(1, .int x66), (0, .ref a_t)]) hx hb dX9_readText_45 rfl hl (by decide) rfl (fun ls hl => ?_)
          refine lv_iload_n hx hb dX9_readText_46 rfl (lv_at hl 0 rfl) ?_
          refine lv_bipush (v := 87) hx hb dX9_readText_47 (by decide) ?_
          obtain ⟨x72, hj73, hb58⟩ := zz_b1E hb58
          refine zz_cut (fun V => ∀ (H : Heap) (locs : List Loc) (ls : Array Slot), va_P (dC, dI) vwCl [(a_t, .inr (8, [.ref a_t_read, .int x55, .ref a_t_papers, .ref a_t_paperMany, .ref a_t_text, .int t_length, .int x56, .int x57, .int t_year, .int t_wordsNow, .ref a_t_whose, .int t_mendChanges, .ref a_t_plan, .int t_most, .int t_above, .int t_handing, .int t_wants, .ref a_t_wantNight, .ref a_t_wantHouse, .ref a_t_wantWeight, .ref a_t_ahead, .ref a_t_best, .ref a_t_fines, .ref a_t_times, .ref a_t_isKept, .ref a_t_keptPlan, .ref a_t_keptFines, .ref a_t_keptTimes])), (a_t_read, .inl (cI, 60, .inl g58)), (a_t_text, .inl (cI, 64, .inl t_text))] H → va_D A [(a_t, .inr (8, [.ref a_t_read, .int x55, .ref a_t_papers, .ref a_t_paperMany, .ref a_t_text, .int t_length, .int x56, .int x57, .int t_year, .int t_wordsNow, .ref a_t_whose, .int t_mendChanges, .ref a_t_plan, .int t_most, .int t_above, .int t_handing, .int t_wants, .ref a_t_wantNight, .ref a_t_wantHouse, .ref a_t_wantWeight, .ref a_t_ahead, .ref a_t_best, .ref a_t_fines, .ref a_t_times, .ref a_t_isKept, .ref a_t_keptPlan, .ref a_t_keptFines, .ref a_t_keptTimes])), (a_t_read, .inl (cI, 60, .inl g58)), (a_t_text, .inl (cI, 64, .inl t_text))] → va_S A s.heap H locs → lv_has ls 3 [(0, .ref a_t), (1, .int x66)] → V H locs (F0 m 81 ls [.int x72])) ?_ (fun hJ73 => ?_)
          · intro H locs ls hP hD hS hl
            refine lv_istore_n (lv' := [(2, .int x72), (0, .ref a_t), (1, .int x66)]) hx hb dX9_readText_81 rfl hl (by decide) rfl (fun ls hl => ?_)
            refine lv_iload_n hx hb dX9_readText_82 rfl (lv_at hl 0 rfl) ?_
            refine lv_if_eq (tgt := 95) hx hb dX9_readText_83 (by decide) (fun c74 => ?_) (fun c74 => ?_)
            · have hb58 := zz_if c74 hb58
              refine lv_aload_n hx hb dX9_readText_95 rfl (lv_at hl 1 rfl) ?_
              obtain ⟨x75, he76, hb58⟩ := zz_b1E hb58
              refine zz_VV (q := (RX9, TX9, 28)) (As := []) (rest := []) (wr := [(a_t_read, .inl (cI, 60, .inl g58)), (a_t_text, .inl (cI, 64, .inl t_text))]) (wm := [(a_t, .inr (8, [.ref a_t_read, .int x55, .ref a_t_papers, .ref a_t_paperMany, .ref a_t_text, .int t_length, .int x56, .int x75, .int t_year, .int t_wordsNow, .ref a_t_whose, .int t_mendChanges, .ref a_t_plan, .int t_most, .int t_above, .int t_handing, .int t_wants, .ref a_t_wantNight, .ref a_t_wantHouse, .ref a_t_wantWeight, .ref a_t_ahead, .ref a_t_best, .ref a_t_fines, .ref a_t_times, .ref a_t_isKept, .ref a_t_keptPlan, .ref a_t_keptFines, .ref a_t_keptTimes])), (a_t_read, .inl (cI, 60, .inl g58)), (a_t_text, .inl (cI, 64, .inl t_text))]) ⟨hx, hb, hml, hown, hts⟩ (ct_X9_fail l dC dI cI cJ cB cZ a_t a_t_read a_t_papers a_t_paperMany a_t_text a_t_whose a_t_plan a_t_wantNight a_t_wantHouse a_t_wantWeight a_t_ahead a_t_best a_t_fines a_t_times a_t_isKept a_t_keptPlan a_t_keptFines a_t_keptTimes x55 t_length x56 x57 t_year t_wordsNow t_mendChanges t_most t_above t_handing t_wants x75 he76) gX9_readText_X9_fail hd_X9_fail rfl rfl rfl ⟨Nat.le_of_ble_eq_true rfl, Nat.le_of_ble_eq_true rfl⟩ ⟨Nat.le_of_ble_eq_true rfl, Nat.le_of_ble_eq_true rfl⟩ rfl rfl (Nat.le_of_ble_eq_true rfl) dX9_readText_96 hl.1 rfl (ci := 8) rfl (q0 := 0) rfl hP hK hD hS hA [0] [1, 2] [2, 0, 1] rfl rfl (by decide) (by decide) (by decide) (by decide) rfl (fun H locs hP hD hS => ?_)
              refine lv_goto (tgt := 134) hx hb dX9_readText_99 (by decide) ?_
              refine lv_goto (tgt := 16) hx hb dX9_readText_134 (by decide) ?_
              obtain rfl := Option.some.inj hb58
              exact ih58 x55 x56 x75 g58 _ _ ls hy58 hP hD hS (lv_sub hl [1] rfl)
            · have hb58 := zz_ifn c74 hb58
              refine lv_aload_n hx hb dX9_readText_86 rfl (lv_at hl 1 rfl) ?_
              refine va_get (ci := 8) (v := .int x55) (C := RX9) (T := TX9) (N := 28) hx hb hts in_X9_readText_X9 hown hK hP 0 rfl rfl 1 (by decide) (hts _ lk_X9_readText_2) (fun _ h9 => h9) rfl dX9_readText_87 ?_
              refine lv_bipush (v := 10) hx hb dX9_readText_90 (by decide) ?_
              refine lv_icmp_ne (tgt := 102) hx hb dX9_readText_92 (by decide) (fun c77 => ?_) (fun c77 => ?_)
              · have hb58 := zz_ifn c77 hb58
                refine lv_aload_n hx hb dX9_readText_102 rfl (lv_at hl 1 rfl) ?_
                refine lv_dup hx hb dX9_readText_103 rfl ?_
                refine va_get (ci := 8) (v := .int x56) (C := RX9) (T := TX9) (N := 28) hx hb hts in_X9_readText_X9 hown hK hP 0 rfl rfl 6 (by decide) (hts _ lk_X9_readText_0) (fun _ h9 => h9) rfl dX9_readText_104 ?_
                refine lv_iconst (v := 1) hx hb dX9_readText_107 (by decide) ?_
                refine lv_iadd hx hb dX9_readText_108 ?_
                refine lv_topi (fun x78 ex78 => ?_)
                have hb58 := zz_nmE ex78 hb58
                refine va_put (ci := 8) (v := .int x78) (ty := .int) (C := RX9) (T := TX9) (N := 28) hx hb hts in_X9_readText_X9 tyX9 tyX9_ok nmX9 hown hK hP hD hS 0 rfl rfl 6 (by decide) (hts _ lk_X9_readText_0) (fun _ h9 => h9) rfl (by decide +kernel) rfl rfl (Nat.le_of_ble_eq_true rfl) dX9_readText_109 (fun H locs hP hD hS => ?_)
                have hP : va_P (dC, dI) vwCl [(a_t, .inr (8, [.ref a_t_read, .int x55, .ref a_t_papers, .ref a_t_paperMany, .ref a_t_text, .int t_length, .int x78, .int x57, .int t_year, .int t_wordsNow, .ref a_t_whose, .int t_mendChanges, .ref a_t_plan, .int t_most, .int t_above, .int t_handing, .int t_wants, .ref a_t_wantNight, .ref a_t_wantHouse, .ref a_t_wantWeight, .ref a_t_ahead, .ref a_t_best, .ref a_t_fines, .ref a_t_times, .ref a_t_isKept, .ref a_t_keptPlan, .ref a_t_keptFines, .ref a_t_keptTimes])), (a_t_read, .inl (cI, 60, .inl g58)), (a_t_text, .inl (cI, 64, .inl t_text))] H := hP
                have hD : va_D A [(a_t, .inr (8, [.ref a_t_read, .int x55, .ref a_t_papers, .ref a_t_paperMany, .ref a_t_text, .int t_length, .int x78, .int x57, .int t_year, .int t_wordsNow, .ref a_t_whose, .int t_mendChanges, .ref a_t_plan, .int t_most, .int t_above, .int t_handing, .int t_wants, .ref a_t_wantNight, .ref a_t_wantHouse, .ref a_t_wantWeight, .ref a_t_ahead, .ref a_t_best, .ref a_t_fines, .ref a_t_times, .ref a_t_isKept, .ref a_t_keptPlan, .ref a_t_keptFines, .ref a_t_keptTimes])), (a_t_read, .inl (cI, 60, .inl g58)), (a_t_text, .inl (cI, 64, .inl t_text))] := hD
                refine lv_aload_n hx hb dX9_readText_112 rfl (lv_at hl 1 rfl) ?_
                refine lv_iload_n hx hb dX9_readText_113 rfl (lv_at hl 2 rfl) ?_
                refine lv_bipush (v := 6) hx hb dX9_readText_114 (by decide) ?_
                refine lv_aload_n hx hb dX9_readText_116 rfl (lv_at hl 1 rfl) ?_
                refine va_get (ci := 8) (v := .int x55) (C := RX9) (T := TX9) (N := 28) hx hb hts in_X9_readText_X9 hown hK hP 0 rfl rfl 1 (by decide) (hts _ lk_X9_readText_2) (fun _ h9 => h9) rfl dX9_readText_117 ?_
                refine lv_imul hx hb dX9_readText_120 ?_
                obtain ⟨x79, x80, g81, he82, hb58⟩ := zz_b3E hb58
                refine zz_VV (q := (RX9, TX9, 28)) (As := [.int x66, .int (6 * x55)]) (rest := []) (wr := []) (wm := [(a_t, .inr (8, [.ref a_t_read, .int x55, .ref a_t_papers, .ref a_t_paperMany, .ref a_t_text, .int t_length, .int x79, .int x80, .int t_year, .int t_wordsNow, .ref a_t_whose, .int t_mendChanges, .ref a_t_plan, .int t_most, .int t_above, .int t_handing, .int t_wants, .ref a_t_wantNight, .ref a_t_wantHouse, .ref a_t_wantWeight, .ref a_t_ahead, .ref a_t_best, .ref a_t_fines, .ref a_t_times, .ref a_t_isKept, .ref a_t_keptPlan, .ref a_t_keptFines, .ref a_t_keptTimes])), (a_t_read, .inl (cI, 60, .inl g81)), (a_t_text, .inl (cI, 64, .inl t_text))]) ⟨hx, hb, hml, hown, hts⟩ (ct_X9_readRule l dC dI cI cJ cB cZ a_t a_t_read a_t_text a_t_papers a_t_paperMany a_t_whose a_t_plan a_t_wantNight a_t_wantHouse a_t_wantWeight a_t_ahead a_t_best a_t_fines a_t_times a_t_isKept a_t_keptPlan a_t_keptFines a_t_keptTimes x55 t_length x78 x57 t_year t_wordsNow t_mendChanges t_most t_above t_handing t_wants g58 t_text x66 (6 * x55) x79 x80 g81 he82) gX9_readText_X9_readRule hd_X9_readRule rfl rfl rfl ⟨Nat.le_of_ble_eq_true rfl, Nat.le_of_ble_eq_true rfl⟩ ⟨Nat.le_of_ble_eq_true rfl, Nat.le_of_ble_eq_true rfl⟩ rfl rfl (Nat.le_of_ble_eq_true rfl) dX9_readText_121 hl.1 rfl (ci := 8) rfl (q0 := 0) rfl hP hK hD hS hA [0, 1, 2] [] [0, 1, 2] rfl rfl (by decide) (by decide) (by decide) (by decide) rfl (fun H locs hP hD hS => ?_)
                refine lv_aload_n hx hb dX9_readText_124 rfl (lv_at hl 1 rfl) ?_
                refine lv_dup hx hb dX9_readText_125 rfl ?_
                refine va_get (ci := 8) (v := .int x55) (C := RX9) (T := TX9) (N := 28) hx hb hts in_X9_readText_X9 hown hK hP 0 rfl rfl 1 (by decide) (hts _ lk_X9_readText_2) (fun _ h9 => h9) rfl dX9_readText_126 ?_
                refine lv_iconst (v := 1) hx hb dX9_readText_129 (by decide) ?_
                refine lv_iadd hx hb dX9_readText_130 ?_
                refine lv_topi (fun x83 ex83 => ?_)
                have hb58 := zz_nmE ex83 hb58
                refine va_put (ci := 8) (v := .int x83) (ty := .int) (C := RX9) (T := TX9) (N := 28) hx hb hts in_X9_readText_X9 tyX9 tyX9_ok nmX9 hown hK hP hD hS 0 rfl rfl 1 (by decide) (hts _ lk_X9_readText_2) (fun _ h9 => h9) rfl (by decide +kernel) rfl rfl (Nat.le_of_ble_eq_true rfl) dX9_readText_131 (fun H locs hP hD hS => ?_)
                have hP : va_P (dC, dI) vwCl [(a_t, .inr (8, [.ref a_t_read, .int x83, .ref a_t_papers, .ref a_t_paperMany, .ref a_t_text, .int t_length, .int x79, .int x80, .int t_year, .int t_wordsNow, .ref a_t_whose, .int t_mendChanges, .ref a_t_plan, .int t_most, .int t_above, .int t_handing, .int t_wants, .ref a_t_wantNight, .ref a_t_wantHouse, .ref a_t_wantWeight, .ref a_t_ahead, .ref a_t_best, .ref a_t_fines, .ref a_t_times, .ref a_t_isKept, .ref a_t_keptPlan, .ref a_t_keptFines, .ref a_t_keptTimes])), (a_t_read, .inl (cI, 60, .inl g81)), (a_t_text, .inl (cI, 64, .inl t_text))] H := hP
                have hD : va_D A [(a_t, .inr (8, [.ref a_t_read, .int x83, .ref a_t_papers, .ref a_t_paperMany, .ref a_t_text, .int t_length, .int x79, .int x80, .int t_year, .int t_wordsNow, .ref a_t_whose, .int t_mendChanges, .ref a_t_plan, .int t_most, .int t_above, .int t_handing, .int t_wants, .ref a_t_wantNight, .ref a_t_wantHouse, .ref a_t_wantWeight, .ref a_t_ahead, .ref a_t_best, .ref a_t_fines, .ref a_t_times, .ref a_t_isKept, .ref a_t_keptPlan, .ref a_t_keptFines, .ref a_t_keptTimes])), (a_t_read, .inl (cI, 60, .inl g81)), (a_t_text, .inl (cI, 64, .inl t_text))] := hD
                refine lv_goto (tgt := 16) hx hb dX9_readText_134 (by decide) ?_
                obtain rfl := Option.some.inj hb58
                exact ih58 x83 x79 x80 g81 _ _ ls hy58 hP hD hS (lv_sub hl [1] rfl)
              · have hb58 := zz_if c77 hb58
                refine lv_aload_n hx hb dX9_readText_95 rfl (lv_at hl 1 rfl) ?_
                obtain ⟨x84, he85, hb58⟩ := zz_b1E hb58
                refine zz_VV (q := (RX9, TX9, 28)) (As := []) (rest := []) (wr := [(a_t_read, .inl (cI, 60, .inl g58)), (a_t_text, .inl (cI, 64, .inl t_text))]) (wm := [(a_t, .inr (8, [.ref a_t_read, .int x55, .ref a_t_papers, .ref a_t_paperMany, .ref a_t_text, .int t_length, .int x56, .int x84, .int t_year, .int t_wordsNow, .ref a_t_whose, .int t_mendChanges, .ref a_t_plan, .int t_most, .int t_above, .int t_handing, .int t_wants, .ref a_t_wantNight, .ref a_t_wantHouse, .ref a_t_wantWeight, .ref a_t_ahead, .ref a_t_best, .ref a_t_fines, .ref a_t_times, .ref a_t_isKept, .ref a_t_keptPlan, .ref a_t_keptFines, .ref a_t_keptTimes])), (a_t_read, .inl (cI, 60, .inl g58)), (a_t_text, .inl (cI, 64, .inl t_text))]) ⟨hx, hb, hml, hown, hts⟩ (ct_X9_fail l dC dI cI cJ cB cZ a_t a_t_read a_t_papers a_t_paperMany a_t_text a_t_whose a_t_plan a_t_wantNight a_t_wantHouse a_t_wantWeight a_t_ahead a_t_best a_t_fines a_t_times a_t_isKept a_t_keptPlan a_t_keptFines a_t_keptTimes x55 t_length x56 x57 t_year t_wordsNow t_mendChanges t_most t_above t_handing t_wants x84 he85) gX9_readText_X9_fail hd_X9_fail rfl rfl rfl ⟨Nat.le_of_ble_eq_true rfl, Nat.le_of_ble_eq_true rfl⟩ ⟨Nat.le_of_ble_eq_true rfl, Nat.le_of_ble_eq_true rfl⟩ rfl rfl (Nat.le_of_ble_eq_true rfl) dX9_readText_96 hl.1 rfl (ci := 8) rfl (q0 := 0) rfl hP hK hD hS hA [0] [1, 2] [2, 0, 1] rfl rfl (by decide) (by decide) (by decide) (by decide) rfl (fun H locs hP hD hS => ?_)
                refine lv_goto (tgt := 134) hx hb dX9_readText_99 (by decide) ?_
                refine lv_goto (tgt := 16) hx hb dX9_readText_134 (by decide) ?_
                obtain rfl := Option.some.inj hb58
                exact ih58 x55 x56 x84 g58 _ _ ls hy58 hP hD hS (lv_sub hl [1] rfl)
          refine lv_icmp_eq (tgt := 76) hx hb dX9_readText_49 (by decide) (fun c67 => ?_) (fun c67 => ?_)
          · have hj73 := zz_if c67 hj73
            refine lv_iconst (v := 1) hx hb dX9_readText_76 (by decide) ?_
            refine lv_goto (tgt := 81) hx hb dX9_readText_77 (by decide) ?_
            cases hj73
            exact hJ73 _ _ ls hP hD hS (lv_sub hl [1, 0] rfl)
          · have hj73 := zz_ifn c67 hj73
            refine lv_iload_n hx hb dX9_readText_52 rfl (lv_at hl 0 rfl) ?_
            refine lv_bipush (v := 70) hx hb dX9_readText_53 (by decide) ?_
            refine lv_icmp_eq (tgt := 76) hx hb dX9_readText_55 (by decide) (fun c86 => ?_) (fun c86 => ?_)
            · have hj73 := zz_if c86 hj73
              refine lv_iconst (v := 1) hx hb dX9_readText_76 (by decide) ?_
              refine lv_goto (tgt := 81) hx hb dX9_readText_77 (by decide) ?_
              cases hj73
              exact hJ73 _ _ ls hP hD hS (lv_sub hl [1, 0] rfl)
            · have hj73 := zz_ifn c86 hj73
              refine lv_iload_n hx hb dX9_readText_58 rfl (lv_at hl 0 rfl) ?_
              refine lv_bipush (v := 72) hx hb dX9_readText_59 (by decide) ?_
              refine lv_icmp_eq (tgt := 76) hx hb dX9_readText_61 (by decide) (fun c87 => ?_) (fun c87 => ?_)
              · have hj73 := zz_if c87 hj73
                refine lv_iconst (v := 1) hx hb dX9_readText_76 (by decide) ?_
                refine lv_goto (tgt := 81) hx hb dX9_readText_77 (by decide) ?_
                cases hj73
                exact hJ73 _ _ ls hP hD hS (lv_sub hl [1, 0] rfl)
              · have hj73 := zz_ifn c87 hj73
                refine lv_iload_n hx hb dX9_readText_64 rfl (lv_at hl 0 rfl) ?_
                refine lv_bipush (v := 89) hx hb dX9_readText_65 (by decide) ?_
                refine lv_icmp_eq (tgt := 76) hx hb dX9_readText_67 (by decide) (fun c88 => ?_) (fun c88 => ?_)
                · have hj73 := zz_if c88 hj73
                  refine lv_iconst (v := 1) hx hb dX9_readText_76 (by decide) ?_
                  refine lv_goto (tgt := 81) hx hb dX9_readText_77 (by decide) ?_
                  cases hj73
                  exact hJ73 _ _ ls hP hD hS (lv_sub hl [1, 0] rfl)
                · have hj73 := zz_ifn c88 hj73
                  refine lv_iload_n hx hb dX9_readText_70 rfl (lv_at hl 0 rfl) ?_
                  refine lv_bipush (v := 69) hx hb dX9_readText_71 (by decide) ?_
                  refine lv_icmp_ne (tgt := 80) hx hb dX9_readText_73 (by decide) (fun c89 => ?_) (fun c89 => ?_)
                  · have hj73 := zz_ifn c89 hj73
                    refine lv_iconst (v := 0) hx hb dX9_readText_80 (by decide) ?_
                    cases hj73
                    exact hJ73 _ _ ls hP hD hS (lv_sub hl [1, 0] rfl)
                  · have hj73 := zz_if c89 hj73
                    refine lv_iconst (v := 1) hx hb dX9_readText_76 (by decide) ?_
                    refine lv_goto (tgt := 81) hx hb dX9_readText_77 (by decide) ?_
                    cases hj73
                    exact hJ73 _ _ ls hP hD hS (lv_sub hl [1, 0] rfl)
  exact hL58 zz_fuel 0 0 (-9) t_read _ _ ls hit58 hP hD hS (lv_sub hl [0] rfl)
theorem hd_X9_fault : yX9_fault.cls ≠ "java/lang/invoke/MethodHandle" ∧ yX9_fault.cls ≠ "java/lang/invoke/VarHandle" ∧ (parseMethodDescriptor yX9_fault.desc).map (fun d => d.parameters.length) = some 0 := by decide +kernel
set_option maxHeartbeats 4000000 in
set_option maxRecDepth 100000 in
theorem ct_X9_fault (l : Launch) (dC : Nat → ClassId) (dI : Nat → Nat → Nat) (cI cJ cB cZ : ClassId) (a_t a_t_read a_t_text a_t_papers a_t_paperMany a_t_whose a_t_plan a_t_wantNight a_t_wantHouse a_t_wantWeight a_t_ahead a_t_best a_t_fines a_t_times a_t_isKept a_t_keptPlan a_t_keptFines a_t_keptTimes : Nat) (t_readMany : Int32) (t_length : Int32) (t_at : Int32) (t_faultAt : Int32) (t_year : Int32) (t_wordsNow : Int32) (t_mendChanges : Int32) (t_most : Int32) (t_above : Int32) (t_handing : Int32) (t_wants : Int32) (t_read : (Nat → Int32)) (t_text : (Nat → Int32)) (rr : Int32) (o1 : Int32) (o2 : Int32) (o3 : Int32) (o4 : (Nat → Int32)) (h : fn_X9_fault t_length t_read t_text = some (rr, o1, o2, o3, o4)) : zz_M l yX9_fault wsX9_fault ({ frames := 5, cells := 0, slots := 0, locals := 115 }) (dC, dI) (zz_T cI cJ cB cZ) [.ref a_t] [(a_t, .inr (8, [.ref a_t_read, .int t_readMany, .ref a_t_papers, .ref a_t_paperMany, .ref a_t_text, .int t_length, .int t_at, .int t_faultAt, .int t_year, .int t_wordsNow, .ref a_t_whose, .int t_mendChanges, .ref a_t_plan, .int t_most, .int t_above, .int t_handing, .int t_wants, .ref a_t_wantNight, .ref a_t_wantHouse, .ref a_t_wantWeight, .ref a_t_ahead, .ref a_t_best, .ref a_t_fines, .ref a_t_times, .ref a_t_isKept, .ref a_t_keptPlan, .ref a_t_keptFines, .ref a_t_keptTimes])), (a_t_read, .inl (cI, 60, .inl t_read)), (a_t_text, .inl (cI, 64, .inl t_text))] (zz_QI (dC, dI) (zz_T cI cJ cB cZ) (rr, o1, o2, o3, o4) (fun (u : Int32 × Int32 × Int32 × (Nat → Int32)) => [(a_t, .inr (8, [.ref a_t_read, .int u.1, .ref a_t_papers, .ref a_t_paperMany, .ref a_t_text, .int t_length, .int u.2.1, .int u.2.2.1, .int t_year, .int t_wordsNow, .ref a_t_whose, .int t_mendChanges, .ref a_t_plan, .int t_most, .int t_above, .int t_handing, .int t_wants, .ref a_t_wantNight, .ref a_t_wantHouse, .ref a_t_wantWeight, .ref a_t_ahead, .ref a_t_best, .ref a_t_fines, .ref a_t_times, .ref a_t_isKept, .ref a_t_keptPlan, .ref a_t_keptFines, .ref a_t_keptTimes])), (a_t_read, .inl (cI, 60, .inl u.2.2.2)), (a_t_text, .inl (cI, 64, .inl t_text))])) := by
  unfold fn_X9_fault at h
  refine zz_of (by decide) rfl (Nat.le_of_ble_eq_true rfl) ?_
  intro p e s m below meth c A ls hx hb hr hml hts hown hlocks hA hS hP hK hD hl
  have hown : s.vm.findClass RX9 = some m.cls := hown
  have hl : lv_has ls 1 [(0, .ref a_t)] := hl
  refine lv_aload_n hx hb dX9_fault_0 rfl (lv_at hl 0 rfl) ?_
  obtain ⟨x1, x2, x3, x4, g5, he6, h⟩ := zz_b5E h
  refine zz_VI (q := (RX9, TX9, 28)) (As := []) (rest := []) (wr := []) (wm := [(a_t, .inr (8, [.ref a_t_read, .int x2, .ref a_t_papers, .ref a_t_paperMany, .ref a_t_text, .int t_length, .int x3, .int x4, .int t_year, .int t_wordsNow, .ref a_t_whose, .int t_mendChanges, .ref a_t_plan, .int t_most, .int t_above, .int t_handing, .int t_wants, .ref a_t_wantNight, .ref a_t_wantHouse, .ref a_t_wantWeight, .ref a_t_ahead, .ref a_t_best, .ref a_t_fines, .ref a_t_times, .ref a_t_isKept, .ref a_t_keptPlan, .ref a_t_keptFines, .ref a_t_keptTimes])), (a_t_read, .inl (cI, 60, .inl g5)), (a_t_text, .inl (cI, 64, .inl t_text))]) ⟨hx, hb, hml, hown, hts⟩ (ct_X9_readText l dC dI cI cJ cB cZ a_t a_t_read a_t_text a_t_papers a_t_paperMany a_t_whose a_t_plan a_t_wantNight a_t_wantHouse a_t_wantWeight a_t_ahead a_t_best a_t_fines a_t_times a_t_isKept a_t_keptPlan a_t_keptFines a_t_keptTimes t_readMany t_length t_at t_faultAt t_year t_wordsNow t_mendChanges t_most t_above t_handing t_wants t_read t_text x1 x2 x3 x4 g5 he6) gX9_fault_X9_readText hd_X9_readText rfl rfl rfl ⟨Nat.le_of_ble_eq_true rfl, Nat.le_of_ble_eq_true rfl⟩ ⟨Nat.le_of_ble_eq_true rfl, Nat.le_of_ble_eq_true rfl⟩ rfl rfl (Nat.le_of_ble_eq_true rfl) dX9_fault_1 hl.1 rfl (ci := 8) rfl (q0 := 0) rfl hP hK hD hS hA [0, 1, 2] [] [0, 1, 2] rfl rfl (by decide) (by decide) (by decide) (by decide) rfl (fun H locs hP hD hS => ?_)
  exact zz_iret (x2, x3, x4, g5) hx hb hr hlocks dX9_fault_4 (Option.some.inj h) hP hK hD hS
theorem hd_X9_paper : yX9_paper.cls ≠ "java/lang/invoke/MethodHandle" ∧ yX9_paper.cls ≠ "java/lang/invoke/VarHandle" ∧ (parseMethodDescriptor yX9_paper.desc).map (fun d => d.parameters.length) = some 0 := by decide +kernel
set_option maxRecDepth 20000 in
theorem in_X9_paper_X9 : ∀ w ∈ u_ws RX9 TX9 28, w ∈ wsX9_paper := by decide +kernel
set_option maxRecDepth 20000 in
theorem lk_X9_paper_0 : Cond.fieldLink RX9 13 "TwoHousesOneChildModel" "papers" "[I" ∈ wsX9_paper := by decide +kernel
set_option maxRecDepth 20000 in
theorem lk_X9_paper_1 : Cond.fieldLink RX9 7 "TwoHousesOneChildModel" "read" "[I" ∈ wsX9_paper := by decide +kernel
set_option maxRecDepth 20000 in
theorem lk_X9_paper_2 : Cond.fieldLink RX9 16 "TwoHousesOneChildModel" "paperMany" "[I" ∈ wsX9_paper := by decide +kernel
set_option maxRecDepth 20000 in
theorem lk_X9_paper_3 : Cond.fieldLink RX9 99 "TwoHousesOneChildModel" "readMany" "I" ∈ wsX9_paper := by decide +kernel
set_option maxHeartbeats 4000000 in
set_option maxRecDepth 100000 in
theorem ct_X9_paper (l : Launch) (dC : Nat → ClassId) (dI : Nat → Nat → Nat) (cI cJ cB cZ : ClassId) (a_t a_t_paperMany a_t_papers a_t_read a_t_text a_t_whose a_t_plan a_t_wantNight a_t_wantHouse a_t_wantWeight a_t_ahead a_t_best a_t_fines a_t_times a_t_isKept a_t_keptPlan a_t_keptFines a_t_keptTimes : Nat) (t_readMany : Int32) (t_length : Int32) (t_at : Int32) (t_faultAt : Int32) (t_year : Int32) (t_wordsNow : Int32) (t_mendChanges : Int32) (t_most : Int32) (t_above : Int32) (t_handing : Int32) (t_wants : Int32) (t_paperMany : (Nat → Int32)) (t_papers : (Nat → Int32)) (t_read : (Nat → Int32)) (t_text : (Nat → Int32)) (rr : Int32) (o1 : Int32) (o2 : Int32) (o3 : Int32) (o4 : (Nat → Int32)) (o5 : (Nat → Int32)) (o6 : (Nat → Int32)) (h : fn_X9_paper t_length t_paperMany t_papers t_read t_text = some (rr, o1, o2, o3, o4, o5, o6)) : zz_M l yX9_paper wsX9_paper ({ frames := 5, cells := 0, slots := 0, locals := 115 }) (dC, dI) (zz_T cI cJ cB cZ) [.ref a_t] [(a_t, .inr (8, [.ref a_t_read, .int t_readMany, .ref a_t_papers, .ref a_t_paperMany, .ref a_t_text, .int t_length, .int t_at, .int t_faultAt, .int t_year, .int t_wordsNow, .ref a_t_whose, .int t_mendChanges, .ref a_t_plan, .int t_most, .int t_above, .int t_handing, .int t_wants, .ref a_t_wantNight, .ref a_t_wantHouse, .ref a_t_wantWeight, .ref a_t_ahead, .ref a_t_best, .ref a_t_fines, .ref a_t_times, .ref a_t_isKept, .ref a_t_keptPlan, .ref a_t_keptFines, .ref a_t_keptTimes])), (a_t_paperMany, .inl (cI, 3, .inl t_paperMany)), (a_t_papers, .inl (cI, 180, .inl t_papers)), (a_t_read, .inl (cI, 60, .inl t_read)), (a_t_text, .inl (cI, 64, .inl t_text))] (zz_QI (dC, dI) (zz_T cI cJ cB cZ) (rr, o1, o2, o3, o4, o5, o6) (fun (u : Int32 × Int32 × Int32 × (Nat → Int32) × (Nat → Int32) × (Nat → Int32)) => [(a_t, .inr (8, [.ref a_t_read, .int u.1, .ref a_t_papers, .ref a_t_paperMany, .ref a_t_text, .int t_length, .int u.2.1, .int u.2.2.1, .int t_year, .int t_wordsNow, .ref a_t_whose, .int t_mendChanges, .ref a_t_plan, .int t_most, .int t_above, .int t_handing, .int t_wants, .ref a_t_wantNight, .ref a_t_wantHouse, .ref a_t_wantWeight, .ref a_t_ahead, .ref a_t_best, .ref a_t_fines, .ref a_t_times, .ref a_t_isKept, .ref a_t_keptPlan, .ref a_t_keptFines, .ref a_t_keptTimes])), (a_t_paperMany, .inl (cI, 3, .inl u.2.2.2.1)), (a_t_papers, .inl (cI, 180, .inl u.2.2.2.2.1)), (a_t_read, .inl (cI, 60, .inl u.2.2.2.2.2)), (a_t_text, .inl (cI, 64, .inl t_text))])) := by
  unfold fn_X9_paper at h
  refine zz_of (by decide) rfl (Nat.le_of_ble_eq_true rfl) ?_
  intro p e s m below meth c A ls hx hb hr hml hts hown hlocks hA hS hP hK hD hl
  have hown : s.vm.findClass RX9 = some m.cls := hown
  have hl : lv_has ls 2 [(0, .ref a_t)] := hl
  refine lv_aload_n hx hb dX9_paper_0 rfl (lv_at hl 0 rfl) ?_
  obtain ⟨x1, x2, x3, x4, g5, he6, h⟩ := zz_b5E h
  refine zz_VI (q := (RX9, TX9, 28)) (As := []) (rest := []) (wr := [(a_t_paperMany, .inl (cI, 3, .inl t_paperMany)), (a_t_papers, .inl (cI, 180, .inl t_papers))]) (wm := [(a_t, .inr (8, [.ref a_t_read, .int x2, .ref a_t_papers, .ref a_t_paperMany, .ref a_t_text, .int t_length, .int x3, .int x4, .int t_year, .int t_wordsNow, .ref a_t_whose, .int t_mendChanges, .ref a_t_plan, .int t_most, .int t_above, .int t_handing, .int t_wants, .ref a_t_wantNight, .ref a_t_wantHouse, .ref a_t_wantWeight, .ref a_t_ahead, .ref a_t_best, .ref a_t_fines, .ref a_t_times, .ref a_t_isKept, .ref a_t_keptPlan, .ref a_t_keptFines, .ref a_t_keptTimes])), (a_t_paperMany, .inl (cI, 3, .inl t_paperMany)), (a_t_papers, .inl (cI, 180, .inl t_papers)), (a_t_read, .inl (cI, 60, .inl g5)), (a_t_text, .inl (cI, 64, .inl t_text))]) ⟨hx, hb, hml, hown, hts⟩ (ct_X9_readText l dC dI cI cJ cB cZ a_t a_t_read a_t_text a_t_papers a_t_paperMany a_t_whose a_t_plan a_t_wantNight a_t_wantHouse a_t_wantWeight a_t_ahead a_t_best a_t_fines a_t_times a_t_isKept a_t_keptPlan a_t_keptFines a_t_keptTimes t_readMany t_length t_at t_faultAt t_year t_wordsNow t_mendChanges t_most t_above t_handing t_wants t_read t_text x1 x2 x3 x4 g5 he6) gX9_paper_X9_readText hd_X9_readText rfl rfl rfl ⟨Nat.le_of_ble_eq_true rfl, Nat.le_of_ble_eq_true rfl⟩ ⟨Nat.le_of_ble_eq_true rfl, Nat.le_of_ble_eq_true rfl⟩ rfl rfl (Nat.le_of_ble_eq_true rfl) dX9_paper_1 hl.1 rfl (ci := 8) rfl (q0 := 0) rfl hP hK hD hS hA [0, 3, 4] [1, 2] [2, 0, 1, 3, 4] rfl rfl (by decide) (by decide) (by decide) (by decide) rfl (fun H locs hP hD hS => ?_)
  refine lv_bipush (v := (-9)) hx hb dX9_paper_4 (by decide) ?_
  refine lv_icmp_eq (tgt := 12) hx hb dX9_paper_6 (by decide) (fun c7 => ?_) (fun c7 => ?_)
  · have h := zz_if c7 h
    refine lv_iconst (v := 0) hx hb dX9_paper_12 (by decide) ?_
    refine lv_istore_n (lv' := [(1, .int 0), (0, .ref a_t)]) hx hb dX9_paper_13 rfl hl (by decide) rfl (fun ls hl => ?_)
    obtain ⟨g20, hit19, h⟩ := zz_b1E h
    refine zz_cut (fun V => ∀ (H : Heap) (locs : List Loc) (ls : Array Slot), va_P (dC, dI) vwCl [(a_t, .inr (8, [.ref a_t_read, .int x2, .ref a_t_papers, .ref a_t_paperMany, .ref a_t_text, .int t_length, .int x3, .int x4, .int t_year, .int t_wordsNow, .ref a_t_whose, .int t_mendChanges, .ref a_t_plan, .int t_most, .int t_above, .int t_handing, .int t_wants, .ref a_t_wantNight, .ref a_t_wantHouse, .ref a_t_wantWeight, .ref a_t_ahead, .ref a_t_best, .ref a_t_fines, .ref a_t_times, .ref a_t_isKept, .ref a_t_keptPlan, .ref a_t_keptFines, .ref a_t_keptTimes])), (a_t_paperMany, .inl (cI, 3, .inl t_paperMany)), (a_t_papers, .inl (cI, 180, .inl g20)), (a_t_read, .inl (cI, 60, .inl g5)), (a_t_text, .inl (cI, 64, .inl t_text))] H → va_D A [(a_t, .inr (8, [.ref a_t_read, .int x2, .ref a_t_papers, .ref a_t_paperMany, .ref a_t_text, .int t_length, .int x3, .int x4, .int t_year, .int t_wordsNow, .ref a_t_whose, .int t_mendChanges, .ref a_t_plan, .int t_most, .int t_above, .int t_handing, .int t_wants, .ref a_t_wantNight, .ref a_t_wantHouse, .ref a_t_wantWeight, .ref a_t_ahead, .ref a_t_best, .ref a_t_fines, .ref a_t_times, .ref a_t_isKept, .ref a_t_keptPlan, .ref a_t_keptFines, .ref a_t_keptTimes])), (a_t_paperMany, .inl (cI, 3, .inl t_paperMany)), (a_t_papers, .inl (cI, 180, .inl g20)), (a_t_read, .inl (cI, 60, .inl g5)), (a_t_text, .inl (cI, 64, .inl t_text))] → va_S A s.heap H locs → lv_has ls 2 [(0, .ref a_t)] → V H locs (F0 m 38 ls [])) ?_ (fun hE19 => ?_)
    · intro H locs ls hP hD hS hl
      refine lv_aload_n hx hb dX9_paper_38 rfl (lv_at hl 0 rfl) ?_
      refine va_get (ci := 8) (v := .ref a_t_paperMany) (C := RX9) (T := TX9) (N := 28) hx hb hts in_X9_paper_X9 hown hK hP 0 rfl rfl 3 (by decide) (hts _ lk_X9_paper_2) (fun _ h9 => h9) rfl dX9_paper_39 ?_
      refine lv_iconst (v := 0) hx hb dX9_paper_42 (by decide) ?_
      refine lv_aload_n hx hb dX9_paper_43 rfl (lv_at hl 0 rfl) ?_
      refine va_get (ci := 8) (v := .int x2) (C := RX9) (T := TX9) (N := 28) hx hb hts in_X9_paper_X9 hown hK hP 0 rfl rfl 1 (by decide) (hts _ lk_X9_paper_3) (fun _ h9 => h9) rfl dX9_paper_44 ?_
      obtain ⟨hi21, h⟩ := zz_chkE h
      refine zz_iast hx hb hK hP hD hS 1 0 rfl rfl hi21 dX9_paper_47 (fun g22 => [(a_t, .inr (8, [.ref a_t_read, .int x2, .ref a_t_papers, .ref a_t_paperMany, .ref a_t_text, .int t_length, .int x3, .int x4, .int t_year, .int t_wordsNow, .ref a_t_whose, .int t_mendChanges, .ref a_t_plan, .int t_most, .int t_above, .int t_handing, .int t_wants, .ref a_t_wantNight, .ref a_t_wantHouse, .ref a_t_wantWeight, .ref a_t_ahead, .ref a_t_best, .ref a_t_fines, .ref a_t_times, .ref a_t_isKept, .ref a_t_keptPlan, .ref a_t_keptFines, .ref a_t_keptTimes])), (a_t_paperMany, .inl (cI, 3, .inl g22)), (a_t_papers, .inl (cI, 180, .inl g20)), (a_t_read, .inl (cI, 60, .inl g5)), (a_t_text, .inl (cI, 64, .inl t_text))]) (fun _ => rfl) (fun g22 H locs eg22 hP hD hS => ?_)
      have h := zz_nmE eg22 h
      refine lv_aload_n hx hb dX9_paper_48 rfl (lv_at hl 0 rfl) ?_
      refine va_get (ci := 8) (v := .int x2) (C := RX9) (T := TX9) (N := 28) hx hb hts in_X9_paper_X9 hown hK hP 0 rfl rfl 1 (by decide) (hts _ lk_X9_paper_3) (fun _ h9 => h9) rfl dX9_paper_49 ?_
      exact zz_iret (x2, x3, x4, g22, g20, g5) hx hb hr hlocks dX9_paper_52 (Option.some.inj h) hP hK hD hS
    refine zz_cut (fun V => ∀ (n : Nat) (x18 : Int32) (g19 : (Nat → Int32)) (H : Heap) (locs : List Loc) (ls : Array Slot), zz_it (fun z => fb_X9_paper_14 g5 z.1 z.2) n (x18, g19) = some g20 → va_P (dC, dI) vwCl [(a_t, .inr (8, [.ref a_t_read, .int x2, .ref a_t_papers, .ref a_t_paperMany, .ref a_t_text, .int t_length, .int x3, .int x4, .int t_year, .int t_wordsNow, .ref a_t_whose, .int t_mendChanges, .ref a_t_plan, .int t_most, .int t_above, .int t_handing, .int t_wants, .ref a_t_wantNight, .ref a_t_wantHouse, .ref a_t_wantWeight, .ref a_t_ahead, .ref a_t_best, .ref a_t_fines, .ref a_t_times, .ref a_t_isKept, .ref a_t_keptPlan, .ref a_t_keptFines, .ref a_t_keptTimes])), (a_t_paperMany, .inl (cI, 3, .inl t_paperMany)), (a_t_papers, .inl (cI, 180, .inl g19)), (a_t_read, .inl (cI, 60, .inl g5)), (a_t_text, .inl (cI, 64, .inl t_text))] H → va_D A [(a_t, .inr (8, [.ref a_t_read, .int x2, .ref a_t_papers, .ref a_t_paperMany, .ref a_t_text, .int t_length, .int x3, .int x4, .int t_year, .int t_wordsNow, .ref a_t_whose, .int t_mendChanges, .ref a_t_plan, .int t_most, .int t_above, .int t_handing, .int t_wants, .ref a_t_wantNight, .ref a_t_wantHouse, .ref a_t_wantWeight, .ref a_t_ahead, .ref a_t_best, .ref a_t_fines, .ref a_t_times, .ref a_t_isKept, .ref a_t_keptPlan, .ref a_t_keptFines, .ref a_t_keptTimes])), (a_t_paperMany, .inl (cI, 3, .inl t_paperMany)), (a_t_papers, .inl (cI, 180, .inl g19)), (a_t_read, .inl (cI, 60, .inl g5)), (a_t_text, .inl (cI, 64, .inl t_text))] → va_S A s.heap H locs → lv_has ls 2 [(0, .ref a_t), (1, .int x18)] → V H locs (F0 m 14 ls [])) ?_ (fun hL19 => ?_)
    · intro n
      induction n with
      | zero => intro x18 g19 H locs ls hit19; exact (zz_it0 hit19).elim
      | succ n ih19 =>
        intro x18 g19 H locs ls hit19 hP hD hS hl
        obtain ⟨y19, hb19, hy19⟩ := zz_itE hit19
        have hb19 : fb_X9_paper_14 g5 x18 g19 = some y19 := hb19
        unfold fb_X9_paper_14 at hb19
        refine lv_iload_n hx hb dX9_paper_14 rfl (lv_at hl 1 rfl) ?_
        refine lv_bipush (v := 60) hx hb dX9_paper_15 (by decide) ?_
        refine lv_icmp_ge (tgt := 38) hx hb dX9_paper_17 (by decide) (fun c23 => ?_) (fun c23 => ?_)
        · have hb19 := zz_if c23 hb19
          obtain rfl := Option.some.inj hb19
          have hy19 := Option.some.inj hy19
          cases hy19
          exact hE19 _ _ ls hP hD hS (lv_sub hl [0] rfl)
        · have hb19 := zz_ifn c23 hb19
          refine lv_aload_n hx hb dX9_paper_20 rfl (lv_at hl 0 rfl) ?_
          refine va_get (ci := 8) (v := .ref a_t_papers) (C := RX9) (T := TX9) (N := 28) hx hb hts in_X9_paper_X9 hown hK hP 0 rfl rfl 2 (by decide) (hts _ lk_X9_paper_0) (fun _ h9 => h9) rfl dX9_paper_21 ?_
          refine lv_iload_n hx hb dX9_paper_24 rfl (lv_at hl 1 rfl) ?_
          refine lv_aload_n hx hb dX9_paper_25 rfl (lv_at hl 0 rfl) ?_
          refine va_get (ci := 8) (v := .ref a_t_read) (C := RX9) (T := TX9) (N := 28) hx hb hts in_X9_paper_X9 hown hK hP 0 rfl rfl 0 (by decide) (hts _ lk_X9_paper_1) (fun _ h9 => h9) rfl dX9_paper_26 ?_
          refine lv_iload_n hx hb dX9_paper_29 rfl (lv_at hl 1 rfl) ?_
          obtain ⟨hi24, hb19⟩ := zz_chkE hb19
          refine va_iald hx hb hK hP 3 0 rfl rfl hi24 dX9_paper_30 ?_
          obtain ⟨hi25, hb19⟩ := zz_chkE hb19
          refine zz_iast hx hb hK hP hD hS 2 0 rfl rfl hi25 dX9_paper_31 (fun g26 => [(a_t, .inr (8, [.ref a_t_read, .int x2, .ref a_t_papers, .ref a_t_paperMany, .ref a_t_text, .int t_length, .int x3, .int x4, .int t_year, .int t_wordsNow, .ref a_t_whose, .int t_mendChanges, .ref a_t_plan, .int t_most, .int t_above, .int t_handing, .int t_wants, .ref a_t_wantNight, .ref a_t_wantHouse, .ref a_t_wantWeight, .ref a_t_ahead, .ref a_t_best, .ref a_t_fines, .ref a_t_times, .ref a_t_isKept, .ref a_t_keptPlan, .ref a_t_keptFines, .ref a_t_keptTimes])), (a_t_paperMany, .inl (cI, 3, .inl t_paperMany)), (a_t_papers, .inl (cI, 180, .inl g26)), (a_t_read, .inl (cI, 60, .inl g5)), (a_t_text, .inl (cI, 64, .inl t_text))]) (fun _ => rfl) (fun g26 H locs eg26 hP hD hS => ?_)
          have hb19 := zz_nmE eg26 hb19
          obtain ⟨x27, ex27⟩ : ∃ z : Int32, z = x18 + 1 := ⟨_, rfl⟩
          have hb19 := zz_nmE ex27 hb19
          refine lv_iinc (v := x27) (lv' := [(1, .int x27), (0, .ref a_t)]) hx hb dX9_paper_32 hl (k := 1) rfl (by rw [ex27]; rfl) (by decide) rfl (fun ls hl => ?_)
          refine lv_goto (tgt := 14) hx hb dX9_paper_35 (by decide) ?_
          obtain rfl := Option.some.inj hb19
          exact ih19 x27 g26 _ _ ls hy19 hP hD hS (lv_sub hl [1, 0] rfl)
    exact hL19 zz_fuel 0 t_papers _ _ ls hit19 hP hD hS (lv_sub hl [1, 0] rfl)
  · have h := zz_ifn c7 h
    refine lv_bipush (v := (-3)) hx hb dX9_paper_9 (by decide) ?_
    exact zz_iret (x2, x3, x4, t_paperMany, t_papers, g5) hx hb hr hlocks dX9_paper_11 (Option.some.inj h) hP hK hD hS
theorem hd_X9_year : yX9_year.cls ≠ "java/lang/invoke/MethodHandle" ∧ yX9_year.cls ≠ "java/lang/invoke/VarHandle" ∧ (parseMethodDescriptor yX9_year.desc).map (fun d => d.parameters.length) = some 1 := by decide +kernel
set_option maxRecDepth 20000 in
theorem in_X9_year_X9 : ∀ w ∈ u_ws RX9 TX9 28, w ∈ wsX9_year := by decide +kernel
set_option maxRecDepth 20000 in
theorem lk_X9_year_0 : Cond.constantLong RX9 114 (99) ∈ wsX9_year := by decide +kernel
set_option maxRecDepth 20000 in
theorem lk_X9_year_1 : Cond.fieldLink RX9 72 "TwoHousesOneChildModel" "year" "I" ∈ wsX9_year := by decide +kernel
set_option maxHeartbeats 4000000 in
set_option maxRecDepth 100000 in
theorem ct_X9_year (l : Launch) (dC : Nat → ClassId) (dI : Nat → Nat → Nat) (cI cJ cB cZ : ClassId) (a_t a_t_read a_t_papers a_t_paperMany a_t_text a_t_whose a_t_plan a_t_wantNight a_t_wantHouse a_t_wantWeight a_t_ahead a_t_best a_t_fines a_t_times a_t_isKept a_t_keptPlan a_t_keptFines a_t_keptTimes : Nat) (t_readMany : Int32) (t_length : Int32) (t_at : Int32) (t_faultAt : Int32) (t_year : Int32) (t_wordsNow : Int32) (t_mendChanges : Int32) (t_most : Int32) (t_above : Int32) (t_handing : Int32) (t_wants : Int32) (p1 : Int32) (rr : Int32) (o1 : Int32) (h : fn_X9_year t_year p1 = some (rr, o1)) : zz_M l yX9_year wsX9_year ({ frames := 1, cells := 0, slots := 0, locals := 25 }) (dC, dI) (zz_T cI cJ cB cZ) [.ref a_t, .int p1] [(a_t, .inr (8, [.ref a_t_read, .int t_readMany, .ref a_t_papers, .ref a_t_paperMany, .ref a_t_text, .int t_length, .int t_at, .int t_faultAt, .int t_year, .int t_wordsNow, .ref a_t_whose, .int t_mendChanges, .ref a_t_plan, .int t_most, .int t_above, .int t_handing, .int t_wants, .ref a_t_wantNight, .ref a_t_wantHouse, .ref a_t_wantWeight, .ref a_t_ahead, .ref a_t_best, .ref a_t_fines, .ref a_t_times, .ref a_t_isKept, .ref a_t_keptPlan, .ref a_t_keptFines, .ref a_t_keptTimes]))] (zz_QI (dC, dI) (zz_T cI cJ cB cZ) (rr, o1) (fun (u : Int32) => [(a_t, .inr (8, [.ref a_t_read, .int t_readMany, .ref a_t_papers, .ref a_t_paperMany, .ref a_t_text, .int t_length, .int t_at, .int t_faultAt, .int u, .int t_wordsNow, .ref a_t_whose, .int t_mendChanges, .ref a_t_plan, .int t_most, .int t_above, .int t_handing, .int t_wants, .ref a_t_wantNight, .ref a_t_wantHouse, .ref a_t_wantWeight, .ref a_t_ahead, .ref a_t_best, .ref a_t_fines, .ref a_t_times, .ref a_t_isKept, .ref a_t_keptPlan, .ref a_t_keptFines, .ref a_t_keptTimes]))])) := by
  unfold fn_X9_year at h
  refine zz_of (by decide) rfl (Nat.le_of_ble_eq_true rfl) ?_
  intro p e s m below meth c A ls hx hb hr hml hts hown hlocks hA hS hP hK hD hl
  have hown : s.vm.findClass RX9 = some m.cls := hown
  have hl : lv_has ls 3 [(0, .ref a_t), (1, .int p1)] := hl
  refine lv_iload_n hx hb dX9_year_0 rfl (lv_at hl 1 rfl) ?_
  refine lv_i2l (v := p1.toInt64) hx hb dX9_year_1 rfl ?_
  refine lv_lconst (v := 0) hx hb dX9_year_2 (by decide) ?_
  refine lv_ldc2 (v := 99) hx hb hown (hts _ lk_X9_year_0) dX9_year_3 ?_
  obtain ⟨x1, u2, he3, h⟩ := zz_b2E h
  refine zz_PI (As := [.long p1.toInt64, .long 0, .long 99]) (rest := []) ⟨hx, hb, hml, hown, hts⟩ (ct_X9_in l dC dI cI cJ cB cZ p1.toInt64 (0 : Int64) (99 : Int64) x1 u2 he3) gX9_year_X9_in hd_X9_in rfl rfl rfl ⟨Nat.le_of_ble_eq_true rfl, Nat.le_of_ble_eq_true rfl⟩ ⟨Nat.le_of_ble_eq_true rfl, Nat.le_of_ble_eq_true rfl⟩ rfl rfl (Nat.le_of_ble_eq_true rfl) dX9_year_6 hl.1 hP hK hS hA (fun H locs hP hS => ?_)
  refine lv_if_ne (tgt := 15) hx hb dX9_year_9 (by decide) (fun c4 => ?_) (fun c4 => ?_)
  · have h := zz_ifn c4 h
    refine lv_aload_n hx hb dX9_year_15 rfl (lv_at hl 0 rfl) ?_
    refine va_get (ci := 8) (v := .int t_year) (C := RX9) (T := TX9) (N := 28) hx hb hts in_X9_year_X9 hown hK hP 0 rfl rfl 8 (by decide) (hts _ lk_X9_year_1) (fun _ h9 => h9) rfl dX9_year_16 ?_
    refine lv_istore_n (lv' := [(2, .int t_year), (0, .ref a_t), (1, .int p1)]) hx hb dX9_year_19 rfl hl (by decide) rfl (fun ls hl => ?_)
    refine lv_aload_n hx hb dX9_year_20 rfl (lv_at hl 1 rfl) ?_
    refine lv_iload_n hx hb dX9_year_21 rfl (lv_at hl 2 rfl) ?_
    refine va_put (ci := 8) (v := .int p1) (ty := .int) (C := RX9) (T := TX9) (N := 28) hx hb hts in_X9_year_X9 tyX9 tyX9_ok nmX9 hown hK hP hD hS 0 rfl rfl 8 (by decide) (hts _ lk_X9_year_1) (fun _ h9 => h9) rfl (by decide +kernel) rfl rfl (Nat.le_of_ble_eq_true rfl) dX9_year_22 (fun H locs hP hD hS => ?_)
    have hP : va_P (dC, dI) vwCl [(a_t, .inr (8, [.ref a_t_read, .int t_readMany, .ref a_t_papers, .ref a_t_paperMany, .ref a_t_text, .int t_length, .int t_at, .int t_faultAt, .int p1, .int t_wordsNow, .ref a_t_whose, .int t_mendChanges, .ref a_t_plan, .int t_most, .int t_above, .int t_handing, .int t_wants, .ref a_t_wantNight, .ref a_t_wantHouse, .ref a_t_wantWeight, .ref a_t_ahead, .ref a_t_best, .ref a_t_fines, .ref a_t_times, .ref a_t_isKept, .ref a_t_keptPlan, .ref a_t_keptFines, .ref a_t_keptTimes]))] H := hP
    have hD : va_D A [(a_t, .inr (8, [.ref a_t_read, .int t_readMany, .ref a_t_papers, .ref a_t_paperMany, .ref a_t_text, .int t_length, .int t_at, .int t_faultAt, .int p1, .int t_wordsNow, .ref a_t_whose, .int t_mendChanges, .ref a_t_plan, .int t_most, .int t_above, .int t_handing, .int t_wants, .ref a_t_wantNight, .ref a_t_wantHouse, .ref a_t_wantWeight, .ref a_t_ahead, .ref a_t_best, .ref a_t_fines, .ref a_t_times, .ref a_t_isKept, .ref a_t_keptPlan, .ref a_t_keptFines, .ref a_t_keptTimes]))] := hD
    refine lv_iload_n hx hb dX9_year_25 rfl (lv_at hl 0 rfl) ?_
    exact zz_iret p1 hx hb hr hlocks dX9_year_26 (Option.some.inj h) hP hK hD hS
  · have h := zz_if c4 h
    refine lv_bipush (v := (-2)) hx hb dX9_year_12 (by decide) ?_
    exact zz_iret t_year hx hb hr hlocks dX9_year_14 (Option.some.inj h) hP hK hD hS
theorem hd_X9_isNight : yX9_isNight.cls ≠ "java/lang/invoke/MethodHandle" ∧ yX9_isNight.cls ≠ "java/lang/invoke/VarHandle" ∧ (parseMethodDescriptor yX9_isNight.desc).map (fun d => d.parameters.length) = some 1 := by decide +kernel
set_option maxRecDepth 20000 in
theorem lk_X9_isNight_0 : Cond.constantLong RX9 116 (55) ∈ wsX9_isNight := by decide +kernel
set_option maxHeartbeats 4000000 in
set_option maxRecDepth 100000 in
theorem ct_X9_isNight (l : Launch) (dC : Nat → ClassId) (dI : Nat → Nat → Nat) (cI cJ cB cZ : ClassId) (p0 : Int32) (rr : Int32) (u0 : Unit) (h : fn_X9_isNight p0 = some (rr, u0)) : zz_M l yX9_isNight wsX9_isNight ({ frames := 1, cells := 0, slots := 0, locals := 25 }) (dC, dI) (zz_T cI cJ cB cZ) [.int p0] [] (zz_QI (dC, dI) (zz_T cI cJ cB cZ) (rr, u0) (fun (u : Unit) => [])) := by
  unfold fn_X9_isNight at h
  refine zz_of (by decide) rfl (Nat.le_of_ble_eq_true rfl) ?_
  intro p e s m below meth c A ls hx hb hr hml hts hown hlocks hA hS hP hK hD hl
  have hown : s.vm.findClass RX9 = some m.cls := hown
  have hl : lv_has ls 1 [(0, .int p0)] := hl
  refine lv_iload_n hx hb dX9_isNight_0 rfl (lv_at hl 0 rfl) ?_
  refine lv_i2l (v := p0.toInt64) hx hb dX9_isNight_1 rfl ?_
  refine lv_lconst (v := 0) hx hb dX9_isNight_2 (by decide) ?_
  refine lv_ldc2 (v := 55) hx hb hown (hts _ lk_X9_isNight_0) dX9_isNight_3 ?_
  obtain ⟨x1, u2, he3, h⟩ := zz_b2E h
  refine zz_PI (As := [.long p0.toInt64, .long 0, .long 55]) (rest := []) ⟨hx, hb, hml, hown, hts⟩ (ct_X9_in l dC dI cI cJ cB cZ p0.toInt64 (0 : Int64) (55 : Int64) x1 u2 he3) gX9_isNight_X9_in hd_X9_in rfl rfl rfl ⟨Nat.le_of_ble_eq_true rfl, Nat.le_of_ble_eq_true rfl⟩ ⟨Nat.le_of_ble_eq_true rfl, Nat.le_of_ble_eq_true rfl⟩ rfl rfl (Nat.le_of_ble_eq_true rfl) dX9_isNight_6 hl.1 hP hK hS hA (fun H locs hP hS => ?_)
  obtain ⟨hv, h⟩ := zz_blE h
  exact zz_zret () hx hb hr hlocks dX9_isNight_9 hv (Option.some.inj h) hP hK hD hS
theorem hd_X9_isHouse : yX9_isHouse.cls ≠ "java/lang/invoke/MethodHandle" ∧ yX9_isHouse.cls ≠ "java/lang/invoke/VarHandle" ∧ (parseMethodDescriptor yX9_isHouse.desc).map (fun d => d.parameters.length) = some 1 := by decide +kernel
set_option maxHeartbeats 4000000 in
set_option maxRecDepth 100000 in
theorem ct_X9_isHouse (l : Launch) (dC : Nat → ClassId) (dI : Nat → Nat → Nat) (cI cJ cB cZ : ClassId) (p0 : Int32) (rr : Int32) (u0 : Unit) (h : fn_X9_isHouse p0 = some (rr, u0)) : zz_M l yX9_isHouse wsX9_isHouse ({ frames := 1, cells := 0, slots := 0, locals := 25 }) (dC, dI) (zz_T cI cJ cB cZ) [.int p0] [] (zz_QI (dC, dI) (zz_T cI cJ cB cZ) (rr, u0) (fun (u : Unit) => [])) := by
  unfold fn_X9_isHouse at h
  refine zz_of (by decide) rfl (Nat.le_of_ble_eq_true rfl) ?_
  intro p e s m below meth c A ls hx hb hr hml hts hown hlocks hA hS hP hK hD hl
  have hown : s.vm.findClass RX9 = some m.cls := hown
  have hl : lv_has ls 1 [(0, .int p0)] := hl
  refine lv_iload_n hx hb dX9_isHouse_0 rfl (lv_at hl 0 rfl) ?_
  refine lv_i2l (v := p0.toInt64) hx hb dX9_isHouse_1 rfl ?_
  refine lv_lconst (v := 0) hx hb dX9_isHouse_2 (by decide) ?_
  refine lv_lconst (v := 1) hx hb dX9_isHouse_3 (by decide) ?_
  obtain ⟨x1, u2, he3, h⟩ := zz_b2E h
  refine zz_PI (As := [.long p0.toInt64, .long 0, .long 1]) (rest := []) ⟨hx, hb, hml, hown, hts⟩ (ct_X9_in l dC dI cI cJ cB cZ p0.toInt64 (0 : Int64) (1 : Int64) x1 u2 he3) gX9_isHouse_X9_in hd_X9_in rfl rfl rfl ⟨Nat.le_of_ble_eq_true rfl, Nat.le_of_ble_eq_true rfl⟩ ⟨Nat.le_of_ble_eq_true rfl, Nat.le_of_ble_eq_true rfl⟩ rfl rfl (Nat.le_of_ble_eq_true rfl) dX9_isHouse_4 hl.1 hP hK hS hA (fun H locs hP hS => ?_)
  obtain ⟨hv, h⟩ := zz_blE h
  exact zz_zret () hx hb hr hlocks dX9_isHouse_7 hv (Option.some.inj h) hP hK hD hS
theorem hd_X9_saysOf : yX9_saysOf.cls ≠ "java/lang/invoke/MethodHandle" ∧ yX9_saysOf.cls ≠ "java/lang/invoke/VarHandle" ∧ (parseMethodDescriptor yX9_saysOf.desc).map (fun d => d.parameters.length) = some 4 := by decide +kernel
set_option maxRecDepth 20000 in
theorem in_X9_saysOf_X9 : ∀ w ∈ u_ws RX9 TX9 28, w ∈ wsX9_saysOf := by decide +kernel
set_option maxRecDepth 20000 in
theorem lk_X9_saysOf_0 : Cond.fieldLink RX9 13 "TwoHousesOneChildModel" "papers" "[I" ∈ wsX9_saysOf := by decide +kernel
set_option maxHeartbeats 4000000 in
set_option maxRecDepth 100000 in
theorem ct_X9_saysOf (l : Launch) (dC : Nat → ClassId) (dI : Nat → Nat → Nat) (cI cJ cB cZ : ClassId) (a_t a_t_papers a_t_read a_t_paperMany a_t_text a_t_whose a_t_plan a_t_wantNight a_t_wantHouse a_t_wantWeight a_t_ahead a_t_best a_t_fines a_t_times a_t_isKept a_t_keptPlan a_t_keptFines a_t_keptTimes : Nat) (t_readMany : Int32) (t_length : Int32) (t_at : Int32) (t_faultAt : Int32) (t_year : Int32) (t_wordsNow : Int32) (t_mendChanges : Int32) (t_most : Int32) (t_above : Int32) (t_handing : Int32) (t_wants : Int32) (t_papers : (Nat → Int32)) (p1 : Int32) (p2 : Int32) (p3 : Int32) (p4 : Int32) (rr : Int32) (u0 : Unit) (h : fn_X9_saysOf t_papers p1 p2 p3 p4 = some (rr, u0)) : zz_M l yX9_saysOf wsX9_saysOf ({ frames := 1, cells := 0, slots := 0, locals := 25 }) (dC, dI) (zz_T cI cJ cB cZ) [.ref a_t, .int p1, .int p2, .int p3, .int p4] [(a_t, .inr (8, [.ref a_t_read, .int t_readMany, .ref a_t_papers, .ref a_t_paperMany, .ref a_t_text, .int t_length, .int t_at, .int t_faultAt, .int t_year, .int t_wordsNow, .ref a_t_whose, .int t_mendChanges, .ref a_t_plan, .int t_most, .int t_above, .int t_handing, .int t_wants, .ref a_t_wantNight, .ref a_t_wantHouse, .ref a_t_wantWeight, .ref a_t_ahead, .ref a_t_best, .ref a_t_fines, .ref a_t_times, .ref a_t_isKept, .ref a_t_keptPlan, .ref a_t_keptFines, .ref a_t_keptTimes])), (a_t_papers, .inl (cI, 180, .inl t_papers))] (zz_QI (dC, dI) (zz_T cI cJ cB cZ) (rr, u0) (fun (u : Unit) => [(a_t, .inr (8, [.ref a_t_read, .int t_readMany, .ref a_t_papers, .ref a_t_paperMany, .ref a_t_text, .int t_length, .int t_at, .int t_faultAt, .int t_year, .int t_wordsNow, .ref a_t_whose, .int t_mendChanges, .ref a_t_plan, .int t_most, .int t_above, .int t_handing, .int t_wants, .ref a_t_wantNight, .ref a_t_wantHouse, .ref a_t_wantWeight, .ref a_t_ahead, .ref a_t_best, .ref a_t_fines, .ref a_t_times, .ref a_t_isKept, .ref a_t_keptPlan, .ref a_t_keptFines, .ref a_t_keptTimes])), (a_t_papers, .inl (cI, 180, .inl t_papers))])) := by
  unfold fn_X9_saysOf at h
  refine zz_of (by decide) rfl (Nat.le_of_ble_eq_true rfl) ?_
  intro p e s m below meth c A ls hx hb hr hml hts hown hlocks hA hS hP hK hD hl
  have hown : s.vm.findClass RX9 = some m.cls := hown
  have hl : lv_has ls 10 [(0, .ref a_t), (1, .int p1), (2, .int p2), (3, .int p3), (4, .int p4)] := hl
  refine lv_bipush (v := 60) hx hb dX9_saysOf_0 (by decide) ?_
  refine lv_iload_n hx hb dX9_saysOf_2 rfl (lv_at hl 1 rfl) ?_
  refine lv_imul hx hb dX9_saysOf_3 ?_
  refine lv_bipush (v := 6) hx hb dX9_saysOf_4 (by decide) ?_
  refine lv_iload_n hx hb dX9_saysOf_6 rfl (lv_at hl 2 rfl) ?_
  refine lv_imul hx hb dX9_saysOf_7 ?_
  refine lv_iadd hx hb dX9_saysOf_8 ?_
  refine lv_topi (fun x1 ex1 => ?_)
  have h := zz_nmE ex1 h
  refine lv_istore (lv' := [(5, .int x1), (0, .ref a_t), (1, .int p1), (2, .int p2), (3, .int p3), (4, .int p4)]) hx hb dX9_saysOf_9 hl (by decide) rfl (fun ls hl => ?_)
  refine lv_aload_n hx hb dX9_saysOf_11 rfl (lv_at hl 1 rfl) ?_
  refine va_get (ci := 8) (v := .ref a_t_papers) (C := RX9) (T := TX9) (N := 28) hx hb hts in_X9_saysOf_X9 hown hK hP 0 rfl rfl 2 (by decide) (hts _ lk_X9_saysOf_0) (fun _ h9 => h9) rfl dX9_saysOf_12 ?_
  refine lv_iload hx hb dX9_saysOf_15 (lv_at hl 0 rfl) ?_
  refine lv_iconst (v := 5) hx hb dX9_saysOf_17 (by decide) ?_
  refine lv_iadd hx hb dX9_saysOf_18 ?_
  obtain ⟨hi2, h⟩ := zz_chkE h
  refine va_iald hx hb hK hP 1 0 rfl rfl hi2 dX9_saysOf_19 ?_
  refine lv_topi (fun x3 ex3 => ?_)
  have h := zz_nmE ex3 h
  refine lv_istore (lv' := [(6, .int x3), (5, .int x1), (0, .ref a_t), (1, .int p1), (2, .int p2), (3, .int p3), (4, .int p4)]) hx hb dX9_saysOf_20 hl (by decide) rfl (fun ls hl => ?_)
  refine lv_aload_n hx hb dX9_saysOf_22 rfl (lv_at hl 2 rfl) ?_
  refine va_get (ci := 8) (v := .ref a_t_papers) (C := RX9) (T := TX9) (N := 28) hx hb hts in_X9_saysOf_X9 hown hK hP 0 rfl rfl 2 (by decide) (hts _ lk_X9_saysOf_0) (fun _ h9 => h9) rfl dX9_saysOf_23 ?_
  refine lv_iload hx hb dX9_saysOf_26 (lv_at hl 1 rfl) ?_
  obtain ⟨hi4, h⟩ := zz_chkE h
  refine va_iald hx hb hK hP 1 0 rfl rfl hi4 dX9_saysOf_28 ?_
  refine lv_bipush (v := 87) hx hb dX9_saysOf_29 (by decide) ?_
  refine lv_icmp_ne (tgt := 84) hx hb dX9_saysOf_31 (by decide) (fun c5 => ?_) (fun c5 => ?_)
  · have h := zz_ifn c5 h
    refine lv_aload_n hx hb dX9_saysOf_84 rfl (lv_at hl 2 rfl) ?_
    refine va_get (ci := 8) (v := .ref a_t_papers) (C := RX9) (T := TX9) (N := 28) hx hb hts in_X9_saysOf_X9 hown hK hP 0 rfl rfl 2 (by decide) (hts _ lk_X9_saysOf_0) (fun _ h9 => h9) rfl dX9_saysOf_85 ?_
    refine lv_iload hx hb dX9_saysOf_88 (lv_at hl 1 rfl) ?_
    refine lv_iconst (v := 2) hx hb dX9_saysOf_90 (by decide) ?_
    refine lv_iadd hx hb dX9_saysOf_91 ?_
    obtain ⟨hi6, h⟩ := zz_chkE h
    refine va_iald hx hb hK hP 1 0 rfl rfl hi6 dX9_saysOf_92 ?_
    refine lv_topi (fun x7 ex7 => ?_)
    have h := zz_nmE ex7 h
    refine lv_istore (lv' := [(7, .int x7), (6, .int x3), (5, .int x1), (0, .ref a_t), (1, .int p1), (2, .int p2), (3, .int p3), (4, .int p4)]) hx hb dX9_saysOf_93 hl (by decide) rfl (fun ls hl => ?_)
    refine lv_aload_n hx hb dX9_saysOf_95 rfl (lv_at hl 3 rfl) ?_
    refine va_get (ci := 8) (v := .ref a_t_papers) (C := RX9) (T := TX9) (N := 28) hx hb hts in_X9_saysOf_X9 hown hK hP 0 rfl rfl 2 (by decide) (hts _ lk_X9_saysOf_0) (fun _ h9 => h9) rfl dX9_saysOf_96 ?_
    refine lv_iload hx hb dX9_saysOf_99 (lv_at hl 2 rfl) ?_
    refine lv_iconst (v := 3) hx hb dX9_saysOf_101 (by decide) ?_
    refine lv_iadd hx hb dX9_saysOf_102 ?_
    obtain ⟨hi8, h⟩ := zz_chkE h
    refine va_iald hx hb hK hP 1 0 rfl rfl hi8 dX9_saysOf_103 ?_
    refine lv_topi (fun x9 ex9 => ?_)
    have h := zz_nmE ex9 h
    refine lv_istore (lv' := [(8, .int x9), (7, .int x7), (6, .int x3), (5, .int x1), (0, .ref a_t), (1, .int p1), (2, .int p2), (3, .int p3), (4, .int p4)]) hx hb dX9_saysOf_104 hl (by decide) rfl (fun ls hl => ?_)
    refine lv_iload_n hx hb dX9_saysOf_106 rfl (lv_at hl 7 rfl) ?_
    refine lv_i2l (v := p3.toInt64) hx hb dX9_saysOf_107 rfl ?_
    refine lv_iload hx hb dX9_saysOf_108 (lv_at hl 1 rfl) ?_
    refine lv_i2l (v := x7.toInt64) hx hb dX9_saysOf_110 rfl ?_
    refine lv_iload hx hb dX9_saysOf_111 (lv_at hl 0 rfl) ?_
    refine lv_i2l (v := x9.toInt64) hx hb dX9_saysOf_113 rfl ?_
    obtain ⟨x10, u11, he12, h⟩ := zz_b2E h
    refine zz_PI (As := [.long p3.toInt64, .long x7.toInt64, .long x9.toInt64]) (rest := []) ⟨hx, hb, hml, hown, hts⟩ (ct_X9_in l dC dI cI cJ cB cZ p3.toInt64 x7.toInt64 x9.toInt64 x10 u11 he12) gX9_saysOf_X9_in hd_X9_in rfl rfl rfl ⟨Nat.le_of_ble_eq_true rfl, Nat.le_of_ble_eq_true rfl⟩ ⟨Nat.le_of_ble_eq_true rfl, Nat.le_of_ble_eq_true rfl⟩ rfl rfl (Nat.le_of_ble_eq_true rfl) dX9_saysOf_114 hl.1 hP hK hS hA (fun H locs hP hS => ?_)
    refine lv_if_ne (tgt := 123) hx hb dX9_saysOf_117 (by decide) (fun c13 => ?_) (fun c13 => ?_)
    · have h := zz_ifn c13 h
      refine lv_aload_n hx hb dX9_saysOf_123 rfl (lv_at hl 4 rfl) ?_
      refine va_get (ci := 8) (v := .ref a_t_papers) (C := RX9) (T := TX9) (N := 28) hx hb hts in_X9_saysOf_X9 hown hK hP 0 rfl rfl 2 (by decide) (hts _ lk_X9_saysOf_0) (fun _ h9 => h9) rfl dX9_saysOf_124 ?_
      refine lv_iload hx hb dX9_saysOf_127 (lv_at hl 3 rfl) ?_
      obtain ⟨hi14, h⟩ := zz_chkE h
      refine va_iald hx hb hK hP 1 0 rfl rfl hi14 dX9_saysOf_129 ?_
      refine lv_bipush (v := 72) hx hb dX9_saysOf_130 (by decide) ?_
      obtain ⟨x26, hj27, h⟩ := zz_b1E h
      refine zz_cut (fun V => ∀ (H : Heap) (locs : List Loc) (ls : Array Slot), va_P (dC, dI) vwCl [(a_t, .inr (8, [.ref a_t_read, .int t_readMany, .ref a_t_papers, .ref a_t_paperMany, .ref a_t_text, .int t_length, .int t_at, .int t_faultAt, .int t_year, .int t_wordsNow, .ref a_t_whose, .int t_mendChanges, .ref a_t_plan, .int t_most, .int t_above, .int t_handing, .int t_wants, .ref a_t_wantNight, .ref a_t_wantHouse, .ref a_t_wantWeight, .ref a_t_ahead, .ref a_t_best, .ref a_t_fines, .ref a_t_times, .ref a_t_isKept, .ref a_t_keptPlan, .ref a_t_keptFines, .ref a_t_keptTimes])), (a_t_papers, .inl (cI, 180, .inl t_papers))] H → va_D A [(a_t, .inr (8, [.ref a_t_read, .int t_readMany, .ref a_t_papers, .ref a_t_paperMany, .ref a_t_text, .int t_length, .int t_at, .int t_faultAt, .int t_year, .int t_wordsNow, .ref a_t_whose, .int t_mendChanges, .ref a_t_plan, .int t_most, .int t_above, .int t_handing, .int t_wants, .ref a_t_wantNight, .ref a_t_wantHouse, .ref a_t_wantWeight, .ref a_t_ahead, .ref a_t_best, .ref a_t_fines, .ref a_t_times, .ref a_t_isKept, .ref a_t_keptPlan, .ref a_t_keptFines, .ref a_t_keptTimes])), (a_t_papers, .inl (cI, 180, .inl t_papers))] → va_S A s.heap H locs → lv_has ls 10 [(6, .int x3)] → V H locs (F0 m 175 ls [.int x26])) ?_ (fun hJ27 => ?_)
      · intro H locs ls hP hD hS hl
        refine lv_istore (lv' := [(9, .int x26), (6, .int x3)]) hx hb dX9_saysOf_175 hl (by decide) rfl (fun ls hl => ?_)
        refine lv_iload hx hb dX9_saysOf_177 (lv_at hl 0 rfl) ?_
        refine lv_if_eq (tgt := 189) hx hb dX9_saysOf_179 (by decide) (fun c28 => ?_) (fun c28 => ?_)
        · have h := zz_if c28 h
          refine lv_iload hx hb dX9_saysOf_189 (lv_at hl 1 rfl) ?_
          exact zz_iret () hx hb hr hlocks dX9_saysOf_191 (Option.some.inj h) hP hK hD hS
        · have h := zz_ifn c28 h
          refine lv_iconst (v := 1) hx hb dX9_saysOf_182 (by decide) ?_
          refine lv_iload hx hb dX9_saysOf_183 (lv_at hl 1 rfl) ?_
          refine lv_isub hx hb dX9_saysOf_185 ?_
          refine lv_goto (tgt := 191) hx hb dX9_saysOf_186 (by decide) ?_
          exact zz_iret () hx hb hr hlocks dX9_saysOf_191 (Option.some.inj h) hP hK hD hS
      refine lv_icmp_ne (tgt := 151) hx hb dX9_saysOf_132 (by decide) (fun c15 => ?_) (fun c15 => ?_)
      · have hj27 := zz_ifn c15 hj27
        refine lv_aload_n hx hb dX9_saysOf_151 rfl (lv_at hl 4 rfl) ?_
        refine va_get (ci := 8) (v := .ref a_t_papers) (C := RX9) (T := TX9) (N := 28) hx hb hts in_X9_saysOf_X9 hown hK hP 0 rfl rfl 2 (by decide) (hts _ lk_X9_saysOf_0) (fun _ h9 => h9) rfl dX9_saysOf_152 ?_
        refine lv_iload hx hb dX9_saysOf_155 (lv_at hl 3 rfl) ?_
        obtain ⟨hi29, hj27⟩ := zz_chkE hj27
        refine va_iald hx hb hK hP 1 0 rfl rfl hi29 dX9_saysOf_157 ?_
        refine lv_bipush (v := 89) hx hb dX9_saysOf_158 (by decide) ?_
        refine lv_icmp_ne (tgt := 174) hx hb dX9_saysOf_160 (by decide) (fun c30 => ?_) (fun c30 => ?_)
        · have hj27 := zz_ifn c30 hj27
          refine lv_iconst (v := 0) hx hb dX9_saysOf_174 (by decide) ?_
          cases hj27
          exact hJ27 _ _ ls hP hD hS (lv_sub hl [2] rfl)
        · have hj27 := zz_if c30 hj27
          refine lv_iload hx hb dX9_saysOf_163 (lv_at hl 8 rfl) ?_
          refine lv_iconst (v := 2) hx hb dX9_saysOf_165 (by decide) ?_
          refine lv_irem hx hb dX9_saysOf_166 (by decide) ?_
          refine lv_if_ne (tgt := 174) hx hb dX9_saysOf_167 (by decide) (fun c32 => ?_) (fun c32 => ?_)
          · have hj27 := zz_ifn c32 hj27
            refine lv_iconst (v := 0) hx hb dX9_saysOf_174 (by decide) ?_
            cases hj27
            exact hJ27 _ _ ls hP hD hS (lv_sub hl [2] rfl)
          · have hj27 := zz_if c32 hj27
            refine lv_iconst (v := 1) hx hb dX9_saysOf_170 (by decide) ?_
            refine lv_goto (tgt := 175) hx hb dX9_saysOf_171 (by decide) ?_
            cases hj27
            exact hJ27 _ _ ls hP hD hS (lv_sub hl [2] rfl)
      · have hj27 := zz_if c15 hj27
        refine lv_iload_n hx hb dX9_saysOf_135 rfl (lv_at hl 7 rfl) ?_
        refine lv_iload hx hb dX9_saysOf_136 (lv_at hl 1 rfl) ?_
        refine lv_iload hx hb dX9_saysOf_138 (lv_at hl 0 rfl) ?_
        refine lv_iload hx hb dX9_saysOf_140 (lv_at hl 1 rfl) ?_
        refine lv_isub hx hb dX9_saysOf_142 ?_
        refine lv_iconst (v := 2) hx hb dX9_saysOf_143 (by decide) ?_
        refine lv_iadd hx hb dX9_saysOf_144 ?_
        refine lv_iconst (v := 2) hx hb dX9_saysOf_145 (by decide) ?_
        refine lv_idiv hx hb dX9_saysOf_146 (by decide) ?_
        refine lv_iadd hx hb dX9_saysOf_147 ?_
        refine lv_icmp_ge (tgt := 170) hx hb dX9_saysOf_148 (by decide) (fun c34 => ?_) (fun c34 => ?_)
        · have hj27 := zz_if c34 hj27
          refine lv_iconst (v := 1) hx hb dX9_saysOf_170 (by decide) ?_
          refine lv_goto (tgt := 175) hx hb dX9_saysOf_171 (by decide) ?_
          cases hj27
          exact hJ27 _ _ ls hP hD hS (lv_sub hl [2] rfl)
        · have hj27 := zz_ifn c34 hj27
          refine lv_aload_n hx hb dX9_saysOf_151 rfl (lv_at hl 4 rfl) ?_
          refine va_get (ci := 8) (v := .ref a_t_papers) (C := RX9) (T := TX9) (N := 28) hx hb hts in_X9_saysOf_X9 hown hK hP 0 rfl rfl 2 (by decide) (hts _ lk_X9_saysOf_0) (fun _ h9 => h9) rfl dX9_saysOf_152 ?_
          refine lv_iload hx hb dX9_saysOf_155 (lv_at hl 3 rfl) ?_
          obtain ⟨hi35, hj27⟩ := zz_chkE hj27
          refine va_iald hx hb hK hP 1 0 rfl rfl hi35 dX9_saysOf_157 ?_
          refine lv_bipush (v := 89) hx hb dX9_saysOf_158 (by decide) ?_
          refine lv_icmp_ne (tgt := 174) hx hb dX9_saysOf_160 (by decide) (fun c36 => ?_) (fun c36 => ?_)
          · have hj27 := zz_ifn c36 hj27
            refine lv_iconst (v := 0) hx hb dX9_saysOf_174 (by decide) ?_
            cases hj27
            exact hJ27 _ _ ls hP hD hS (lv_sub hl [2] rfl)
          · have hj27 := zz_if c36 hj27
            refine lv_iload hx hb dX9_saysOf_163 (lv_at hl 8 rfl) ?_
            refine lv_iconst (v := 2) hx hb dX9_saysOf_165 (by decide) ?_
            refine lv_irem hx hb dX9_saysOf_166 (by decide) ?_
            refine lv_if_ne (tgt := 174) hx hb dX9_saysOf_167 (by decide) (fun c38 => ?_) (fun c38 => ?_)
            · have hj27 := zz_ifn c38 hj27
              refine lv_iconst (v := 0) hx hb dX9_saysOf_174 (by decide) ?_
              cases hj27
              exact hJ27 _ _ ls hP hD hS (lv_sub hl [2] rfl)
            · have hj27 := zz_if c38 hj27
              refine lv_iconst (v := 1) hx hb dX9_saysOf_170 (by decide) ?_
              refine lv_goto (tgt := 175) hx hb dX9_saysOf_171 (by decide) ?_
              cases hj27
              exact hJ27 _ _ ls hP hD hS (lv_sub hl [2] rfl)
    · have h := zz_if c13 h
      refine lv_bipush (v := (-9)) hx hb dX9_saysOf_120 (by decide) ?_
      exact zz_iret () hx hb hr hlocks dX9_saysOf_122 (Option.some.inj h) hP hK hD hS
  · have h := zz_if c5 h
    refine lv_iload_n hx hb dX9_saysOf_34 rfl (lv_at hl 5 rfl) ?_
    refine lv_bipush (v := 7) hx hb dX9_saysOf_35 (by decide) ?_
    refine lv_irem hx hb dX9_saysOf_37 (by decide) ?_
    refine lv_aload_n hx hb dX9_saysOf_38 rfl (lv_at hl 2 rfl) ?_
    refine va_get (ci := 8) (v := .ref a_t_papers) (C := RX9) (T := TX9) (N := 28) hx hb hts in_X9_saysOf_X9 hown hK hP 0 rfl rfl 2 (by decide) (hts _ lk_X9_saysOf_0) (fun _ h9 => h9) rfl dX9_saysOf_39 ?_
    refine lv_iload hx hb dX9_saysOf_42 (lv_at hl 1 rfl) ?_
    refine lv_iconst (v := 2) hx hb dX9_saysOf_44 (by decide) ?_
    refine lv_iadd hx hb dX9_saysOf_45 ?_
    obtain ⟨hi40, h⟩ := zz_chkE h
    refine va_iald hx hb hK hP 1 0 rfl rfl hi40 dX9_saysOf_46 ?_
    refine lv_icmp_ne (tgt := 81) hx hb dX9_saysOf_47 (by decide) (fun c41 => ?_) (fun c41 => ?_)
    · have h := zz_ifn c41 h
      refine lv_bipush (v := (-9)) hx hb dX9_saysOf_81 (by decide) ?_
      exact zz_iret () hx hb hr hlocks dX9_saysOf_83 (Option.some.inj h) hP hK hD hS
    · have h := zz_if c41 h
      refine lv_iload_n hx hb dX9_saysOf_50 rfl (lv_at hl 5 rfl) ?_
      refine lv_bipush (v := 7) hx hb dX9_saysOf_51 (by decide) ?_
      refine lv_idiv hx hb dX9_saysOf_53 (by decide) ?_
      refine lv_aload_n hx hb dX9_saysOf_54 rfl (lv_at hl 2 rfl) ?_
      refine va_get (ci := 8) (v := .ref a_t_papers) (C := RX9) (T := TX9) (N := 28) hx hb hts in_X9_saysOf_X9 hown hK hP 0 rfl rfl 2 (by decide) (hts _ lk_X9_saysOf_0) (fun _ h9 => h9) rfl dX9_saysOf_55 ?_
      refine lv_iload hx hb dX9_saysOf_58 (lv_at hl 1 rfl) ?_
      refine lv_iconst (v := 3) hx hb dX9_saysOf_60 (by decide) ?_
      refine lv_iadd hx hb dX9_saysOf_61 ?_
      obtain ⟨hi43, h⟩ := zz_chkE h
      refine va_iald hx hb hK hP 1 0 rfl rfl hi43 dX9_saysOf_62 ?_
      obtain ⟨hq44, h⟩ := zz_dvE h
      refine lv_irem hx hb dX9_saysOf_63 hq44 ?_
      refine lv_aload_n hx hb dX9_saysOf_64 rfl (lv_at hl 2 rfl) ?_
      refine va_get (ci := 8) (v := .ref a_t_papers) (C := RX9) (T := TX9) (N := 28) hx hb hts in_X9_saysOf_X9 hown hK hP 0 rfl rfl 2 (by decide) (hts _ lk_X9_saysOf_0) (fun _ h9 => h9) rfl dX9_saysOf_65 ?_
      refine lv_iload hx hb dX9_saysOf_68 (lv_at hl 1 rfl) ?_
      refine lv_iconst (v := 4) hx hb dX9_saysOf_70 (by decide) ?_
      refine lv_iadd hx hb dX9_saysOf_71 ?_
      obtain ⟨hi45, h⟩ := zz_chkE h
      refine va_iald hx hb hK hP 1 0 rfl rfl hi45 dX9_saysOf_72 ?_
      refine lv_icmp_ne (tgt := 81) hx hb dX9_saysOf_73 (by decide) (fun c46 => ?_) (fun c46 => ?_)
      · have h := zz_ifn c46 h
        refine lv_bipush (v := (-9)) hx hb dX9_saysOf_81 (by decide) ?_
        exact zz_iret () hx hb hr hlocks dX9_saysOf_83 (Option.some.inj h) hP hK hD hS
      · have h := zz_if c46 h
        refine lv_iload hx hb dX9_saysOf_76 (lv_at hl 0 rfl) ?_
        refine lv_goto (tgt := 83) hx hb dX9_saysOf_78 (by decide) ?_
        exact zz_iret () hx hb hr hlocks dX9_saysOf_83 (Option.some.inj h) hP hK hD hS
theorem hd_X9_whoseOf : yX9_whoseOf.cls ≠ "java/lang/invoke/MethodHandle" ∧ yX9_whoseOf.cls ≠ "java/lang/invoke/VarHandle" ∧ (parseMethodDescriptor yX9_whoseOf.desc).map (fun d => d.parameters.length) = some 4 := by decide +kernel
set_option maxRecDepth 20000 in
theorem in_X9_whoseOf_X9 : ∀ w ∈ u_ws RX9 TX9 28, w ∈ wsX9_whoseOf := by decide +kernel
set_option maxRecDepth 20000 in
theorem lk_X9_whoseOf_0 : Cond.fieldLink RX9 118 "TwoHousesOneChildModel" "wordsNow" "I" ∈ wsX9_whoseOf := by decide +kernel
set_option maxRecDepth 20000 in
theorem lk_X9_whoseOf_1 : Cond.fieldLink RX9 16 "TwoHousesOneChildModel" "paperMany" "[I" ∈ wsX9_whoseOf := by decide +kernel
set_option maxRecDepth 20000 in
theorem lk_X9_whoseOf_2 : Cond.fieldLink RX9 13 "TwoHousesOneChildModel" "papers" "[I" ∈ wsX9_whoseOf := by decide +kernel
set_option maxHeartbeats 4000000 in
set_option maxRecDepth 100000 in
theorem ct_X9_whoseOf (l : Launch) (dC : Nat → ClassId) (dI : Nat → Nat → Nat) (cI cJ cB cZ : ClassId) (a_t a_t_paperMany a_t_papers a_t_read a_t_text a_t_whose a_t_plan a_t_wantNight a_t_wantHouse a_t_wantWeight a_t_ahead a_t_best a_t_fines a_t_times a_t_isKept a_t_keptPlan a_t_keptFines a_t_keptTimes : Nat) (t_readMany : Int32) (t_length : Int32) (t_at : Int32) (t_faultAt : Int32) (t_year : Int32) (t_wordsNow : Int32) (t_mendChanges : Int32) (t_most : Int32) (t_above : Int32) (t_handing : Int32) (t_wants : Int32) (t_paperMany : (Nat → Int32)) (t_papers : (Nat → Int32)) (p1 : Int32) (p2 : Int32) (p3 : Int32) (p4 : Int32) (rr : Int32) (o1 : Int32) (h : fn_X9_whoseOf t_paperMany t_papers p1 p2 p3 p4 = some (rr, o1)) : zz_M l yX9_whoseOf wsX9_whoseOf ({ frames := 2, cells := 0, slots := 0, locals := 54 }) (dC, dI) (zz_T cI cJ cB cZ) [.ref a_t, .int p1, .int p2, .int p3, .int p4] [(a_t, .inr (8, [.ref a_t_read, .int t_readMany, .ref a_t_papers, .ref a_t_paperMany, .ref a_t_text, .int t_length, .int t_at, .int t_faultAt, .int t_year, .int t_wordsNow, .ref a_t_whose, .int t_mendChanges, .ref a_t_plan, .int t_most, .int t_above, .int t_handing, .int t_wants, .ref a_t_wantNight, .ref a_t_wantHouse, .ref a_t_wantWeight, .ref a_t_ahead, .ref a_t_best, .ref a_t_fines, .ref a_t_times, .ref a_t_isKept, .ref a_t_keptPlan, .ref a_t_keptFines, .ref a_t_keptTimes])), (a_t_paperMany, .inl (cI, 3, .inl t_paperMany)), (a_t_papers, .inl (cI, 180, .inl t_papers))] (zz_QI (dC, dI) (zz_T cI cJ cB cZ) (rr, o1) (fun (u : Int32) => [(a_t, .inr (8, [.ref a_t_read, .int t_readMany, .ref a_t_papers, .ref a_t_paperMany, .ref a_t_text, .int t_length, .int t_at, .int t_faultAt, .int t_year, .int u, .ref a_t_whose, .int t_mendChanges, .ref a_t_plan, .int t_most, .int t_above, .int t_handing, .int t_wants, .ref a_t_wantNight, .ref a_t_wantHouse, .ref a_t_wantWeight, .ref a_t_ahead, .ref a_t_best, .ref a_t_fines, .ref a_t_times, .ref a_t_isKept, .ref a_t_keptPlan, .ref a_t_keptFines, .ref a_t_keptTimes])), (a_t_paperMany, .inl (cI, 3, .inl t_paperMany)), (a_t_papers, .inl (cI, 180, .inl t_papers))])) := by
  unfold fn_X9_whoseOf at h
  refine zz_of (by decide) rfl (Nat.le_of_ble_eq_true rfl) ?_
  intro p e s m below meth c A ls hx hb hr hml hts hown hlocks hA hS hP hK hD hl
  have hown : s.vm.findClass RX9 = some m.cls := hown
  have hl : lv_has ls 10 [(0, .ref a_t), (1, .int p1), (2, .int p2), (3, .int p3), (4, .int p4)] := hl
  refine lv_bipush (v := 10) hx hb dX9_whoseOf_0 (by decide) ?_
  refine lv_istore (lv' := [(5, .int 10), (0, .ref a_t), (1, .int p1), (2, .int p2), (3, .int p3), (4, .int p4)]) hx hb dX9_whoseOf_2 hl (by decide) rfl (fun ls hl => ?_)
  refine lv_iconst (v := 0) hx hb dX9_whoseOf_4 (by decide) ?_
  refine lv_istore (lv' := [(6, .int 0), (5, .int 10), (0, .ref a_t), (1, .int p1), (2, .int p2), (3, .int p3), (4, .int p4)]) hx hb dX9_whoseOf_5 hl (by decide) rfl (fun ls hl => ?_)
  refine lv_aload_n hx hb dX9_whoseOf_7 rfl (lv_at hl 2 rfl) ?_
  refine lv_iconst (v := 0) hx hb dX9_whoseOf_8 (by decide) ?_
  refine va_put (ci := 8) (v := .int 0) (ty := .int) (C := RX9) (T := TX9) (N := 28) hx hb hts in_X9_whoseOf_X9 tyX9 tyX9_ok nmX9 hown hK hP hD hS 0 rfl rfl 9 (by decide) (hts _ lk_X9_whoseOf_0) (fun _ h9 => h9) rfl (by decide +kernel) rfl rfl (Nat.le_of_ble_eq_true rfl) dX9_whoseOf_9 (fun H locs hP hD hS => ?_)
  have hP : va_P (dC, dI) vwCl [(a_t, .inr (8, [.ref a_t_read, .int t_readMany, .ref a_t_papers, .ref a_t_paperMany, .ref a_t_text, .int t_length, .int t_at, .int t_faultAt, .int t_year, .int 0, .ref a_t_whose, .int t_mendChanges, .ref a_t_plan, .int t_most, .int t_above, .int t_handing, .int t_wants, .ref a_t_wantNight, .ref a_t_wantHouse, .ref a_t_wantWeight, .ref a_t_ahead, .ref a_t_best, .ref a_t_fines, .ref a_t_times, .ref a_t_isKept, .ref a_t_keptPlan, .ref a_t_keptFines, .ref a_t_keptTimes])), (a_t_paperMany, .inl (cI, 3, .inl t_paperMany)), (a_t_papers, .inl (cI, 180, .inl t_papers))] H := hP
  have hD : va_D A [(a_t, .inr (8, [.ref a_t_read, .int t_readMany, .ref a_t_papers, .ref a_t_paperMany, .ref a_t_text, .int t_length, .int t_at, .int t_faultAt, .int t_year, .int 0, .ref a_t_whose, .int t_mendChanges, .ref a_t_plan, .int t_most, .int t_above, .int t_handing, .int t_wants, .ref a_t_wantNight, .ref a_t_wantHouse, .ref a_t_wantWeight, .ref a_t_ahead, .ref a_t_best, .ref a_t_fines, .ref a_t_times, .ref a_t_isKept, .ref a_t_keptPlan, .ref a_t_keptFines, .ref a_t_keptTimes])), (a_t_paperMany, .inl (cI, 3, .inl t_paperMany)), (a_t_papers, .inl (cI, 180, .inl t_papers))] := hD
  refine lv_iconst (v := 0) hx hb dX9_whoseOf_12 (by decide) ?_
  refine lv_istore (lv' := [(7, .int 0), (6, .int 0), (5, .int 10), (0, .ref a_t), (1, .int p1), (2, .int p2), (3, .int p3), (4, .int p4)]) hx hb dX9_whoseOf_13 hl (by decide) rfl (fun ls hl => ?_)
  obtain ⟨x57, x58, hit56, h⟩ := zz_b2E h
  refine zz_cut (fun V => ∀ (H : Heap) (locs : List Loc) (ls : Array Slot), va_P (dC, dI) vwCl [(a_t, .inr (8, [.ref a_t_read, .int t_readMany, .ref a_t_papers, .ref a_t_paperMany, .ref a_t_text, .int t_length, .int t_at, .int t_faultAt, .int t_year, .int x58, .ref a_t_whose, .int t_mendChanges, .ref a_t_plan, .int t_most, .int t_above, .int t_handing, .int t_wants, .ref a_t_wantNight, .ref a_t_wantHouse, .ref a_t_wantWeight, .ref a_t_ahead, .ref a_t_best, .ref a_t_fines, .ref a_t_times, .ref a_t_isKept, .ref a_t_keptPlan, .ref a_t_keptFines, .ref a_t_keptTimes])), (a_t_paperMany, .inl (cI, 3, .inl t_paperMany)), (a_t_papers, .inl (cI, 180, .inl t_papers))] H → va_D A [(a_t, .inr (8, [.ref a_t_read, .int t_readMany, .ref a_t_papers, .ref a_t_paperMany, .ref a_t_text, .int t_length, .int t_at, .int t_faultAt, .int t_year, .int x58, .ref a_t_whose, .int t_mendChanges, .ref a_t_plan, .int t_most, .int t_above, .int t_handing, .int t_wants, .ref a_t_wantNight, .ref a_t_wantHouse, .ref a_t_wantWeight, .ref a_t_ahead, .ref a_t_best, .ref a_t_fines, .ref a_t_times, .ref a_t_isKept, .ref a_t_keptPlan, .ref a_t_keptFines, .ref a_t_keptTimes])), (a_t_paperMany, .inl (cI, 3, .inl t_paperMany)), (a_t_papers, .inl (cI, 180, .inl t_papers))] → va_S A s.heap H locs → lv_has ls 10 [(6, .int x57)] → V H locs (F0 m 140 ls [])) ?_ (fun hE56 => ?_)
  · intro H locs ls hP hD hS hl
    refine lv_iload hx hb dX9_whoseOf_140 (lv_at hl 0 rfl) ?_
    refine lv_if_ne (tgt := 149) hx hb dX9_whoseOf_142 (by decide) (fun c59 => ?_) (fun c59 => ?_)
    · have h := zz_ifn c59 h
      refine lv_iload hx hb dX9_whoseOf_149 (lv_at hl 0 rfl) ?_
      refine lv_iconst (v := 3) hx hb dX9_whoseOf_151 (by decide) ?_
      refine lv_icmp_ne (tgt := 159) hx hb dX9_whoseOf_152 (by decide) (fun c60 => ?_) (fun c60 => ?_)
      · have h := zz_ifn c60 h
        refine lv_iload hx hb dX9_whoseOf_159 (lv_at hl 0 rfl) ?_
        refine lv_iconst (v := 1) hx hb dX9_whoseOf_161 (by decide) ?_
        refine lv_isub hx hb dX9_whoseOf_162 ?_
        exact zz_iret x58 hx hb hr hlocks dX9_whoseOf_163 (Option.some.inj h) hP hK hD hS
      · have h := zz_if c60 h
        refine lv_iconst (v := 3) hx hb dX9_whoseOf_155 (by decide) ?_
        refine lv_goto (tgt := 163) hx hb dX9_whoseOf_156 (by decide) ?_
        exact zz_iret x58 hx hb hr hlocks dX9_whoseOf_163 (Option.some.inj h) hP hK hD hS
    · have h := zz_if c59 h
      refine lv_iconst (v := 2) hx hb dX9_whoseOf_145 (by decide) ?_
      refine lv_goto (tgt := 163) hx hb dX9_whoseOf_146 (by decide) ?_
      exact zz_iret x58 hx hb hr hlocks dX9_whoseOf_163 (Option.some.inj h) hP hK hD hS
  refine zz_cut (fun V => ∀ (n : Nat) (x53 : Int32) (x54 : Int32) (x55 : Int32) (x56 : Int32) (H : Heap) (locs : List Loc) (ls : Array Slot), zz_it (fun z => fb_X9_whoseOf_15 p1 p2 p3 p4 t_paperMany t_papers z.1 z.2.1 z.2.2.1 z.2.2.2) n (x53, x54, x55, x56) = some (x57, x58) → va_P (dC, dI) vwCl [(a_t, .inr (8, [.ref a_t_read, .int t_readMany, .ref a_t_papers, .ref a_t_paperMany, .ref a_t_text, .int t_length, .int t_at, .int t_faultAt, .int t_year, .int x56, .ref a_t_whose, .int t_mendChanges, .ref a_t_plan, .int t_most, .int t_above, .int t_handing, .int t_wants, .ref a_t_wantNight, .ref a_t_wantHouse, .ref a_t_wantWeight, .ref a_t_ahead, .ref a_t_best, .ref a_t_fines, .ref a_t_times, .ref a_t_isKept, .ref a_t_keptPlan, .ref a_t_keptFines, .ref a_t_keptTimes])), (a_t_paperMany, .inl (cI, 3, .inl t_paperMany)), (a_t_papers, .inl (cI, 180, .inl t_papers))] H → va_D A [(a_t, .inr (8, [.ref a_t_read, .int t_readMany, .ref a_t_papers, .ref a_t_paperMany, .ref a_t_text, .int t_length, .int t_at, .int t_faultAt, .int t_year, .int x56, .ref a_t_whose, .int t_mendChanges, .ref a_t_plan, .int t_most, .int t_above, .int t_handing, .int t_wants, .ref a_t_wantNight, .ref a_t_wantHouse, .ref a_t_wantWeight, .ref a_t_ahead, .ref a_t_best, .ref a_t_fines, .ref a_t_times, .ref a_t_isKept, .ref a_t_keptPlan, .ref a_t_keptFines, .ref a_t_keptTimes])), (a_t_paperMany, .inl (cI, 3, .inl t_paperMany)), (a_t_papers, .inl (cI, 180, .inl t_papers))] → va_S A s.heap H locs → lv_has ls 10 [(0, .ref a_t), (1, .int p1), (2, .int p2), (3, .int p3), (4, .int p4), (5, .int x53), (6, .int x54), (7, .int x55)] → V H locs (F0 m 15 ls [])) ?_ (fun hL56 => ?_)
  · intro n
    induction n with
    | zero => intro x53 x54 x55 x56 H locs ls hit56; exact (zz_it0 hit56).elim
    | succ n ih56 =>
      intro x53 x54 x55 x56 H locs ls hit56 hP hD hS hl
      obtain ⟨y56, hb56, hy56⟩ := zz_itE hit56
      have hb56 : fb_X9_whoseOf_15 p1 p2 p3 p4 t_paperMany t_papers x53 x54 x55 x56 = some y56 := hb56
      unfold fb_X9_whoseOf_15 at hb56
      refine lv_iload hx hb dX9_whoseOf_15 (lv_at hl 7 rfl) ?_
      refine lv_aload_n hx hb dX9_whoseOf_17 rfl (lv_at hl 0 rfl) ?_
      refine va_get (ci := 8) (v := .ref a_t_paperMany) (C := RX9) (T := TX9) (N := 28) hx hb hts in_X9_whoseOf_X9 hown hK hP 0 rfl rfl 3 (by decide) (hts _ lk_X9_whoseOf_1) (fun _ h9 => h9) rfl dX9_whoseOf_18 ?_
      refine lv_iload_n hx hb dX9_whoseOf_21 rfl (lv_at hl 1 rfl) ?_
      obtain ⟨hi61, hb56⟩ := zz_chkE hb56
      refine va_iald hx hb hK hP 1 0 rfl rfl hi61 dX9_whoseOf_22 ?_
      refine lv_icmp_ge (tgt := 140) hx hb dX9_whoseOf_23 (by decide) (fun c62 => ?_) (fun c62 => ?_)
      · have hb56 := zz_if c62 hb56
        obtain rfl := Option.some.inj hb56
        have hy56 := Option.some.inj hy56
        cases hy56
        exact hE56 _ _ ls hP hD hS (lv_sub hl [6] rfl)
      · have hb56 := zz_ifn c62 hb56
        refine lv_iload hx hb dX9_whoseOf_26 (lv_at hl 4 rfl) ?_
        refine lv_iload hx hb dX9_whoseOf_28 (lv_at hl 7 rfl) ?_
        refine lv_ishr hx hb dX9_whoseOf_30 ?_
        refine lv_iconst (v := 1) hx hb dX9_whoseOf_31 (by decide) ?_
        refine lv_iand hx hb dX9_whoseOf_32 ?_
        refine lv_iconst (v := 1) hx hb dX9_whoseOf_33 (by decide) ?_
        obtain ⟨x67, hj68, hb56⟩ := zz_b1E hb56
        refine zz_cut (fun V => ∀ (H : Heap) (locs : List Loc) (ls : Array Slot), va_P (dC, dI) vwCl [(a_t, .inr (8, [.ref a_t_read, .int t_readMany, .ref a_t_papers, .ref a_t_paperMany, .ref a_t_text, .int t_length, .int t_at, .int t_faultAt, .int t_year, .int x56, .ref a_t_whose, .int t_mendChanges, .ref a_t_plan, .int t_most, .int t_above, .int t_handing, .int t_wants, .ref a_t_wantNight, .ref a_t_wantHouse, .ref a_t_wantWeight, .ref a_t_ahead, .ref a_t_best, .ref a_t_fines, .ref a_t_times, .ref a_t_isKept, .ref a_t_keptPlan, .ref a_t_keptFines, .ref a_t_keptTimes])), (a_t_paperMany, .inl (cI, 3, .inl t_paperMany)), (a_t_papers, .inl (cI, 180, .inl t_papers))] H → va_D A [(a_t, .inr (8, [.ref a_t_read, .int t_readMany, .ref a_t_papers, .ref a_t_paperMany, .ref a_t_text, .int t_length, .int t_at, .int t_faultAt, .int t_year, .int x56, .ref a_t_whose, .int t_mendChanges, .ref a_t_plan, .int t_most, .int t_above, .int t_handing, .int t_wants, .ref a_t_wantNight, .ref a_t_wantHouse, .ref a_t_wantWeight, .ref a_t_ahead, .ref a_t_best, .ref a_t_fines, .ref a_t_times, .ref a_t_isKept, .ref a_t_keptPlan, .ref a_t_keptFines, .ref a_t_keptTimes])), (a_t_paperMany, .inl (cI, 3, .inl t_paperMany)), (a_t_papers, .inl (cI, 180, .inl t_papers))] → va_S A s.heap H locs → lv_has ls 10 [(0, .ref a_t), (1, .int p1), (2, .int p2), (3, .int p3), (4, .int p4), (5, .int x53), (6, .int x54), (7, .int x55)] → V H locs (F0 m 51 ls [.int x67])) ?_ (fun hJ68 => ?_)
        · intro H locs ls hP hD hS hl
          refine lv_istore (lv' := [(8, .int x67), (0, .ref a_t), (1, .int p1), (2, .int p2), (3, .int p3), (4, .int p4), (5, .int x53), (6, .int x54), (7, .int x55)]) hx hb dX9_whoseOf_51 hl (by decide) rfl (fun ls hl => ?_)
          refine lv_aload_n hx hb dX9_whoseOf_53 rfl (lv_at hl 1 rfl) ?_
          refine va_get (ci := 8) (v := .ref a_t_papers) (C := RX9) (T := TX9) (N := 28) hx hb hts in_X9_whoseOf_X9 hown hK hP 0 rfl rfl 2 (by decide) (hts _ lk_X9_whoseOf_2) (fun _ h9 => h9) rfl dX9_whoseOf_54 ?_
          refine lv_bipush (v := 60) hx hb dX9_whoseOf_57 (by decide) ?_
          refine lv_iload_n hx hb dX9_whoseOf_59 rfl (lv_at hl 2 rfl) ?_
          refine lv_imul hx hb dX9_whoseOf_60 ?_
          refine lv_bipush (v := 6) hx hb dX9_whoseOf_61 (by decide) ?_
          refine lv_iload hx hb dX9_whoseOf_63 (lv_at hl 8 rfl) ?_
          refine lv_imul hx hb dX9_whoseOf_65 ?_
          refine lv_iadd hx hb dX9_whoseOf_66 ?_
          refine lv_iconst (v := 1) hx hb dX9_whoseOf_67 (by decide) ?_
          refine lv_iadd hx hb dX9_whoseOf_68 ?_
          obtain ⟨hi69, hb56⟩ := zz_chkE hb56
          refine va_iald hx hb hK hP 2 0 rfl rfl hi69 dX9_whoseOf_69 ?_
          refine lv_topi (fun x70 ex70 => ?_)
          have hb56 := zz_nmE ex70 hb56
          refine lv_istore (lv' := [(9, .int x70), (8, .int x67), (0, .ref a_t), (1, .int p1), (2, .int p2), (3, .int p3), (4, .int p4), (5, .int x53), (6, .int x54), (7, .int x55)]) hx hb dX9_whoseOf_70 hl (by decide) rfl (fun ls hl => ?_)
          refine lv_iload hx hb dX9_whoseOf_72 (lv_at hl 1 rfl) ?_
          refine lv_bipush (v := (-9)) hx hb dX9_whoseOf_74 (by decide) ?_
          refine lv_icmp_eq (tgt := 134) hx hb dX9_whoseOf_76 (by decide) (fun c71 => ?_) (fun c71 => ?_)
          · have hb56 := zz_if c71 hb56
            obtain ⟨x72, ex72⟩ : ∃ z : Int32, z = x55 + 1 := ⟨_, rfl⟩
            have hb56 := zz_nmE ex72 hb56
            refine lv_iinc (v := x72) (lv' := [(7, .int x72), (9, .int x70), (8, .int x67), (0, .ref a_t), (1, .int p1), (2, .int p2), (3, .int p3), (4, .int p4), (5, .int x53), (6, .int x54)]) hx hb dX9_whoseOf_134 hl (k := 9) rfl (by rw [ex72]; rfl) (by decide) rfl (fun ls hl => ?_)
            refine lv_goto (tgt := 15) hx hb dX9_whoseOf_137 (by decide) ?_
            obtain rfl := Option.some.inj hb56
            exact ih56 x53 x54 x72 x56 _ _ ls hy56 hP hD hS (lv_sub hl [3, 4, 5, 6, 7, 8, 9, 0] rfl)
          · have hb56 := zz_ifn c71 hb56
            refine lv_iload hx hb dX9_whoseOf_79 (lv_at hl 0 rfl) ?_
            refine lv_iload hx hb dX9_whoseOf_81 (lv_at hl 7 rfl) ?_
            refine lv_icmp_gt (tgt := 134) hx hb dX9_whoseOf_83 (by decide) (fun c73 => ?_) (fun c73 => ?_)
            · have hb56 := zz_if c73 hb56
              obtain ⟨x74, ex74⟩ : ∃ z : Int32, z = x55 + 1 := ⟨_, rfl⟩
              have hb56 := zz_nmE ex74 hb56
              refine lv_iinc (v := x74) (lv' := [(7, .int x74), (9, .int x70), (8, .int x67), (0, .ref a_t), (1, .int p1), (2, .int p2), (3, .int p3), (4, .int p4), (5, .int x53), (6, .int x54)]) hx hb dX9_whoseOf_134 hl (k := 9) rfl (by rw [ex74]; rfl) (by decide) rfl (fun ls hl => ?_)
              refine lv_goto (tgt := 15) hx hb dX9_whoseOf_137 (by decide) ?_
              obtain rfl := Option.some.inj hb56
              exact ih56 x53 x54 x74 x56 _ _ ls hy56 hP hD hS (lv_sub hl [3, 4, 5, 6, 7, 8, 9, 0] rfl)
            · have hb56 := zz_ifn c73 hb56
              refine lv_iload hx hb dX9_whoseOf_86 (lv_at hl 0 rfl) ?_
              refine lv_iload hx hb dX9_whoseOf_88 (lv_at hl 7 rfl) ?_
              obtain ⟨x76, hj77, hb56⟩ := zz_b1E hb56
              refine zz_cut (fun V => ∀ (H : Heap) (locs : List Loc) (ls : Array Slot), va_P (dC, dI) vwCl [(a_t, .inr (8, [.ref a_t_read, .int t_readMany, .ref a_t_papers, .ref a_t_paperMany, .ref a_t_text, .int t_length, .int t_at, .int t_faultAt, .int t_year, .int x56, .ref a_t_whose, .int t_mendChanges, .ref a_t_plan, .int t_most, .int t_above, .int t_handing, .int t_wants, .ref a_t_wantNight, .ref a_t_wantHouse, .ref a_t_wantWeight, .ref a_t_ahead, .ref a_t_best, .ref a_t_fines, .ref a_t_times, .ref a_t_isKept, .ref a_t_keptPlan, .ref a_t_keptFines, .ref a_t_keptTimes])), (a_t_paperMany, .inl (cI, 3, .inl t_paperMany)), (a_t_papers, .inl (cI, 180, .inl t_papers))] H → va_D A [(a_t, .inr (8, [.ref a_t_read, .int t_readMany, .ref a_t_papers, .ref a_t_paperMany, .ref a_t_text, .int t_length, .int t_at, .int t_faultAt, .int t_year, .int x56, .ref a_t_whose, .int t_mendChanges, .ref a_t_plan, .int t_most, .int t_above, .int t_handing, .int t_wants, .ref a_t_wantNight, .ref a_t_wantHouse, .ref a_t_wantWeight, .ref a_t_ahead, .ref a_t_best, .ref a_t_fines, .ref a_t_times, .ref a_t_isKept, .ref a_t_keptPlan, .ref a_t_keptFines, .ref a_t_keptTimes])), (a_t_paperMany, .inl (cI, 3, .inl t_paperMany)), (a_t_papers, .inl (cI, 180, .inl t_papers))] → va_S A s.heap H locs → lv_has ls 10 [(0, .ref a_t), (1, .int p1), (2, .int p2), (3, .int p3), (4, .int p4), (5, .int x53), (7, .int x55), (8, .int x67), (9, .int x70)] → V H locs (F0 m 99 ls [.int x76])) ?_ (fun hJ77 => ?_)
              · intro H locs ls hP hD hS hl
                refine lv_iconst (v := 1) hx hb dX9_whoseOf_99 (by decide) ?_
                refine lv_iload hx hb dX9_whoseOf_100 (lv_at hl 7 rfl) ?_
                refine lv_ishl hx hb dX9_whoseOf_102 ?_
                refine lv_ior hx hb dX9_whoseOf_103 ?_
                refine lv_topi (fun x78 ex78 => ?_)
                have hb56 := zz_nmE ex78 hb56
                refine lv_istore (lv' := [(6, .int x78), (0, .ref a_t), (1, .int p1), (2, .int p2), (3, .int p3), (4, .int p4), (5, .int x53), (7, .int x55), (8, .int x67), (9, .int x70)]) hx hb dX9_whoseOf_104 hl (by decide) rfl (fun ls hl => ?_)
                refine lv_aload_n hx hb dX9_whoseOf_106 rfl (lv_at hl 1 rfl) ?_
                refine lv_iload hx hb dX9_whoseOf_107 (lv_at hl 9 rfl) ?_
                refine lv_iload hx hb dX9_whoseOf_109 (lv_at hl 6 rfl) ?_
                obtain ⟨x80, hj81, hb56⟩ := zz_b1E hb56
                refine zz_cut (fun V => ∀ (H : Heap) (locs : List Loc) (ls : Array Slot), va_P (dC, dI) vwCl [(a_t, .inr (8, [.ref a_t_read, .int t_readMany, .ref a_t_papers, .ref a_t_paperMany, .ref a_t_text, .int t_length, .int t_at, .int t_faultAt, .int t_year, .int x56, .ref a_t_whose, .int t_mendChanges, .ref a_t_plan, .int t_most, .int t_above, .int t_handing, .int t_wants, .ref a_t_wantNight, .ref a_t_wantHouse, .ref a_t_wantWeight, .ref a_t_ahead, .ref a_t_best, .ref a_t_fines, .ref a_t_times, .ref a_t_isKept, .ref a_t_keptPlan, .ref a_t_keptFines, .ref a_t_keptTimes])), (a_t_paperMany, .inl (cI, 3, .inl t_paperMany)), (a_t_papers, .inl (cI, 180, .inl t_papers))] H → va_D A [(a_t, .inr (8, [.ref a_t_read, .int t_readMany, .ref a_t_papers, .ref a_t_paperMany, .ref a_t_text, .int t_length, .int t_at, .int t_faultAt, .int t_year, .int x56, .ref a_t_whose, .int t_mendChanges, .ref a_t_plan, .int t_most, .int t_above, .int t_handing, .int t_wants, .ref a_t_wantNight, .ref a_t_wantHouse, .ref a_t_wantWeight, .ref a_t_ahead, .ref a_t_best, .ref a_t_fines, .ref a_t_times, .ref a_t_isKept, .ref a_t_keptPlan, .ref a_t_keptFines, .ref a_t_keptTimes])), (a_t_paperMany, .inl (cI, 3, .inl t_paperMany)), (a_t_papers, .inl (cI, 180, .inl t_papers))] → va_S A s.heap H locs → lv_has ls 10 [(0, .ref a_t), (1, .int p1), (2, .int p2), (3, .int p3), (4, .int p4), (6, .int x78), (7, .int x55), (9, .int x70)] → V H locs (F0 m 122 ls [.int x80, .ref a_t])) ?_ (fun hJ81 => ?_)
                · intro H locs ls hP hD hS hl
                  refine lv_iconst (v := 1) hx hb dX9_whoseOf_122 (by decide) ?_
                  refine lv_iload hx hb dX9_whoseOf_123 (lv_at hl 6 rfl) ?_
                  refine lv_ishl hx hb dX9_whoseOf_125 ?_
                  refine lv_ior hx hb dX9_whoseOf_126 ?_
                  refine lv_topi (fun x82 ex82 => ?_)
                  have hb56 := zz_nmE ex82 hb56
                  refine va_put (ci := 8) (v := .int x82) (ty := .int) (C := RX9) (T := TX9) (N := 28) hx hb hts in_X9_whoseOf_X9 tyX9 tyX9_ok nmX9 hown hK hP hD hS 0 rfl rfl 9 (by decide) (hts _ lk_X9_whoseOf_0) (fun _ h9 => h9) rfl (by decide +kernel) rfl rfl (Nat.le_of_ble_eq_true rfl) dX9_whoseOf_127 (fun H locs hP hD hS => ?_)
                  have hP : va_P (dC, dI) vwCl [(a_t, .inr (8, [.ref a_t_read, .int t_readMany, .ref a_t_papers, .ref a_t_paperMany, .ref a_t_text, .int t_length, .int t_at, .int t_faultAt, .int t_year, .int x82, .ref a_t_whose, .int t_mendChanges, .ref a_t_plan, .int t_most, .int t_above, .int t_handing, .int t_wants, .ref a_t_wantNight, .ref a_t_wantHouse, .ref a_t_wantWeight, .ref a_t_ahead, .ref a_t_best, .ref a_t_fines, .ref a_t_times, .ref a_t_isKept, .ref a_t_keptPlan, .ref a_t_keptFines, .ref a_t_keptTimes])), (a_t_paperMany, .inl (cI, 3, .inl t_paperMany)), (a_t_papers, .inl (cI, 180, .inl t_papers))] H := hP
                  have hD : va_D A [(a_t, .inr (8, [.ref a_t_read, .int t_readMany, .ref a_t_papers, .ref a_t_paperMany, .ref a_t_text, .int t_length, .int t_at, .int t_faultAt, .int t_year, .int x82, .ref a_t_whose, .int t_mendChanges, .ref a_t_plan, .int t_most, .int t_above, .int t_handing, .int t_wants, .ref a_t_wantNight, .ref a_t_wantHouse, .ref a_t_wantWeight, .ref a_t_ahead, .ref a_t_best, .ref a_t_fines, .ref a_t_times, .ref a_t_isKept, .ref a_t_keptPlan, .ref a_t_keptFines, .ref a_t_keptTimes])), (a_t_paperMany, .inl (cI, 3, .inl t_paperMany)), (a_t_papers, .inl (cI, 180, .inl t_papers))] := hD
                  refine lv_iload hx hb dX9_whoseOf_130 (lv_at hl 7 rfl) ?_
                  refine lv_istore (lv' := [(5, .int x70), (0, .ref a_t), (1, .int p1), (2, .int p2), (3, .int p3), (4, .int p4), (6, .int x78), (7, .int x55), (9, .int x70)]) hx hb dX9_whoseOf_132 hl (by decide) rfl (fun ls hl => ?_)
                  obtain ⟨x83, ex83⟩ : ∃ z : Int32, z = x55 + 1 := ⟨_, rfl⟩
                  have hb56 := zz_nmE ex83 hb56
                  refine lv_iinc (v := x83) (lv' := [(7, .int x83), (5, .int x70), (0, .ref a_t), (1, .int p1), (2, .int p2), (3, .int p3), (4, .int p4), (6, .int x78), (9, .int x70)]) hx hb dX9_whoseOf_134 hl (k := 7) rfl (by rw [ex83]; rfl) (by decide) rfl (fun ls hl => ?_)
                  refine lv_goto (tgt := 15) hx hb dX9_whoseOf_137 (by decide) ?_
                  obtain rfl := Option.some.inj hb56
                  exact ih56 x70 x78 x83 x82 _ _ ls hy56 hP hD hS (lv_sub hl [2, 3, 4, 5, 6, 1, 7, 0] rfl)
                refine lv_icmp_ge (tgt := 118) hx hb dX9_whoseOf_111 (by decide) (fun c79 => ?_) (fun c79 => ?_)
                · have hj81 := zz_if c79 hj81
                  refine lv_aload_n hx hb dX9_whoseOf_118 rfl (lv_at hl 1 rfl) ?_
                  refine va_get (ci := 8) (v := .int x56) (C := RX9) (T := TX9) (N := 28) hx hb hts in_X9_whoseOf_X9 hown hK hP 0 rfl rfl 9 (by decide) (hts _ lk_X9_whoseOf_0) (fun _ h9 => h9) rfl dX9_whoseOf_119 ?_
                  cases hj81
                  exact hJ81 _ _ ls hP hD hS (lv_sub hl [1, 2, 3, 4, 5, 0, 7, 9] rfl)
                · have hj81 := zz_ifn c79 hj81
                  refine lv_iconst (v := 0) hx hb dX9_whoseOf_114 (by decide) ?_
                  refine lv_goto (tgt := 122) hx hb dX9_whoseOf_115 (by decide) ?_
                  cases hj81
                  exact hJ81 _ _ ls hP hD hS (lv_sub hl [1, 2, 3, 4, 5, 0, 7, 9] rfl)
              refine lv_icmp_ge (tgt := 97) hx hb dX9_whoseOf_90 (by decide) (fun c75 => ?_) (fun c75 => ?_)
              · have hj77 := zz_if c75 hj77
                refine lv_iload hx hb dX9_whoseOf_97 (lv_at hl 8 rfl) ?_
                cases hj77
                exact hJ77 _ _ ls hP hD hS (lv_sub hl [2, 3, 4, 5, 6, 7, 9, 1, 0] rfl)
              · have hj77 := zz_ifn c75 hj77
                refine lv_iconst (v := 0) hx hb dX9_whoseOf_93 (by decide) ?_
                refine lv_goto (tgt := 99) hx hb dX9_whoseOf_94 (by decide) ?_
                cases hj77
                exact hJ77 _ _ ls hP hD hS (lv_sub hl [2, 3, 4, 5, 6, 7, 9, 1, 0] rfl)
        refine lv_icmp_ne (tgt := 42) hx hb dX9_whoseOf_34 (by decide) (fun c63 => ?_) (fun c63 => ?_)
        · have hj68 := zz_ifn c63 hj68
          refine lv_aload_n hx hb dX9_whoseOf_42 rfl (lv_at hl 0 rfl) ?_
          refine lv_iload_n hx hb dX9_whoseOf_43 rfl (lv_at hl 1 rfl) ?_
          refine lv_iload hx hb dX9_whoseOf_44 (lv_at hl 7 rfl) ?_
          refine lv_iload_n hx hb dX9_whoseOf_46 rfl (lv_at hl 2 rfl) ?_
          refine lv_iload_n hx hb dX9_whoseOf_47 rfl (lv_at hl 3 rfl) ?_
          obtain ⟨x84, u85, he86, hj68⟩ := zz_b2E hj68
          refine zz_VI (q := (RX9, TX9, 28)) (As := [.int p1, .int x55, .int p2, .int p3]) (rest := []) (wr := [(a_t_paperMany, .inl (cI, 3, .inl t_paperMany))]) (wm := [(a_t, .inr (8, [.ref a_t_read, .int t_readMany, .ref a_t_papers, .ref a_t_paperMany, .ref a_t_text, .int t_length, .int t_at, .int t_faultAt, .int t_year, .int x56, .ref a_t_whose, .int t_mendChanges, .ref a_t_plan, .int t_most, .int t_above, .int t_handing, .int t_wants, .ref a_t_wantNight, .ref a_t_wantHouse, .ref a_t_wantWeight, .ref a_t_ahead, .ref a_t_best, .ref a_t_fines, .ref a_t_times, .ref a_t_isKept, .ref a_t_keptPlan, .ref a_t_keptFines, .ref a_t_keptTimes])), (a_t_paperMany, .inl (cI, 3, .inl t_paperMany)), (a_t_papers, .inl (cI, 180, .inl t_papers))]) ⟨hx, hb, hml, hown, hts⟩ (ct_X9_saysOf l dC dI cI cJ cB cZ a_t a_t_papers a_t_read a_t_paperMany a_t_text a_t_whose a_t_plan a_t_wantNight a_t_wantHouse a_t_wantWeight a_t_ahead a_t_best a_t_fines a_t_times a_t_isKept a_t_keptPlan a_t_keptFines a_t_keptTimes t_readMany t_length t_at t_faultAt t_year x56 t_mendChanges t_most t_above t_handing t_wants t_papers p1 x55 p2 p3 x84 u85 he86) gX9_whoseOf_X9_saysOf hd_X9_saysOf rfl rfl rfl ⟨Nat.le_of_ble_eq_true rfl, Nat.le_of_ble_eq_true rfl⟩ ⟨Nat.le_of_ble_eq_true rfl, Nat.le_of_ble_eq_true rfl⟩ rfl rfl (Nat.le_of_ble_eq_true rfl) dX9_whoseOf_48 hl.1 rfl (ci := 8) rfl (q0 := 0) rfl hP hK hD hS hA [0, 2] [1] [1, 0, 2] rfl rfl (by decide) (by decide) (by decide) (by decide) rfl (fun H locs hP hD hS => ?_)
          cases hj68
          exact hJ68 _ _ ls hP hD hS (lv_sub hl [0, 1, 2, 3, 4, 5, 6, 7] rfl)
        · have hj68 := zz_if c63 hj68
          refine lv_bipush (v := (-9)) hx hb dX9_whoseOf_37 (by decide) ?_
          refine lv_goto (tgt := 51) hx hb dX9_whoseOf_39 (by decide) ?_
          cases hj68
          exact hJ68 _ _ ls hP hD hS (lv_sub hl [0, 1, 2, 3, 4, 5, 6, 7] rfl)
  exact hL56 zz_fuel 10 0 0 0 _ _ ls hit56 hP hD hS (lv_sub hl [3, 4, 5, 6, 7, 2, 1, 0] rfl)
theorem hd_X9_layWhose : yX9_layWhose.cls ≠ "java/lang/invoke/MethodHandle" ∧ yX9_layWhose.cls ≠ "java/lang/invoke/VarHandle" ∧ (parseMethodDescriptor yX9_layWhose.desc).map (fun d => d.parameters.length) = some 0 := by decide +kernel
set_option maxRecDepth 20000 in
theorem in_X9_layWhose_X9 : ∀ w ∈ u_ws RX9 TX9 28, w ∈ wsX9_layWhose := by decide +kernel
set_option maxRecDepth 20000 in
theorem lk_X9_layWhose_0 : Cond.fieldLink RX9 22 "TwoHousesOneChildModel" "whose" "[I" ∈ wsX9_layWhose := by decide +kernel
set_option maxRecDepth 20000 in
theorem lk_X9_layWhose_1 : Cond.fieldLink RX9 72 "TwoHousesOneChildModel" "year" "I" ∈ wsX9_layWhose := by decide +kernel
set_option maxHeartbeats 4000000 in
set_option maxRecDepth 100000 in
theorem ct_X9_layWhose (l : Launch) (dC : Nat → ClassId) (dI : Nat → Nat → Nat) (cI cJ cB cZ : ClassId) (a_t a_t_paperMany a_t_papers a_t_whose a_t_read a_t_text a_t_plan a_t_wantNight a_t_wantHouse a_t_wantWeight a_t_ahead a_t_best a_t_fines a_t_times a_t_isKept a_t_keptPlan a_t_keptFines a_t_keptTimes : Nat) (t_readMany : Int32) (t_length : Int32) (t_at : Int32) (t_faultAt : Int32) (t_year : Int32) (t_wordsNow : Int32) (t_mendChanges : Int32) (t_most : Int32) (t_above : Int32) (t_handing : Int32) (t_wants : Int32) (t_paperMany : (Nat → Int32)) (t_papers : (Nat → Int32)) (t_whose : (Nat → Int32)) (o1 : Int32) (o2 : (Nat → Int32)) (h : fn_X9_layWhose t_year t_wordsNow t_paperMany t_papers t_whose = some (o1, o2)) : zz_M l yX9_layWhose wsX9_layWhose ({ frames := 3, cells := 0, slots := 0, locals := 83 }) (dC, dI) (zz_T cI cJ cB cZ) [.ref a_t] [(a_t, .inr (8, [.ref a_t_read, .int t_readMany, .ref a_t_papers, .ref a_t_paperMany, .ref a_t_text, .int t_length, .int t_at, .int t_faultAt, .int t_year, .int t_wordsNow, .ref a_t_whose, .int t_mendChanges, .ref a_t_plan, .int t_most, .int t_above, .int t_handing, .int t_wants, .ref a_t_wantNight, .ref a_t_wantHouse, .ref a_t_wantWeight, .ref a_t_ahead, .ref a_t_best, .ref a_t_fines, .ref a_t_times, .ref a_t_isKept, .ref a_t_keptPlan, .ref a_t_keptFines, .ref a_t_keptTimes])), (a_t_paperMany, .inl (cI, 3, .inl t_paperMany)), (a_t_papers, .inl (cI, 180, .inl t_papers)), (a_t_whose, .inl (cI, 56, .inl t_whose))] (zz_QV (dC, dI) (zz_T cI cJ cB cZ) (o1, o2) (fun (u : Int32 × (Nat → Int32)) => [(a_t, .inr (8, [.ref a_t_read, .int t_readMany, .ref a_t_papers, .ref a_t_paperMany, .ref a_t_text, .int t_length, .int t_at, .int t_faultAt, .int t_year, .int u.1, .ref a_t_whose, .int t_mendChanges, .ref a_t_plan, .int t_most, .int t_above, .int t_handing, .int t_wants, .ref a_t_wantNight, .ref a_t_wantHouse, .ref a_t_wantWeight, .ref a_t_ahead, .ref a_t_best, .ref a_t_fines, .ref a_t_times, .ref a_t_isKept, .ref a_t_keptPlan, .ref a_t_keptFines, .ref a_t_keptTimes])), (a_t_paperMany, .inl (cI, 3, .inl t_paperMany)), (a_t_papers, .inl (cI, 180, .inl t_papers)), (a_t_whose, .inl (cI, 56, .inl u.2))])) := by
  unfold fn_X9_layWhose at h
  refine zz_of (by decide) rfl (Nat.le_of_ble_eq_true rfl) ?_
  intro p e s m below meth c A ls hx hb hr hml hts hown hlocks hA hS hP hK hD hl
  have hown : s.vm.findClass RX9 = some m.cls := hown
  have hl : lv_has ls 2 [(0, .ref a_t)] := hl
  refine lv_iconst (v := 0) hx hb dX9_layWhose_0 (by decide) ?_
  refine lv_istore_n (lv' := [(1, .int 0), (0, .ref a_t)]) hx hb dX9_layWhose_1 rfl hl (by decide) rfl (fun ls hl => ?_)
  obtain ⟨x18, g19, hit17, h⟩ := zz_b2E h
  refine zz_cut (fun V => ∀ (H : Heap) (locs : List Loc) (ls : Array Slot), va_P (dC, dI) vwCl [(a_t, .inr (8, [.ref a_t_read, .int t_readMany, .ref a_t_papers, .ref a_t_paperMany, .ref a_t_text, .int t_length, .int t_at, .int t_faultAt, .int t_year, .int x18, .ref a_t_whose, .int t_mendChanges, .ref a_t_plan, .int t_most, .int t_above, .int t_handing, .int t_wants, .ref a_t_wantNight, .ref a_t_wantHouse, .ref a_t_wantWeight, .ref a_t_ahead, .ref a_t_best, .ref a_t_fines, .ref a_t_times, .ref a_t_isKept, .ref a_t_keptPlan, .ref a_t_keptFines, .ref a_t_keptTimes])), (a_t_paperMany, .inl (cI, 3, .inl t_paperMany)), (a_t_papers, .inl (cI, 180, .inl t_papers)), (a_t_whose, .inl (cI, 56, .inl g19))] H → va_D A [(a_t, .inr (8, [.ref a_t_read, .int t_readMany, .ref a_t_papers, .ref a_t_paperMany, .ref a_t_text, .int t_length, .int t_at, .int t_faultAt, .int t_year, .int x18, .ref a_t_whose, .int t_mendChanges, .ref a_t_plan, .int t_most, .int t_above, .int t_handing, .int t_wants, .ref a_t_wantNight, .ref a_t_wantHouse, .ref a_t_wantWeight, .ref a_t_ahead, .ref a_t_best, .ref a_t_fines, .ref a_t_times, .ref a_t_isKept, .ref a_t_keptPlan, .ref a_t_keptFines, .ref a_t_keptTimes])), (a_t_paperMany, .inl (cI, 3, .inl t_paperMany)), (a_t_papers, .inl (cI, 180, .inl t_papers)), (a_t_whose, .inl (cI, 56, .inl g19))] → va_S A s.heap H locs → lv_has ls 2 [] → V H locs (F0 m 31 ls [])) ?_ (fun hE17 => ?_)
  · intro H locs ls hP hD hS hl
    exact zz_vret (x18, g19) hx hb hr hlocks dX9_layWhose_31 (Option.some.inj h) hP hK hD hS
  refine zz_cut (fun V => ∀ (n : Nat) (x15 : Int32) (x16 : Int32) (g17 : (Nat → Int32)) (H : Heap) (locs : List Loc) (ls : Array Slot), zz_it (fun z => fb_X9_layWhose_2 t_year t_paperMany t_papers z.1 z.2.1 z.2.2) n (x15, x16, g17) = some (x18, g19) → va_P (dC, dI) vwCl [(a_t, .inr (8, [.ref a_t_read, .int t_readMany, .ref a_t_papers, .ref a_t_paperMany, .ref a_t_text, .int t_length, .int t_at, .int t_faultAt, .int t_year, .int x16, .ref a_t_whose, .int t_mendChanges, .ref a_t_plan, .int t_most, .int t_above, .int t_handing, .int t_wants, .ref a_t_wantNight, .ref a_t_wantHouse, .ref a_t_wantWeight, .ref a_t_ahead, .ref a_t_best, .ref a_t_fines, .ref a_t_times, .ref a_t_isKept, .ref a_t_keptPlan, .ref a_t_keptFines, .ref a_t_keptTimes])), (a_t_paperMany, .inl (cI, 3, .inl t_paperMany)), (a_t_papers, .inl (cI, 180, .inl t_papers)), (a_t_whose, .inl (cI, 56, .inl g17))] H → va_D A [(a_t, .inr (8, [.ref a_t_read, .int t_readMany, .ref a_t_papers, .ref a_t_paperMany, .ref a_t_text, .int t_length, .int t_at, .int t_faultAt, .int t_year, .int x16, .ref a_t_whose, .int t_mendChanges, .ref a_t_plan, .int t_most, .int t_above, .int t_handing, .int t_wants, .ref a_t_wantNight, .ref a_t_wantHouse, .ref a_t_wantWeight, .ref a_t_ahead, .ref a_t_best, .ref a_t_fines, .ref a_t_times, .ref a_t_isKept, .ref a_t_keptPlan, .ref a_t_keptFines, .ref a_t_keptTimes])), (a_t_paperMany, .inl (cI, 3, .inl t_paperMany)), (a_t_papers, .inl (cI, 180, .inl t_papers)), (a_t_whose, .inl (cI, 56, .inl g17))] → va_S A s.heap H locs → lv_has ls 2 [(0, .ref a_t), (1, .int x15)] → V H locs (F0 m 2 ls [])) ?_ (fun hL17 => ?_)
  · intro n
    induction n with
    | zero => intro x15 x16 g17 H locs ls hit17; exact (zz_it0 hit17).elim
    | succ n ih17 =>
      intro x15 x16 g17 H locs ls hit17 hP hD hS hl
      obtain ⟨y17, hb17, hy17⟩ := zz_itE hit17
      have hb17 : fb_X9_layWhose_2 t_year t_paperMany t_papers x15 x16 g17 = some y17 := hb17
      unfold fb_X9_layWhose_2 at hb17
      refine lv_iload_n hx hb dX9_layWhose_2 rfl (lv_at hl 1 rfl) ?_
      refine lv_bipush (v := 56) hx hb dX9_layWhose_3 (by decide) ?_
      refine lv_icmp_ge (tgt := 31) hx hb dX9_layWhose_5 (by decide) (fun c20 => ?_) (fun c20 => ?_)
      · have hb17 := zz_if c20 hb17
        obtain rfl := Option.some.inj hb17
        have hy17 := Option.some.inj hy17
        cases hy17
        exact hE17 _ _ ls hP hD hS (lv_sub hl [] rfl)
      · have hb17 := zz_ifn c20 hb17
        refine lv_aload_n hx hb dX9_layWhose_8 rfl (lv_at hl 0 rfl) ?_
        refine va_get (ci := 8) (v := .ref a_t_whose) (C := RX9) (T := TX9) (N := 28) hx hb hts in_X9_layWhose_X9 hown hK hP 0 rfl rfl 10 (by decide) (hts _ lk_X9_layWhose_0) (fun _ h9 => h9) rfl dX9_layWhose_9 ?_
        refine lv_iload_n hx hb dX9_layWhose_12 rfl (lv_at hl 1 rfl) ?_
        refine lv_aload_n hx hb dX9_layWhose_13 rfl (lv_at hl 0 rfl) ?_
        refine lv_iconst (v := 0) hx hb dX9_layWhose_14 (by decide) ?_
        refine lv_iload_n hx hb dX9_layWhose_15 rfl (lv_at hl 1 rfl) ?_
        refine lv_aload_n hx hb dX9_layWhose_16 rfl (lv_at hl 0 rfl) ?_
        refine va_get (ci := 8) (v := .int t_year) (C := RX9) (T := TX9) (N := 28) hx hb hts in_X9_layWhose_X9 hown hK hP 0 rfl rfl 8 (by decide) (hts _ lk_X9_layWhose_1) (fun _ h9 => h9) rfl dX9_layWhose_17 ?_
        refine lv_iconst (v := 0) hx hb dX9_layWhose_20 (by decide) ?_
        obtain ⟨x21, x22, he23, hb17⟩ := zz_b2E hb17
        refine zz_VI (q := (RX9, TX9, 28)) (As := [.int 0, .int x15, .int t_year, .int 0]) (rest := [.int x15, .ref a_t_whose]) (wr := [(a_t_whose, .inl (cI, 56, .inl g17))]) (wm := [(a_t, .inr (8, [.ref a_t_read, .int t_readMany, .ref a_t_papers, .ref a_t_paperMany, .ref a_t_text, .int t_length, .int t_at, .int t_faultAt, .int t_year, .int x22, .ref a_t_whose, .int t_mendChanges, .ref a_t_plan, .int t_most, .int t_above, .int t_handing, .int t_wants, .ref a_t_wantNight, .ref a_t_wantHouse, .ref a_t_wantWeight, .ref a_t_ahead, .ref a_t_best, .ref a_t_fines, .ref a_t_times, .ref a_t_isKept, .ref a_t_keptPlan, .ref a_t_keptFines, .ref a_t_keptTimes])), (a_t_paperMany, .inl (cI, 3, .inl t_paperMany)), (a_t_papers, .inl (cI, 180, .inl t_papers)), (a_t_whose, .inl (cI, 56, .inl g17))]) ⟨hx, hb, hml, hown, hts⟩ (ct_X9_whoseOf l dC dI cI cJ cB cZ a_t a_t_paperMany a_t_papers a_t_read a_t_text a_t_whose a_t_plan a_t_wantNight a_t_wantHouse a_t_wantWeight a_t_ahead a_t_best a_t_fines a_t_times a_t_isKept a_t_keptPlan a_t_keptFines a_t_keptTimes t_readMany t_length t_at t_faultAt t_year x16 t_mendChanges t_most t_above t_handing t_wants t_paperMany t_papers (0 : Int32) x15 t_year (0 : Int32) x21 x22 he23) gX9_layWhose_X9_whoseOf hd_X9_whoseOf rfl rfl rfl ⟨Nat.le_of_ble_eq_true rfl, Nat.le_of_ble_eq_true rfl⟩ ⟨Nat.le_of_ble_eq_true rfl, Nat.le_of_ble_eq_true rfl⟩ rfl rfl (Nat.le_of_ble_eq_true rfl) dX9_layWhose_21 hl.1 rfl (ci := 8) rfl (q0 := 0) rfl hP hK hD hS hA [0, 1, 2] [3] [1, 2, 3, 0] rfl rfl (by decide) (by decide) (by decide) (by decide) rfl (fun H locs hP hD hS => ?_)
        obtain ⟨hi24, hb17⟩ := zz_chkE hb17
        refine zz_iast hx hb hK hP hD hS 3 0 rfl rfl hi24 dX9_layWhose_24 (fun g25 => [(a_t, .inr (8, [.ref a_t_read, .int t_readMany, .ref a_t_papers, .ref a_t_paperMany, .ref a_t_text, .int t_length, .int t_at, .int t_faultAt, .int t_year, .int x22, .ref a_t_whose, .int t_mendChanges, .ref a_t_plan, .int t_most, .int t_above, .int t_handing, .int t_wants, .ref a_t_wantNight, .ref a_t_wantHouse, .ref a_t_wantWeight, .ref a_t_ahead, .ref a_t_best, .ref a_t_fines, .ref a_t_times, .ref a_t_isKept, .ref a_t_keptPlan, .ref a_t_keptFines, .ref a_t_keptTimes])), (a_t_paperMany, .inl (cI, 3, .inl t_paperMany)), (a_t_papers, .inl (cI, 180, .inl t_papers)), (a_t_whose, .inl (cI, 56, .inl g25))]) (fun _ => rfl) (fun g25 H locs eg25 hP hD hS => ?_)
        have hb17 := zz_nmE eg25 hb17
        obtain ⟨x26, ex26⟩ : ∃ z : Int32, z = x15 + 1 := ⟨_, rfl⟩
        have hb17 := zz_nmE ex26 hb17
        refine lv_iinc (v := x26) (lv' := [(1, .int x26), (0, .ref a_t)]) hx hb dX9_layWhose_25 hl (k := 1) rfl (by rw [ex26]; rfl) (by decide) rfl (fun ls hl => ?_)
        refine lv_goto (tgt := 2) hx hb dX9_layWhose_28 (by decide) ?_
        obtain rfl := Option.some.inj hb17
        exact ih17 x26 x22 g25 _ _ ls hy17 hP hD hS (lv_sub hl [1, 0] rfl)
  exact hL17 zz_fuel 0 t_wordsNow t_whose _ _ ls hit17 hP hD hS (lv_sub hl [1, 0] rfl)
theorem hd_X9_whose : yX9_whose.cls ≠ "java/lang/invoke/MethodHandle" ∧ yX9_whose.cls ≠ "java/lang/invoke/VarHandle" ∧ (parseMethodDescriptor yX9_whose.desc).map (fun d => d.parameters.length) = some 1 := by decide +kernel
set_option maxRecDepth 20000 in
theorem in_X9_whose_X9 : ∀ w ∈ u_ws RX9 TX9 28, w ∈ wsX9_whose := by decide +kernel
set_option maxRecDepth 20000 in
theorem lk_X9_whose_0 : Cond.fieldLink RX9 72 "TwoHousesOneChildModel" "year" "I" ∈ wsX9_whose := by decide +kernel
set_option maxHeartbeats 4000000 in
set_option maxRecDepth 100000 in
theorem ct_X9_whose (l : Launch) (dC : Nat → ClassId) (dI : Nat → Nat → Nat) (cI cJ cB cZ : ClassId) (a_t a_t_paperMany a_t_papers a_t_read a_t_text a_t_whose a_t_plan a_t_wantNight a_t_wantHouse a_t_wantWeight a_t_ahead a_t_best a_t_fines a_t_times a_t_isKept a_t_keptPlan a_t_keptFines a_t_keptTimes : Nat) (t_readMany : Int32) (t_length : Int32) (t_at : Int32) (t_faultAt : Int32) (t_year : Int32) (t_wordsNow : Int32) (t_mendChanges : Int32) (t_most : Int32) (t_above : Int32) (t_handing : Int32) (t_wants : Int32) (t_paperMany : (Nat → Int32)) (t_papers : (Nat → Int32)) (p1 : Int32) (rr : Int32) (o1 : Int32) (h : fn_X9_whose t_year t_wordsNow t_paperMany t_papers p1 = some (rr, o1)) : zz_M l yX9_whose wsX9_whose ({ frames := 3, cells := 0, slots := 0, locals := 83 }) (dC, dI) (zz_T cI cJ cB cZ) [.ref a_t, .int p1] [(a_t, .inr (8, [.ref a_t_read, .int t_readMany, .ref a_t_papers, .ref a_t_paperMany, .ref a_t_text, .int t_length, .int t_at, .int t_faultAt, .int t_year, .int t_wordsNow, .ref a_t_whose, .int t_mendChanges, .ref a_t_plan, .int t_most, .int t_above, .int t_handing, .int t_wants, .ref a_t_wantNight, .ref a_t_wantHouse, .ref a_t_wantWeight, .ref a_t_ahead, .ref a_t_best, .ref a_t_fines, .ref a_t_times, .ref a_t_isKept, .ref a_t_keptPlan, .ref a_t_keptFines, .ref a_t_keptTimes])), (a_t_paperMany, .inl (cI, 3, .inl t_paperMany)), (a_t_papers, .inl (cI, 180, .inl t_papers))] (zz_QI (dC, dI) (zz_T cI cJ cB cZ) (rr, o1) (fun (u : Int32) => [(a_t, .inr (8, [.ref a_t_read, .int t_readMany, .ref a_t_papers, .ref a_t_paperMany, .ref a_t_text, .int t_length, .int t_at, .int t_faultAt, .int t_year, .int u, .ref a_t_whose, .int t_mendChanges, .ref a_t_plan, .int t_most, .int t_above, .int t_handing, .int t_wants, .ref a_t_wantNight, .ref a_t_wantHouse, .ref a_t_wantWeight, .ref a_t_ahead, .ref a_t_best, .ref a_t_fines, .ref a_t_times, .ref a_t_isKept, .ref a_t_keptPlan, .ref a_t_keptFines, .ref a_t_keptTimes])), (a_t_paperMany, .inl (cI, 3, .inl t_paperMany)), (a_t_papers, .inl (cI, 180, .inl t_papers))])) := by
  unfold fn_X9_whose at h
  refine zz_of (by decide) rfl (Nat.le_of_ble_eq_true rfl) ?_
  intro p e s m below meth c A ls hx hb hr hml hts hown hlocks hA hS hP hK hD hl
  have hown : s.vm.findClass RX9 = some m.cls := hown
  have hl : lv_has ls 2 [(0, .ref a_t), (1, .int p1)] := hl
  refine lv_iload_n hx hb dX9_whose_0 rfl (lv_at hl 1 rfl) ?_
  obtain ⟨x1, u2, he3, h⟩ := zz_b2E h
  refine zz_PI (As := [.int p1]) (rest := []) ⟨hx, hb, hml, hown, hts⟩ (ct_X9_isNight l dC dI cI cJ cB cZ p1 x1 u2 he3) gX9_whose_X9_isNight hd_X9_isNight rfl rfl rfl ⟨Nat.le_of_ble_eq_true rfl, Nat.le_of_ble_eq_true rfl⟩ ⟨Nat.le_of_ble_eq_true rfl, Nat.le_of_ble_eq_true rfl⟩ rfl rfl (Nat.le_of_ble_eq_true rfl) dX9_whose_1 hl.1 hP hK hS hA (fun H locs hP hS => ?_)
  refine lv_if_eq (tgt := 21) hx hb dX9_whose_4 (by decide) (fun c4 => ?_) (fun c4 => ?_)
  · have h := zz_if c4 h
    refine lv_iconst (v := (-1)) hx hb dX9_whose_21 (by decide) ?_
    exact zz_iret t_wordsNow hx hb hr hlocks dX9_whose_22 (Option.some.inj h) hP hK hD hS
  · have h := zz_ifn c4 h
    refine lv_aload_n hx hb dX9_whose_7 rfl (lv_at hl 0 rfl) ?_
    refine lv_iconst (v := 0) hx hb dX9_whose_8 (by decide) ?_
    refine lv_iload_n hx hb dX9_whose_9 rfl (lv_at hl 1 rfl) ?_
    refine lv_aload_n hx hb dX9_whose_10 rfl (lv_at hl 0 rfl) ?_
    refine va_get (ci := 8) (v := .int t_year) (C := RX9) (T := TX9) (N := 28) hx hb hts in_X9_whose_X9 hown hK hP 0 rfl rfl 8 (by decide) (hts _ lk_X9_whose_0) (fun _ h9 => h9) rfl dX9_whose_11 ?_
    refine lv_iconst (v := 0) hx hb dX9_whose_14 (by decide) ?_
    obtain ⟨x5, x6, he7, h⟩ := zz_b2E h
    refine zz_VI (q := (RX9, TX9, 28)) (As := [.int 0, .int p1, .int t_year, .int 0]) (rest := []) (wr := []) (wm := [(a_t, .inr (8, [.ref a_t_read, .int t_readMany, .ref a_t_papers, .ref a_t_paperMany, .ref a_t_text, .int t_length, .int t_at, .int t_faultAt, .int t_year, .int x6, .ref a_t_whose, .int t_mendChanges, .ref a_t_plan, .int t_most, .int t_above, .int t_handing, .int t_wants, .ref a_t_wantNight, .ref a_t_wantHouse, .ref a_t_wantWeight, .ref a_t_ahead, .ref a_t_best, .ref a_t_fines, .ref a_t_times, .ref a_t_isKept, .ref a_t_keptPlan, .ref a_t_keptFines, .ref a_t_keptTimes])), (a_t_paperMany, .inl (cI, 3, .inl t_paperMany)), (a_t_papers, .inl (cI, 180, .inl t_papers))]) ⟨hx, hb, hml, hown, hts⟩ (ct_X9_whoseOf l dC dI cI cJ cB cZ a_t a_t_paperMany a_t_papers a_t_read a_t_text a_t_whose a_t_plan a_t_wantNight a_t_wantHouse a_t_wantWeight a_t_ahead a_t_best a_t_fines a_t_times a_t_isKept a_t_keptPlan a_t_keptFines a_t_keptTimes t_readMany t_length t_at t_faultAt t_year t_wordsNow t_mendChanges t_most t_above t_handing t_wants t_paperMany t_papers (0 : Int32) p1 t_year (0 : Int32) x5 x6 he7) gX9_whose_X9_whoseOf hd_X9_whoseOf rfl rfl rfl ⟨Nat.le_of_ble_eq_true rfl, Nat.le_of_ble_eq_true rfl⟩ ⟨Nat.le_of_ble_eq_true rfl, Nat.le_of_ble_eq_true rfl⟩ rfl rfl (Nat.le_of_ble_eq_true rfl) dX9_whose_15 hl.1 rfl (ci := 8) rfl (q0 := 0) rfl hP hK hD hS hA [0, 1, 2] [] [0, 1, 2] rfl rfl (by decide) (by decide) (by decide) (by decide) rfl (fun H locs hP hD hS => ?_)
    refine lv_goto (tgt := 22) hx hb dX9_whose_18 (by decide) ?_
    exact zz_iret x6 hx hb hr hlocks dX9_whose_22 (Option.some.inj h) hP hK hD hS
theorem hd_X9_words : yX9_words.cls ≠ "java/lang/invoke/MethodHandle" ∧ yX9_words.cls ≠ "java/lang/invoke/VarHandle" ∧ (parseMethodDescriptor yX9_words.desc).map (fun d => d.parameters.length) = some 1 := by decide +kernel
set_option maxRecDepth 20000 in
theorem in_X9_words_X9 : ∀ w ∈ u_ws RX9 TX9 28, w ∈ wsX9_words := by decide +kernel
set_option maxRecDepth 20000 in
theorem lk_X9_words_0 : Cond.fieldLink RX9 72 "TwoHousesOneChildModel" "year" "I" ∈ wsX9_words := by decide +kernel
set_option maxRecDepth 20000 in
theorem lk_X9_words_1 : Cond.fieldLink RX9 118 "TwoHousesOneChildModel" "wordsNow" "I" ∈ wsX9_words := by decide +kernel
set_option maxHeartbeats 4000000 in
set_option maxRecDepth 100000 in
theorem ct_X9_words (l : Launch) (dC : Nat → ClassId) (dI : Nat → Nat → Nat) (cI cJ cB cZ : ClassId) (a_t a_t_paperMany a_t_papers a_t_read a_t_text a_t_whose a_t_plan a_t_wantNight a_t_wantHouse a_t_wantWeight a_t_ahead a_t_best a_t_fines a_t_times a_t_isKept a_t_keptPlan a_t_keptFines a_t_keptTimes : Nat) (t_readMany : Int32) (t_length : Int32) (t_at : Int32) (t_faultAt : Int32) (t_year : Int32) (t_wordsNow : Int32) (t_mendChanges : Int32) (t_most : Int32) (t_above : Int32) (t_handing : Int32) (t_wants : Int32) (t_paperMany : (Nat → Int32)) (t_papers : (Nat → Int32)) (p1 : Int32) (rr : Int32) (o1 : Int32) (h : fn_X9_words t_year t_wordsNow t_paperMany t_papers p1 = some (rr, o1)) : zz_M l yX9_words wsX9_words ({ frames := 3, cells := 0, slots := 0, locals := 83 }) (dC, dI) (zz_T cI cJ cB cZ) [.ref a_t, .int p1] [(a_t, .inr (8, [.ref a_t_read, .int t_readMany, .ref a_t_papers, .ref a_t_paperMany, .ref a_t_text, .int t_length, .int t_at, .int t_faultAt, .int t_year, .int t_wordsNow, .ref a_t_whose, .int t_mendChanges, .ref a_t_plan, .int t_most, .int t_above, .int t_handing, .int t_wants, .ref a_t_wantNight, .ref a_t_wantHouse, .ref a_t_wantWeight, .ref a_t_ahead, .ref a_t_best, .ref a_t_fines, .ref a_t_times, .ref a_t_isKept, .ref a_t_keptPlan, .ref a_t_keptFines, .ref a_t_keptTimes])), (a_t_paperMany, .inl (cI, 3, .inl t_paperMany)), (a_t_papers, .inl (cI, 180, .inl t_papers))] (zz_QI (dC, dI) (zz_T cI cJ cB cZ) (rr, o1) (fun (u : Int32) => [(a_t, .inr (8, [.ref a_t_read, .int t_readMany, .ref a_t_papers, .ref a_t_paperMany, .ref a_t_text, .int t_length, .int t_at, .int t_faultAt, .int t_year, .int u, .ref a_t_whose, .int t_mendChanges, .ref a_t_plan, .int t_most, .int t_above, .int t_handing, .int t_wants, .ref a_t_wantNight, .ref a_t_wantHouse, .ref a_t_wantWeight, .ref a_t_ahead, .ref a_t_best, .ref a_t_fines, .ref a_t_times, .ref a_t_isKept, .ref a_t_keptPlan, .ref a_t_keptFines, .ref a_t_keptTimes])), (a_t_paperMany, .inl (cI, 3, .inl t_paperMany)), (a_t_papers, .inl (cI, 180, .inl t_papers))])) := by
  unfold fn_X9_words at h
  refine zz_of (by decide) rfl (Nat.le_of_ble_eq_true rfl) ?_
  intro p e s m below meth c A ls hx hb hr hml hts hown hlocks hA hS hP hK hD hl
  have hown : s.vm.findClass RX9 = some m.cls := hown
  have hl : lv_has ls 2 [(0, .ref a_t), (1, .int p1)] := hl
  refine lv_iload_n hx hb dX9_words_0 rfl (lv_at hl 1 rfl) ?_
  obtain ⟨x1, u2, he3, h⟩ := zz_b2E h
  refine zz_PI (As := [.int p1]) (rest := []) ⟨hx, hb, hml, hown, hts⟩ (ct_X9_isNight l dC dI cI cJ cB cZ p1 x1 u2 he3) gX9_words_X9_isNight hd_X9_isNight rfl rfl rfl ⟨Nat.le_of_ble_eq_true rfl, Nat.le_of_ble_eq_true rfl⟩ ⟨Nat.le_of_ble_eq_true rfl, Nat.le_of_ble_eq_true rfl⟩ rfl rfl (Nat.le_of_ble_eq_true rfl) dX9_words_1 hl.1 hP hK hS hA (fun H locs hP hS => ?_)
  refine lv_if_ne (tgt := 9) hx hb dX9_words_4 (by decide) (fun c4 => ?_) (fun c4 => ?_)
  · have h := zz_ifn c4 h
    refine lv_aload_n hx hb dX9_words_9 rfl (lv_at hl 0 rfl) ?_
    refine lv_iconst (v := 0) hx hb dX9_words_10 (by decide) ?_
    refine lv_iload_n hx hb dX9_words_11 rfl (lv_at hl 1 rfl) ?_
    refine lv_aload_n hx hb dX9_words_12 rfl (lv_at hl 0 rfl) ?_
    refine va_get (ci := 8) (v := .int t_year) (C := RX9) (T := TX9) (N := 28) hx hb hts in_X9_words_X9 hown hK hP 0 rfl rfl 8 (by decide) (hts _ lk_X9_words_0) (fun _ h9 => h9) rfl dX9_words_13 ?_
    refine lv_iconst (v := 0) hx hb dX9_words_16 (by decide) ?_
    obtain ⟨x5, x6, he7, h⟩ := zz_b2E h
    refine zz_VI (q := (RX9, TX9, 28)) (As := [.int 0, .int p1, .int t_year, .int 0]) (rest := []) (wr := []) (wm := [(a_t, .inr (8, [.ref a_t_read, .int t_readMany, .ref a_t_papers, .ref a_t_paperMany, .ref a_t_text, .int t_length, .int t_at, .int t_faultAt, .int t_year, .int x6, .ref a_t_whose, .int t_mendChanges, .ref a_t_plan, .int t_most, .int t_above, .int t_handing, .int t_wants, .ref a_t_wantNight, .ref a_t_wantHouse, .ref a_t_wantWeight, .ref a_t_ahead, .ref a_t_best, .ref a_t_fines, .ref a_t_times, .ref a_t_isKept, .ref a_t_keptPlan, .ref a_t_keptFines, .ref a_t_keptTimes])), (a_t_paperMany, .inl (cI, 3, .inl t_paperMany)), (a_t_papers, .inl (cI, 180, .inl t_papers))]) ⟨hx, hb, hml, hown, hts⟩ (ct_X9_whoseOf l dC dI cI cJ cB cZ a_t a_t_paperMany a_t_papers a_t_read a_t_text a_t_whose a_t_plan a_t_wantNight a_t_wantHouse a_t_wantWeight a_t_ahead a_t_best a_t_fines a_t_times a_t_isKept a_t_keptPlan a_t_keptFines a_t_keptTimes t_readMany t_length t_at t_faultAt t_year t_wordsNow t_mendChanges t_most t_above t_handing t_wants t_paperMany t_papers (0 : Int32) p1 t_year (0 : Int32) x5 x6 he7) gX9_words_X9_whoseOf hd_X9_whoseOf rfl rfl rfl ⟨Nat.le_of_ble_eq_true rfl, Nat.le_of_ble_eq_true rfl⟩ ⟨Nat.le_of_ble_eq_true rfl, Nat.le_of_ble_eq_true rfl⟩ rfl rfl (Nat.le_of_ble_eq_true rfl) dX9_words_17 hl.1 rfl (ci := 8) rfl (q0 := 0) rfl hP hK hD hS hA [0, 1, 2] [] [0, 1, 2] rfl rfl (by decide) (by decide) (by decide) (by decide) rfl (fun H locs hP hD hS => ?_)
    refine lv_pop hx hb dX9_words_20 rfl ?_
    refine lv_aload_n hx hb dX9_words_21 rfl (lv_at hl 0 rfl) ?_
    refine va_get (ci := 8) (v := .int x6) (C := RX9) (T := TX9) (N := 28) hx hb hts in_X9_words_X9 hown hK hP 0 rfl rfl 9 (by decide) (hts _ lk_X9_words_1) (fun _ h9 => h9) rfl dX9_words_22 ?_
    exact zz_iret x6 hx hb hr hlocks dX9_words_25 (Option.some.inj h) hP hK hD hS
  · have h := zz_if c4 h
    refine lv_iconst (v := (-1)) hx hb dX9_words_7 (by decide) ?_
    exact zz_iret t_wordsNow hx hb hr hlocks dX9_words_8 (Option.some.inj h) hP hK hD hS
theorem hd_X9_says : yX9_says.cls ≠ "java/lang/invoke/MethodHandle" ∧ yX9_says.cls ≠ "java/lang/invoke/VarHandle" ∧ (parseMethodDescriptor yX9_says.desc).map (fun d => d.parameters.length) = some 2 := by decide +kernel
set_option maxRecDepth 20000 in
theorem in_X9_says_X9 : ∀ w ∈ u_ws RX9 TX9 28, w ∈ wsX9_says := by decide +kernel
set_option maxRecDepth 20000 in
theorem lk_X9_says_0 : Cond.fieldLink RX9 16 "TwoHousesOneChildModel" "paperMany" "[I" ∈ wsX9_says := by decide +kernel
set_option maxRecDepth 20000 in
theorem lk_X9_says_1 : Cond.fieldLink RX9 72 "TwoHousesOneChildModel" "year" "I" ∈ wsX9_says := by decide +kernel
set_option maxHeartbeats 4000000 in
set_option maxRecDepth 100000 in
theorem ct_X9_says (l : Launch) (dC : Nat → ClassId) (dI : Nat → Nat → Nat) (cI cJ cB cZ : ClassId) (a_t a_t_paperMany a_t_papers a_t_read a_t_text a_t_whose a_t_plan a_t_wantNight a_t_wantHouse a_t_wantWeight a_t_ahead a_t_best a_t_fines a_t_times a_t_isKept a_t_keptPlan a_t_keptFines a_t_keptTimes : Nat) (t_readMany : Int32) (t_length : Int32) (t_at : Int32) (t_faultAt : Int32) (t_year : Int32) (t_wordsNow : Int32) (t_mendChanges : Int32) (t_most : Int32) (t_above : Int32) (t_handing : Int32) (t_wants : Int32) (t_paperMany : (Nat → Int32)) (t_papers : (Nat → Int32)) (p1 : Int32) (p2 : Int32) (rr : Int32) (u0 : Unit) (h : fn_X9_says t_year t_paperMany t_papers p1 p2 = some (rr, u0)) : zz_M l yX9_says wsX9_says ({ frames := 2, cells := 0, slots := 0, locals := 54 }) (dC, dI) (zz_T cI cJ cB cZ) [.ref a_t, .int p1, .int p2] [(a_t, .inr (8, [.ref a_t_read, .int t_readMany, .ref a_t_papers, .ref a_t_paperMany, .ref a_t_text, .int t_length, .int t_at, .int t_faultAt, .int t_year, .int t_wordsNow, .ref a_t_whose, .int t_mendChanges, .ref a_t_plan, .int t_most, .int t_above, .int t_handing, .int t_wants, .ref a_t_wantNight, .ref a_t_wantHouse, .ref a_t_wantWeight, .ref a_t_ahead, .ref a_t_best, .ref a_t_fines, .ref a_t_times, .ref a_t_isKept, .ref a_t_keptPlan, .ref a_t_keptFines, .ref a_t_keptTimes])), (a_t_paperMany, .inl (cI, 3, .inl t_paperMany)), (a_t_papers, .inl (cI, 180, .inl t_papers))] (zz_QI (dC, dI) (zz_T cI cJ cB cZ) (rr, u0) (fun (u : Unit) => [(a_t, .inr (8, [.ref a_t_read, .int t_readMany, .ref a_t_papers, .ref a_t_paperMany, .ref a_t_text, .int t_length, .int t_at, .int t_faultAt, .int t_year, .int t_wordsNow, .ref a_t_whose, .int t_mendChanges, .ref a_t_plan, .int t_most, .int t_above, .int t_handing, .int t_wants, .ref a_t_wantNight, .ref a_t_wantHouse, .ref a_t_wantWeight, .ref a_t_ahead, .ref a_t_best, .ref a_t_fines, .ref a_t_times, .ref a_t_isKept, .ref a_t_keptPlan, .ref a_t_keptFines, .ref a_t_keptTimes])), (a_t_paperMany, .inl (cI, 3, .inl t_paperMany)), (a_t_papers, .inl (cI, 180, .inl t_papers))])) := by
  unfold fn_X9_says at h
  refine zz_of (by decide) rfl (Nat.le_of_ble_eq_true rfl) ?_
  intro p e s m below meth c A ls hx hb hr hml hts hown hlocks hA hS hP hK hD hl
  have hown : s.vm.findClass RX9 = some m.cls := hown
  have hl : lv_has ls 3 [(0, .ref a_t), (1, .int p1), (2, .int p2)] := hl
  refine lv_iload_n hx hb dX9_says_0 rfl (lv_at hl 1 rfl) ?_
  refine lv_i2l (v := p1.toInt64) hx hb dX9_says_1 rfl ?_
  refine lv_lconst (v := 0) hx hb dX9_says_2 (by decide) ?_
  refine lv_aload_n hx hb dX9_says_3 rfl (lv_at hl 0 rfl) ?_
  refine va_get (ci := 8) (v := .ref a_t_paperMany) (C := RX9) (T := TX9) (N := 28) hx hb hts in_X9_says_X9 hown hK hP 0 rfl rfl 3 (by decide) (hts _ lk_X9_says_0) (fun _ h9 => h9) rfl dX9_says_4 ?_
  refine lv_iconst (v := 0) hx hb dX9_says_7 (by decide) ?_
  obtain ⟨hi1, h⟩ := zz_chkE h
  refine va_iald hx hb hK hP 1 0 rfl rfl hi1 dX9_says_8 ?_
  refine lv_iconst (v := 1) hx hb dX9_says_9 (by decide) ?_
  refine lv_isub hx hb dX9_says_10 ?_
  refine lv_i2l (v := ((t_paperMany (0 : Int32).toNatClampNeg) - 1).toInt64) hx hb dX9_says_11 rfl ?_
  obtain ⟨x2, u3, he4, h⟩ := zz_b2E h
  refine zz_PI (As := [.long p1.toInt64, .long 0, .long (((t_paperMany (0 : Int32).toNatClampNeg) - 1).toInt64)]) (rest := []) ⟨hx, hb, hml, hown, hts⟩ (ct_X9_in l dC dI cI cJ cB cZ p1.toInt64 (0 : Int64) (((t_paperMany (0 : Int32).toNatClampNeg) - 1).toInt64) x2 u3 he4) gX9_says_X9_in hd_X9_in rfl rfl rfl ⟨Nat.le_of_ble_eq_true rfl, Nat.le_of_ble_eq_true rfl⟩ ⟨Nat.le_of_ble_eq_true rfl, Nat.le_of_ble_eq_true rfl⟩ rfl rfl (Nat.le_of_ble_eq_true rfl) dX9_says_12 hl.1 hP hK hS hA (fun H locs hP hS => ?_)
  refine lv_if_eq (tgt := 39) hx hb dX9_says_15 (by decide) (fun c5 => ?_) (fun c5 => ?_)
  · have h := zz_if c5 h
    refine lv_iconst (v := (-1)) hx hb dX9_says_39 (by decide) ?_
    exact zz_iret () hx hb hr hlocks dX9_says_40 (Option.some.inj h) hP hK hD hS
  · have h := zz_ifn c5 h
    refine lv_iload_n hx hb dX9_says_18 rfl (lv_at hl 2 rfl) ?_
    obtain ⟨x6, u7, he8, h⟩ := zz_b2E h
    refine zz_PI (As := [.int p2]) (rest := []) ⟨hx, hb, hml, hown, hts⟩ (ct_X9_isNight l dC dI cI cJ cB cZ p2 x6 u7 he8) gX9_says_X9_isNight hd_X9_isNight rfl rfl rfl ⟨Nat.le_of_ble_eq_true rfl, Nat.le_of_ble_eq_true rfl⟩ ⟨Nat.le_of_ble_eq_true rfl, Nat.le_of_ble_eq_true rfl⟩ rfl rfl (Nat.le_of_ble_eq_true rfl) dX9_says_19 hl.1 hP hK hS hA (fun H locs hP hS => ?_)
    refine lv_if_eq (tgt := 39) hx hb dX9_says_22 (by decide) (fun c9 => ?_) (fun c9 => ?_)
    · have h := zz_if c9 h
      refine lv_iconst (v := (-1)) hx hb dX9_says_39 (by decide) ?_
      exact zz_iret () hx hb hr hlocks dX9_says_40 (Option.some.inj h) hP hK hD hS
    · have h := zz_ifn c9 h
      refine lv_aload_n hx hb dX9_says_25 rfl (lv_at hl 0 rfl) ?_
      refine lv_iconst (v := 0) hx hb dX9_says_26 (by decide) ?_
      refine lv_iload_n hx hb dX9_says_27 rfl (lv_at hl 1 rfl) ?_
      refine lv_iload_n hx hb dX9_says_28 rfl (lv_at hl 2 rfl) ?_
      refine lv_aload_n hx hb dX9_says_29 rfl (lv_at hl 0 rfl) ?_
      refine va_get (ci := 8) (v := .int t_year) (C := RX9) (T := TX9) (N := 28) hx hb hts in_X9_says_X9 hown hK hP 0 rfl rfl 8 (by decide) (hts _ lk_X9_says_1) (fun _ h9 => h9) rfl dX9_says_30 ?_
      obtain ⟨x10, u11, he12, h⟩ := zz_b2E h
      refine zz_VI (q := (RX9, TX9, 28)) (As := [.int 0, .int p1, .int p2, .int t_year]) (rest := []) (wr := [(a_t_paperMany, .inl (cI, 3, .inl t_paperMany))]) (wm := [(a_t, .inr (8, [.ref a_t_read, .int t_readMany, .ref a_t_papers, .ref a_t_paperMany, .ref a_t_text, .int t_length, .int t_at, .int t_faultAt, .int t_year, .int t_wordsNow, .ref a_t_whose, .int t_mendChanges, .ref a_t_plan, .int t_most, .int t_above, .int t_handing, .int t_wants, .ref a_t_wantNight, .ref a_t_wantHouse, .ref a_t_wantWeight, .ref a_t_ahead, .ref a_t_best, .ref a_t_fines, .ref a_t_times, .ref a_t_isKept, .ref a_t_keptPlan, .ref a_t_keptFines, .ref a_t_keptTimes])), (a_t_paperMany, .inl (cI, 3, .inl t_paperMany)), (a_t_papers, .inl (cI, 180, .inl t_papers))]) ⟨hx, hb, hml, hown, hts⟩ (ct_X9_saysOf l dC dI cI cJ cB cZ a_t a_t_papers a_t_read a_t_paperMany a_t_text a_t_whose a_t_plan a_t_wantNight a_t_wantHouse a_t_wantWeight a_t_ahead a_t_best a_t_fines a_t_times a_t_isKept a_t_keptPlan a_t_keptFines a_t_keptTimes t_readMany t_length t_at t_faultAt t_year t_wordsNow t_mendChanges t_most t_above t_handing t_wants t_papers (0 : Int32) p1 p2 t_year x10 u11 he12) gX9_says_X9_saysOf hd_X9_saysOf rfl rfl rfl ⟨Nat.le_of_ble_eq_true rfl, Nat.le_of_ble_eq_true rfl⟩ ⟨Nat.le_of_ble_eq_true rfl, Nat.le_of_ble_eq_true rfl⟩ rfl rfl (Nat.le_of_ble_eq_true rfl) dX9_says_33 hl.1 rfl (ci := 8) rfl (q0 := 0) rfl hP hK hD hS hA [0, 2] [1] [1, 0, 2] rfl rfl (by decide) (by decide) (by decide) (by decide) rfl (fun H locs hP hD hS => ?_)
      refine lv_goto (tgt := 40) hx hb dX9_says_36 (by decide) ?_
      exact zz_iret () hx hb hr hlocks dX9_says_40 (Option.some.inj h) hP hK hD hS
theorem hd_X9_nights : yX9_nights.cls ≠ "java/lang/invoke/MethodHandle" ∧ yX9_nights.cls ≠ "java/lang/invoke/VarHandle" ∧ (parseMethodDescriptor yX9_nights.desc).map (fun d => d.parameters.length) = some 1 := by decide +kernel
set_option maxRecDepth 20000 in
theorem in_X9_nights_X9 : ∀ w ∈ u_ws RX9 TX9 28, w ∈ wsX9_nights := by decide +kernel
set_option maxRecDepth 20000 in
theorem lk_X9_nights_0 : Cond.constantLong RX9 132 (3) ∈ wsX9_nights := by decide +kernel
set_option maxRecDepth 20000 in
theorem lk_X9_nights_1 : Cond.fieldLink RX9 22 "TwoHousesOneChildModel" "whose" "[I" ∈ wsX9_nights := by decide +kernel
set_option maxHeartbeats 4000000 in
set_option maxRecDepth 100000 in
theorem ct_X9_nights (l : Launch) (dC : Nat → ClassId) (dI : Nat → Nat → Nat) (cI cJ cB cZ : ClassId) (a_t a_t_paperMany a_t_papers a_t_whose a_t_read a_t_text a_t_plan a_t_wantNight a_t_wantHouse a_t_wantWeight a_t_ahead a_t_best a_t_fines a_t_times a_t_isKept a_t_keptPlan a_t_keptFines a_t_keptTimes : Nat) (t_readMany : Int32) (t_length : Int32) (t_at : Int32) (t_faultAt : Int32) (t_year : Int32) (t_wordsNow : Int32) (t_mendChanges : Int32) (t_most : Int32) (t_above : Int32) (t_handing : Int32) (t_wants : Int32) (t_paperMany : (Nat → Int32)) (t_papers : (Nat → Int32)) (t_whose : (Nat → Int32)) (p1 : Int32) (rr : Int32) (o1 : Int32) (o2 : (Nat → Int32)) (h : fn_X9_nights t_year t_wordsNow t_paperMany t_papers t_whose p1 = some (rr, o1, o2)) : zz_M l yX9_nights wsX9_nights ({ frames := 4, cells := 0, slots := 0, locals := 104 }) (dC, dI) (zz_T cI cJ cB cZ) [.ref a_t, .int p1] [(a_t, .inr (8, [.ref a_t_read, .int t_readMany, .ref a_t_papers, .ref a_t_paperMany, .ref a_t_text, .int t_length, .int t_at, .int t_faultAt, .int t_year, .int t_wordsNow, .ref a_t_whose, .int t_mendChanges, .ref a_t_plan, .int t_most, .int t_above, .int t_handing, .int t_wants, .ref a_t_wantNight, .ref a_t_wantHouse, .ref a_t_wantWeight, .ref a_t_ahead, .ref a_t_best, .ref a_t_fines, .ref a_t_times, .ref a_t_isKept, .ref a_t_keptPlan, .ref a_t_keptFines, .ref a_t_keptTimes])), (a_t_paperMany, .inl (cI, 3, .inl t_paperMany)), (a_t_papers, .inl (cI, 180, .inl t_papers)), (a_t_whose, .inl (cI, 56, .inl t_whose))] (zz_QI (dC, dI) (zz_T cI cJ cB cZ) (rr, o1, o2) (fun (u : Int32 × (Nat → Int32)) => [(a_t, .inr (8, [.ref a_t_read, .int t_readMany, .ref a_t_papers, .ref a_t_paperMany, .ref a_t_text, .int t_length, .int t_at, .int t_faultAt, .int t_year, .int u.1, .ref a_t_whose, .int t_mendChanges, .ref a_t_plan, .int t_most, .int t_above, .int t_handing, .int t_wants, .ref a_t_wantNight, .ref a_t_wantHouse, .ref a_t_wantWeight, .ref a_t_ahead, .ref a_t_best, .ref a_t_fines, .ref a_t_times, .ref a_t_isKept, .ref a_t_keptPlan, .ref a_t_keptFines, .ref a_t_keptTimes])), (a_t_paperMany, .inl (cI, 3, .inl t_paperMany)), (a_t_papers, .inl (cI, 180, .inl t_papers)), (a_t_whose, .inl (cI, 56, .inl u.2))])) := by
  unfold fn_X9_nights at h
  refine zz_of (by decide) rfl (Nat.le_of_ble_eq_true rfl) ?_
  intro p e s m below meth c A ls hx hb hr hml hts hown hlocks hA hS hP hK hD hl
  have hown : s.vm.findClass RX9 = some m.cls := hown
  have hl : lv_has ls 4 [(0, .ref a_t), (1, .int p1)] := hl
  refine lv_iload_n hx hb dX9_nights_0 rfl (lv_at hl 1 rfl) ?_
  refine lv_i2l (v := p1.toInt64) hx hb dX9_nights_1 rfl ?_
  refine lv_lconst (v := 0) hx hb dX9_nights_2 (by decide) ?_
  refine lv_ldc2 (v := 3) hx hb hown (hts _ lk_X9_nights_0) dX9_nights_3 ?_
  obtain ⟨x1, u2, he3, h⟩ := zz_b2E h
  refine zz_PI (As := [.long p1.toInt64, .long 0, .long 3]) (rest := []) ⟨hx, hb, hml, hown, hts⟩ (ct_X9_in l dC dI cI cJ cB cZ p1.toInt64 (0 : Int64) (3 : Int64) x1 u2 he3) gX9_nights_X9_in hd_X9_in rfl rfl rfl ⟨Nat.le_of_ble_eq_true rfl, Nat.le_of_ble_eq_true rfl⟩ ⟨Nat.le_of_ble_eq_true rfl, Nat.le_of_ble_eq_true rfl⟩ rfl rfl (Nat.le_of_ble_eq_true rfl) dX9_nights_6 hl.1 hP hK hS hA (fun H locs hP hS => ?_)
  refine lv_if_ne (tgt := 15) hx hb dX9_nights_9 (by decide) (fun c4 => ?_) (fun c4 => ?_)
  · have h := zz_ifn c4 h
    refine lv_aload_n hx hb dX9_nights_15 rfl (lv_at hl 0 rfl) ?_
    obtain ⟨x5, g6, he7, h⟩ := zz_b2E h
    refine zz_VV (q := (RX9, TX9, 28)) (As := []) (rest := []) (wr := []) (wm := [(a_t, .inr (8, [.ref a_t_read, .int t_readMany, .ref a_t_papers, .ref a_t_paperMany, .ref a_t_text, .int t_length, .int t_at, .int t_faultAt, .int t_year, .int x5, .ref a_t_whose, .int t_mendChanges, .ref a_t_plan, .int t_most, .int t_above, .int t_handing, .int t_wants, .ref a_t_wantNight, .ref a_t_wantHouse, .ref a_t_wantWeight, .ref a_t_ahead, .ref a_t_best, .ref a_t_fines, .ref a_t_times, .ref a_t_isKept, .ref a_t_keptPlan, .ref a_t_keptFines, .ref a_t_keptTimes])), (a_t_paperMany, .inl (cI, 3, .inl t_paperMany)), (a_t_papers, .inl (cI, 180, .inl t_papers)), (a_t_whose, .inl (cI, 56, .inl g6))]) ⟨hx, hb, hml, hown, hts⟩ (ct_X9_layWhose l dC dI cI cJ cB cZ a_t a_t_paperMany a_t_papers a_t_whose a_t_read a_t_text a_t_plan a_t_wantNight a_t_wantHouse a_t_wantWeight a_t_ahead a_t_best a_t_fines a_t_times a_t_isKept a_t_keptPlan a_t_keptFines a_t_keptTimes t_readMany t_length t_at t_faultAt t_year t_wordsNow t_mendChanges t_most t_above t_handing t_wants t_paperMany t_papers t_whose x5 g6 he7) gX9_nights_X9_layWhose hd_X9_layWhose rfl rfl rfl ⟨Nat.le_of_ble_eq_true rfl, Nat.le_of_ble_eq_true rfl⟩ ⟨Nat.le_of_ble_eq_true rfl, Nat.le_of_ble_eq_true rfl⟩ rfl rfl (Nat.le_of_ble_eq_true rfl) dX9_nights_16 hl.1 rfl (ci := 8) rfl (q0 := 0) rfl hP hK hD hS hA [0, 1, 2, 3] [] [0, 1, 2, 3] rfl rfl (by decide) (by decide) (by decide) (by decide) rfl (fun H locs hP hD hS => ?_)
    refine lv_iconst (v := 0) hx hb dX9_nights_19 (by decide) ?_
    refine lv_istore_n (lv' := [(2, .int 0), (0, .ref a_t), (1, .int p1)]) hx hb dX9_nights_20 rfl hl (by decide) rfl (fun ls hl => ?_)
    refine lv_iconst (v := 0) hx hb dX9_nights_21 (by decide) ?_
    refine lv_istore_n (lv' := [(3, .int 0), (2, .int 0), (0, .ref a_t), (1, .int p1)]) hx hb dX9_nights_22 rfl hl (by decide) rfl (fun ls hl => ?_)
    obtain ⟨x24, hit23, h⟩ := zz_b1E h
    refine zz_cut (fun V => ∀ (H : Heap) (locs : List Loc) (ls : Array Slot), va_P (dC, dI) vwCl [(a_t, .inr (8, [.ref a_t_read, .int t_readMany, .ref a_t_papers, .ref a_t_paperMany, .ref a_t_text, .int t_length, .int t_at, .int t_faultAt, .int t_year, .int x5, .ref a_t_whose, .int t_mendChanges, .ref a_t_plan, .int t_most, .int t_above, .int t_handing, .int t_wants, .ref a_t_wantNight, .ref a_t_wantHouse, .ref a_t_wantWeight, .ref a_t_ahead, .ref a_t_best, .ref a_t_fines, .ref a_t_times, .ref a_t_isKept, .ref a_t_keptPlan, .ref a_t_keptFines, .ref a_t_keptTimes])), (a_t_paperMany, .inl (cI, 3, .inl t_paperMany)), (a_t_papers, .inl (cI, 180, .inl t_papers)), (a_t_whose, .inl (cI, 56, .inl g6))] H → va_D A [(a_t, .inr (8, [.ref a_t_read, .int t_readMany, .ref a_t_papers, .ref a_t_paperMany, .ref a_t_text, .int t_length, .int t_at, .int t_faultAt, .int t_year, .int x5, .ref a_t_whose, .int t_mendChanges, .ref a_t_plan, .int t_most, .int t_above, .int t_handing, .int t_wants, .ref a_t_wantNight, .ref a_t_wantHouse, .ref a_t_wantWeight, .ref a_t_ahead, .ref a_t_best, .ref a_t_fines, .ref a_t_times, .ref a_t_isKept, .ref a_t_keptPlan, .ref a_t_keptFines, .ref a_t_keptTimes])), (a_t_paperMany, .inl (cI, 3, .inl t_paperMany)), (a_t_papers, .inl (cI, 180, .inl t_papers)), (a_t_whose, .inl (cI, 56, .inl g6))] → va_S A s.heap H locs → lv_has ls 4 [(2, .int x24)] → V H locs (F0 m 53 ls [])) ?_ (fun hE23 => ?_)
    · intro H locs ls hP hD hS hl
      refine lv_iload_n hx hb dX9_nights_53 rfl (lv_at hl 0 rfl) ?_
      exact zz_iret (x5, g6) hx hb hr hlocks dX9_nights_54 (Option.some.inj h) hP hK hD hS
    refine zz_cut (fun V => ∀ (n : Nat) (x22 : Int32) (x23 : Int32) (H : Heap) (locs : List Loc) (ls : Array Slot), zz_it (fun z => fb_X9_nights_23 p1 g6 z.1 z.2) n (x22, x23) = some x24 → va_P (dC, dI) vwCl [(a_t, .inr (8, [.ref a_t_read, .int t_readMany, .ref a_t_papers, .ref a_t_paperMany, .ref a_t_text, .int t_length, .int t_at, .int t_faultAt, .int t_year, .int x5, .ref a_t_whose, .int t_mendChanges, .ref a_t_plan, .int t_most, .int t_above, .int t_handing, .int t_wants, .ref a_t_wantNight, .ref a_t_wantHouse, .ref a_t_wantWeight, .ref a_t_ahead, .ref a_t_best, .ref a_t_fines, .ref a_t_times, .ref a_t_isKept, .ref a_t_keptPlan, .ref a_t_keptFines, .ref a_t_keptTimes])), (a_t_paperMany, .inl (cI, 3, .inl t_paperMany)), (a_t_papers, .inl (cI, 180, .inl t_papers)), (a_t_whose, .inl (cI, 56, .inl g6))] H → va_D A [(a_t, .inr (8, [.ref a_t_read, .int t_readMany, .ref a_t_papers, .ref a_t_paperMany, .ref a_t_text, .int t_length, .int t_at, .int t_faultAt, .int t_year, .int x5, .ref a_t_whose, .int t_mendChanges, .ref a_t_plan, .int t_most, .int t_above, .int t_handing, .int t_wants, .ref a_t_wantNight, .ref a_t_wantHouse, .ref a_t_wantWeight, .ref a_t_ahead, .ref a_t_best, .ref a_t_fines, .ref a_t_times, .ref a_t_isKept, .ref a_t_keptPlan, .ref a_t_keptFines, .ref a_t_keptTimes])), (a_t_paperMany, .inl (cI, 3, .inl t_paperMany)), (a_t_papers, .inl (cI, 180, .inl t_papers)), (a_t_whose, .inl (cI, 56, .inl g6))] → va_S A s.heap H locs → lv_has ls 4 [(0, .ref a_t), (1, .int p1), (2, .int x22), (3, .int x23)] → V H locs (F0 m 23 ls [])) ?_ (fun hL23 => ?_)
    · intro n
      induction n with
      | zero => intro x22 x23 H locs ls hit23; exact (zz_it0 hit23).elim
      | succ n ih23 =>
        intro x22 x23 H locs ls hit23 hP hD hS hl
        obtain ⟨y23, hb23, hy23⟩ := zz_itE hit23
        have hb23 : fb_X9_nights_23 p1 g6 x22 x23 = some y23 := hb23
        unfold fb_X9_nights_23 at hb23
        refine lv_iload_n hx hb dX9_nights_23 rfl (lv_at hl 3 rfl) ?_
        refine lv_bipush (v := 56) hx hb dX9_nights_24 (by decide) ?_
        refine lv_icmp_ge (tgt := 53) hx hb dX9_nights_26 (by decide) (fun c25 => ?_) (fun c25 => ?_)
        · have hb23 := zz_if c25 hb23
          obtain rfl := Option.some.inj hb23
          have hy23 := Option.some.inj hy23
          cases hy23
          exact hE23 _ _ ls hP hD hS (lv_sub hl [2] rfl)
        · have hb23 := zz_ifn c25 hb23
          refine lv_iload_n hx hb dX9_nights_29 rfl (lv_at hl 2 rfl) ?_
          refine lv_aload_n hx hb dX9_nights_30 rfl (lv_at hl 0 rfl) ?_
          refine va_get (ci := 8) (v := .ref a_t_whose) (C := RX9) (T := TX9) (N := 28) hx hb hts in_X9_nights_X9 hown hK hP 0 rfl rfl 10 (by decide) (hts _ lk_X9_nights_1) (fun _ h9 => h9) rfl dX9_nights_31 ?_
          refine lv_iload_n hx hb dX9_nights_34 rfl (lv_at hl 3 rfl) ?_
          obtain ⟨hi26, hb23⟩ := zz_chkE hb23
          refine va_iald hx hb hK hP 3 0 rfl rfl hi26 dX9_nights_35 ?_
          refine lv_iload_n hx hb dX9_nights_36 rfl (lv_at hl 1 rfl) ?_
          refine lv_icmp_ne (tgt := 44) hx hb dX9_nights_37 (by decide) (fun c27 => ?_) (fun c27 => ?_)
          · have hb23 := zz_ifn c27 hb23
            refine lv_iconst (v := 0) hx hb dX9_nights_44 (by decide) ?_
            refine lv_iadd hx hb dX9_nights_45 ?_
            refine lv_topi (fun x28 ex28 => ?_)
            have hb23 := zz_nmE ex28 hb23
            refine lv_istore_n (lv' := [(2, .int x28), (0, .ref a_t), (1, .int p1), (3, .int x23)]) hx hb dX9_nights_46 rfl hl (by decide) rfl (fun ls hl => ?_)
            obtain ⟨x29, ex29⟩ : ∃ z : Int32, z = x23 + 1 := ⟨_, rfl⟩
            have hb23 := zz_nmE ex29 hb23
            refine lv_iinc (v := x29) (lv' := [(3, .int x29), (2, .int x28), (0, .ref a_t), (1, .int p1)]) hx hb dX9_nights_47 hl (k := 3) rfl (by rw [ex29]; rfl) (by decide) rfl (fun ls hl => ?_)
            refine lv_goto (tgt := 23) hx hb dX9_nights_50 (by decide) ?_
            obtain rfl := Option.some.inj hb23
            exact ih23 x28 x29 _ _ ls hy23 hP hD hS (lv_sub hl [2, 3, 1, 0] rfl)
          · have hb23 := zz_if c27 hb23
            refine lv_iconst (v := 1) hx hb dX9_nights_40 (by decide) ?_
            refine lv_goto (tgt := 45) hx hb dX9_nights_41 (by decide) ?_
            refine lv_iadd hx hb dX9_nights_45 ?_
            refine lv_topi (fun x30 ex30 => ?_)
            have hb23 := zz_nmE ex30 hb23
            refine lv_istore_n (lv' := [(2, .int x30), (0, .ref a_t), (1, .int p1), (3, .int x23)]) hx hb dX9_nights_46 rfl hl (by decide) rfl (fun ls hl => ?_)
            obtain ⟨x31, ex31⟩ : ∃ z : Int32, z = x23 + 1 := ⟨_, rfl⟩
            have hb23 := zz_nmE ex31 hb23
            refine lv_iinc (v := x31) (lv' := [(3, .int x31), (2, .int x30), (0, .ref a_t), (1, .int p1)]) hx hb dX9_nights_47 hl (k := 3) rfl (by rw [ex31]; rfl) (by decide) rfl (fun ls hl => ?_)
            refine lv_goto (tgt := 23) hx hb dX9_nights_50 (by decide) ?_
            obtain rfl := Option.some.inj hb23
            exact ih23 x30 x31 _ _ ls hy23 hP hD hS (lv_sub hl [2, 3, 1, 0] rfl)
    exact hL23 zz_fuel 0 0 _ _ ls hit23 hP hD hS (lv_sub hl [2, 3, 1, 0] rfl)
  · have h := zz_if c4 h
    refine lv_bipush (v := (-2)) hx hb dX9_nights_12 (by decide) ?_
    exact zz_iret (t_wordsNow, t_whose) hx hb hr hlocks dX9_nights_14 (Option.some.inj h) hP hK hD hS
