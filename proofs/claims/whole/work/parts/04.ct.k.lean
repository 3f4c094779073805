theorem hd_X9_unwant : yX9_unwant.cls ≠ "java/lang/invoke/MethodHandle" ∧ yX9_unwant.cls ≠ "java/lang/invoke/VarHandle" ∧ (parseMethodDescriptor yX9_unwant.desc).map (fun d => d.parameters.length) = some 0 := by decide +kernel
set_option maxRecDepth 20000 in
theorem in_X9_unwant_X9 : ∀ w ∈ u_ws RX9 TX9 28, w ∈ wsX9_unwant := by decide +kernel
set_option maxRecDepth 20000 in
theorem lk_X9_unwant_0 : Cond.fieldLink RX9 153 "TwoHousesOneChildModel" "wants" "I" ∈ wsX9_unwant := by decide +kernel
set_option maxHeartbeats 4000000 in
set_option maxRecDepth 100000 in
theorem ct_X9_unwant (l : Launch) (dC : Nat → ClassId) (dI : Nat → Nat → Nat) (cI cJ cB cZ : ClassId) (a_t a_t_read a_t_papers a_t_paperMany a_t_text a_t_whose a_t_plan a_t_wantNight a_t_wantHouse a_t_wantWeight a_t_ahead a_t_best a_t_fines a_t_times a_t_isKept a_t_keptPlan a_t_keptFines a_t_keptTimes : Nat) (t_readMany : Int32) (t_length : Int32) (t_at : Int32) (t_faultAt : Int32) (t_year : Int32) (t_wordsNow : Int32) (t_mendChanges : Int32) (t_most : Int32) (t_above : Int32) (t_handing : Int32) (t_wants : Int32) (rr : Int32) (o1 : Int32) (h : fn_X9_unwant t_wants = some (rr, o1)) : zz_M l yX9_unwant wsX9_unwant ({ frames := 0, cells := 0, slots := 0, locals := 0 }) (dC, dI) (zz_T cI cJ cB cZ) [.ref a_t] [(a_t, .inr (8, [.ref a_t_read, .int t_readMany, .ref a_t_papers, .ref a_t_paperMany, .ref a_t_text, .int t_length, .int t_at, .int t_faultAt, .int t_year, .int t_wordsNow, .ref a_t_whose, .int t_mendChanges, .ref a_t_plan, .int t_most, .int t_above, .int t_handing, .int t_wants, .ref a_t_wantNight, .ref a_t_wantHouse, .ref a_t_wantWeight, .ref a_t_ahead, .ref a_t_best, .ref a_t_fines, .ref a_t_times, .ref a_t_isKept, .ref a_t_keptPlan, .ref a_t_keptFines, .ref a_t_keptTimes]))] (zz_QI (dC, dI) (zz_T cI cJ cB cZ) (rr, o1) (fun (u : Int32) => [(a_t, .inr (8, [.ref a_t_read, .int t_readMany, .ref a_t_papers, .ref a_t_paperMany, .ref a_t_text, .int t_length, .int t_at, .int t_faultAt, .int t_year, .int t_wordsNow, .ref a_t_whose, .int t_mendChanges, .ref a_t_plan, .int t_most, .int t_above, .int t_handing, .int u, .ref a_t_wantNight, .ref a_t_wantHouse, .ref a_t_wantWeight, .ref a_t_ahead, .ref a_t_best, .ref a_t_fines, .ref a_t_times, .ref a_t_isKept, .ref a_t_keptPlan, .ref a_t_keptFines, .ref a_t_keptTimes]))])) := by
  unfold fn_X9_unwant at h
  refine zz_of (by decide) rfl (Nat.le_of_ble_eq_true rfl) ?_
  intro p e s m below meth c A ls hx hb hr hml hts hown hlocks hA hS hP hK hD hl
  have hown : s.vm.findClass RX9 = some m.cls := hown
  have hl : lv_has ls 2 [(0, .ref a_t)] := hl
  refine lv_aload_n hx hb dX9_unwant_0 rfl (lv_at hl 0 rfl) ?_
  refine va_get (ci := 8) (v := .int t_wants) (C := RX9) (T := TX9) (N := 28) hx hb hts in_X9_unwant_X9 hown hK hP 0 rfl rfl 16 (by decide) (hts _ lk_X9_unwant_0) (fun _ h9 => h9) rfl dX9_unwant_1 ?_
  refine lv_istore_n (lv' := [(1, .int t_wants), (0, .ref a_t)]) hx hb dX9_unwant_4 rfl hl (by decide) rfl (fun ls hl => ?_)
  refine lv_aload_n hx hb dX9_unwant_5 rfl (lv_at hl 1 rfl) ?_
  refine lv_iconst (v := 0) hx hb dX9_unwant_6 (by decide) ?_
  refine va_put (ci := 8) (v := .int 0) (ty := .int) (C := RX9) (T := TX9) (N := 28) hx hb hts in_X9_unwant_X9 tyX9 tyX9_ok nmX9 hown hK hP hD hS 0 rfl rfl 16 (by decide) (hts _ lk_X9_unwant_0) (fun _ h9 => h9) rfl (by decide +kernel) rfl rfl (Nat.le_of_ble_eq_true rfl) dX9_unwant_7 (fun H locs hP hD hS => ?_)
  have hP : va_P (dC, dI) vwCl [(a_t, .inr (8, [.ref a_t_read, .int t_readMany, .ref a_t_papers, .ref a_t_paperMany, .ref a_t_text, .int t_length, .int t_at, .int t_faultAt, .int t_year, .int t_wordsNow, .ref a_t_whose, .int t_mendChanges, .ref a_t_plan, .int t_most, .int t_above, .int t_handing, .int 0, .ref a_t_wantNight, .ref a_t_wantHouse, .ref a_t_wantWeight, .ref a_t_ahead, .ref a_t_best, .ref a_t_fines, .ref a_t_times, .ref a_t_isKept, .ref a_t_keptPlan, .ref a_t_keptFines, .ref a_t_keptTimes]))] H := hP
  have hD : va_D A [(a_t, .inr (8, [.ref a_t_read, .int t_readMany, .ref a_t_papers, .ref a_t_paperMany, .ref a_t_text, .int t_length, .int t_at, .int t_faultAt, .int t_year, .int t_wordsNow, .ref a_t_whose, .int t_mendChanges, .ref a_t_plan, .int t_most, .int t_above, .int t_handing, .int 0, .ref a_t_wantNight, .ref a_t_wantHouse, .ref a_t_wantWeight, .ref a_t_ahead, .ref a_t_best, .ref a_t_fines, .ref a_t_times, .ref a_t_isKept, .ref a_t_keptPlan, .ref a_t_keptFines, .ref a_t_keptTimes]))] := hD
  refine lv_iload_n hx hb dX9_unwant_10 rfl (lv_at hl 0 rfl) ?_
  exact zz_iret 0 hx hb hr hlocks dX9_unwant_11 (Option.some.inj h) hP hK hD hS
theorem hd_X9_unwanted : yX9_unwanted.cls ≠ "java/lang/invoke/MethodHandle" ∧ yX9_unwanted.cls ≠ "java/lang/invoke/VarHandle" ∧ (parseMethodDescriptor yX9_unwanted.desc).map (fun d => d.parameters.length) = some 2 := by decide +kernel
set_option maxRecDepth 20000 in
theorem in_X9_unwanted_X9 : ∀ w ∈ u_ws RX9 TX9 28, w ∈ wsX9_unwanted := by decide +kernel
set_option maxRecDepth 20000 in
theorem lk_X9_unwanted_0 : Cond.fieldLink RX9 153 "TwoHousesOneChildModel" "wants" "I" ∈ wsX9_unwanted := by decide +kernel
set_option maxRecDepth 20000 in
theorem lk_X9_unwanted_1 : Cond.fieldLink RX9 28 "TwoHousesOneChildModel" "wantNight" "[I" ∈ wsX9_unwanted := by decide +kernel
set_option maxRecDepth 20000 in
theorem lk_X9_unwanted_2 : Cond.fieldLink RX9 31 "TwoHousesOneChildModel" "wantHouse" "[I" ∈ wsX9_unwanted := by decide +kernel
set_option maxRecDepth 20000 in
theorem lk_X9_unwanted_3 : Cond.fieldLink RX9 34 "TwoHousesOneChildModel" "wantWeight" "[I" ∈ wsX9_unwanted := by decide +kernel
set_option maxHeartbeats 4000000 in
set_option maxRecDepth 100000 in
theorem ct_X9_unwanted (l : Launch) (dC : Nat → ClassId) (dI : Nat → Nat → Nat) (cI cJ cB cZ : ClassId) (a_t a_t_wantHouse a_t_wantNight a_t_wantWeight a_t_read a_t_papers a_t_paperMany a_t_text a_t_whose a_t_plan a_t_ahead a_t_best a_t_fines a_t_times a_t_isKept a_t_keptPlan a_t_keptFines a_t_keptTimes : Nat) (t_readMany : Int32) (t_length : Int32) (t_at : Int32) (t_faultAt : Int32) (t_year : Int32) (t_wordsNow : Int32) (t_mendChanges : Int32) (t_most : Int32) (t_above : Int32) (t_handing : Int32) (t_wants : Int32) (t_wantHouse : (Nat → Int32)) (t_wantNight : (Nat → Int32)) (t_wantWeight : (Nat → Int32)) (p1 : Int32) (p2 : Int32) (rr : Int32) (u0 : Unit) (h : fn_X9_unwanted t_wants t_wantHouse t_wantNight t_wantWeight p1 p2 = some (rr, u0)) : zz_M l yX9_unwanted wsX9_unwanted ({ frames := 0, cells := 0, slots := 0, locals := 0 }) (dC, dI) (zz_T cI cJ cB cZ) [.ref a_t, .int p1, .int p2] [(a_t, .inr (8, [.ref a_t_read, .int t_readMany, .ref a_t_papers, .ref a_t_paperMany, .ref a_t_text, .int t_length, .int t_at, .int t_faultAt, .int t_year, .int t_wordsNow, .ref a_t_whose, .int t_mendChanges, .ref a_t_plan, .int t_most, .int t_above, .int t_handing, .int t_wants, .ref a_t_wantNight, .ref a_t_wantHouse, .ref a_t_wantWeight, .ref a_t_ahead, .ref a_t_best, .ref a_t_fines, .ref a_t_times, .ref a_t_isKept, .ref a_t_keptPlan, .ref a_t_keptFines, .ref a_t_keptTimes])), (a_t_wantHouse, .inl (cI, 12, .inl t_wantHouse)), (a_t_wantNight, .inl (cI, 12, .inl t_wantNight)), (a_t_wantWeight, .inl (cI, 12, .inl t_wantWeight))] (zz_QI (dC, dI) (zz_T cI cJ cB cZ) (rr, u0) (fun (u : Unit) => [(a_t, .inr (8, [.ref a_t_read, .int t_readMany, .ref a_t_papers, .ref a_t_paperMany, .ref a_t_text, .int t_length, .int t_at, .int t_faultAt, .int t_year, .int t_wordsNow, .ref a_t_whose, .int t_mendChanges, .ref a_t_plan, .int t_most, .int t_above, .int t_handing, .int t_wants, .ref a_t_wantNight, .ref a_t_wantHouse, .ref a_t_wantWeight, .ref a_t_ahead, .ref a_t_best, .ref a_t_fines, .ref a_t_times, .ref a_t_isKept, .ref a_t_keptPlan, .ref a_t_keptFines, .ref a_t_keptTimes])), (a_t_wantHouse, .inl (cI, 12, .inl t_wantHouse)), (a_t_wantNight, .inl (cI, 12, .inl t_wantNight)), (a_t_wantWeight, .inl (cI, 12, .inl t_wantWeight))])) := by
  unfold fn_X9_unwanted at h
  refine zz_of (by decide) rfl (Nat.le_of_ble_eq_true rfl) ?_
  intro p e s m below meth c A ls hx hb hr hml hts hown hlocks hA hS hP hK hD hl
  have hown : s.vm.findClass RX9 = some m.cls := hown
  have hl : lv_has ls 5 [(0, .ref a_t), (1, .int p1), (2, .int p2)] := hl
  refine lv_iconst (v := 0) hx hb dX9_unwanted_0 (by decide) ?_
  refine lv_istore_n (lv' := [(3, .int 0), (0, .ref a_t), (1, .int p1), (2, .int p2)]) hx hb dX9_unwanted_1 rfl hl (by decide) rfl (fun ls hl => ?_)
  refine lv_iconst (v := 0) hx hb dX9_unwanted_2 (by decide) ?_
  refine lv_istore (lv' := [(4, .int 0), (3, .int 0), (0, .ref a_t), (1, .int p1), (2, .int p2)]) hx hb dX9_unwanted_3 hl (by decide) rfl (fun ls hl => ?_)
  obtain ⟨x27, hit26, h⟩ := zz_b1E h
  refine zz_cut (fun V => ∀ (H : Heap) (locs : List Loc) (ls : Array Slot), va_P (dC, dI) vwCl [(a_t, .inr (8, [.ref a_t_read, .int t_readMany, .ref a_t_papers, .ref a_t_paperMany, .ref a_t_text, .int t_length, .int t_at, .int t_faultAt, .int t_year, .int t_wordsNow, .ref a_t_whose, .int t_mendChanges, .ref a_t_plan, .int t_most, .int t_above, .int t_handing, .int t_wants, .ref a_t_wantNight, .ref a_t_wantHouse, .ref a_t_wantWeight, .ref a_t_ahead, .ref a_t_best, .ref a_t_fines, .ref a_t_times, .ref a_t_isKept, .ref a_t_keptPlan, .ref a_t_keptFines, .ref a_t_keptTimes])), (a_t_wantHouse, .inl (cI, 12, .inl t_wantHouse)), (a_t_wantNight, .inl (cI, 12, .inl t_wantNight)), (a_t_wantWeight, .inl (cI, 12, .inl t_wantWeight))] H → va_D A [(a_t, .inr (8, [.ref a_t_read, .int t_readMany, .ref a_t_papers, .ref a_t_paperMany, .ref a_t_text, .int t_length, .int t_at, .int t_faultAt, .int t_year, .int t_wordsNow, .ref a_t_whose, .int t_mendChanges, .ref a_t_plan, .int t_most, .int t_above, .int t_handing, .int t_wants, .ref a_t_wantNight, .ref a_t_wantHouse, .ref a_t_wantWeight, .ref a_t_ahead, .ref a_t_best, .ref a_t_fines, .ref a_t_times, .ref a_t_isKept, .ref a_t_keptPlan, .ref a_t_keptFines, .ref a_t_keptTimes])), (a_t_wantHouse, .inl (cI, 12, .inl t_wantHouse)), (a_t_wantNight, .inl (cI, 12, .inl t_wantNight)), (a_t_wantWeight, .inl (cI, 12, .inl t_wantWeight))] → va_S A s.heap H locs → lv_has ls 5 [(3, .int x27)] → V H locs (F0 m 56 ls [])) ?_ (fun hE26 => ?_)
  · intro H locs ls hP hD hS hl
    refine lv_iload_n hx hb dX9_unwanted_56 rfl (lv_at hl 0 rfl) ?_
    exact zz_iret () hx hb hr hlocks dX9_unwanted_57 (Option.some.inj h) hP hK hD hS
  refine zz_cut (fun V => ∀ (n : Nat) (x25 : Int32) (x26 : Int32) (H : Heap) (locs : List Loc) (ls : Array Slot), zz_it (fun z => fb_X9_unwanted_5 p1 p2 t_wants t_wantNight t_wantHouse t_wantWeight z.1 z.2) n (x25, x26) = some x27 → va_P (dC, dI) vwCl [(a_t, .inr (8, [.ref a_t_read, .int t_readMany, .ref a_t_papers, .ref a_t_paperMany, .ref a_t_text, .int t_length, .int t_at, .int t_faultAt, .int t_year, .int t_wordsNow, .ref a_t_whose, .int t_mendChanges, .ref a_t_plan, .int t_most, .int t_above, .int t_handing, .int t_wants, .ref a_t_wantNight, .ref a_t_wantHouse, .ref a_t_wantWeight, .ref a_t_ahead, .ref a_t_best, .ref a_t_fines, .ref a_t_times, .ref a_t_isKept, .ref a_t_keptPlan, .ref a_t_keptFines, .ref a_t_keptTimes])), (a_t_wantHouse, .inl (cI, 12, .inl t_wantHouse)), (a_t_wantNight, .inl (cI, 12, .inl t_wantNight)), (a_t_wantWeight, .inl (cI, 12, .inl t_wantWeight))] H → va_D A [(a_t, .inr (8, [.ref a_t_read, .int t_readMany, .ref a_t_papers, .ref a_t_paperMany, .ref a_t_text, .int t_length, .int t_at, .int t_faultAt, .int t_year, .int t_wordsNow, .ref a_t_whose, .int t_mendChanges, .ref a_t_plan, .int t_most, .int t_above, .int t_handing, .int t_wants, .ref a_t_wantNight, .ref a_t_wantHouse, .ref a_t_wantWeight, .ref a_t_ahead, .ref a_t_best, .ref a_t_fines, .ref a_t_times, .ref a_t_isKept, .ref a_t_keptPlan, .ref a_t_keptFines, .ref a_t_keptTimes])), (a_t_wantHouse, .inl (cI, 12, .inl t_wantHouse)), (a_t_wantNight, .inl (cI, 12, .inl t_wantNight)), (a_t_wantWeight, .inl (cI, 12, .inl t_wantWeight))] → va_S A s.heap H locs → lv_has ls 5 [(0, .ref a_t), (1, .int p1), (2, .int p2), (3, .int x25), (4, .int x26)] → V H locs (F0 m 5 ls [])) ?_ (fun hL26 => ?_)
  · intro n
    induction n with
    | zero => intro x25 x26 H locs ls hit26; exact (zz_it0 hit26).elim
    | succ n ih26 =>
      intro x25 x26 H locs ls hit26 hP hD hS hl
      obtain ⟨y26, hb26, hy26⟩ := zz_itE hit26
      have hb26 : fb_X9_unwanted_5 p1 p2 t_wants t_wantNight t_wantHouse t_wantWeight x25 x26 = some y26 := hb26
      unfold fb_X9_unwanted_5 at hb26
      refine lv_iload hx hb dX9_unwanted_5 (lv_at hl 4 rfl) ?_
      refine lv_aload_n hx hb dX9_unwanted_7 rfl (lv_at hl 0 rfl) ?_
      refine va_get (ci := 8) (v := .int t_wants) (C := RX9) (T := TX9) (N := 28) hx hb hts in_X9_unwanted_X9 hown hK hP 0 rfl rfl 16 (by decide) (hts _ lk_X9_unwanted_0) (fun _ h9 => h9) rfl dX9_unwanted_8 ?_
      refine lv_icmp_ge (tgt := 56) hx hb dX9_unwanted_11 (by decide) (fun c28 => ?_) (fun c28 => ?_)
      · have hb26 := zz_if c28 hb26
        obtain rfl := Option.some.inj hb26
        have hy26 := Option.some.inj hy26
        cases hy26
        exact hE26 _ _ ls hP hD hS (lv_sub hl [3] rfl)
      · have hb26 := zz_ifn c28 hb26
        refine lv_iload_n hx hb dX9_unwanted_14 rfl (lv_at hl 3 rfl) ?_
        refine lv_aload_n hx hb dX9_unwanted_15 rfl (lv_at hl 0 rfl) ?_
        refine va_get (ci := 8) (v := .ref a_t_wantNight) (C := RX9) (T := TX9) (N := 28) hx hb hts in_X9_unwanted_X9 hown hK hP 0 rfl rfl 17 (by decide) (hts _ lk_X9_unwanted_1) (fun _ h9 => h9) rfl dX9_unwanted_16 ?_
        refine lv_iload hx hb dX9_unwanted_19 (lv_at hl 4 rfl) ?_
        obtain ⟨hi29, hb26⟩ := zz_chkE hb26
        refine va_iald hx hb hK hP 2 0 rfl rfl hi29 dX9_unwanted_21 ?_
        refine lv_iload_n hx hb dX9_unwanted_22 rfl (lv_at hl 1 rfl) ?_
        refine lv_icmp_ne (tgt := 47) hx hb dX9_unwanted_23 (by decide) (fun c30 => ?_) (fun c30 => ?_)
        · have hb26 := zz_ifn c30 hb26
          refine lv_iconst (v := 0) hx hb dX9_unwanted_47 (by decide) ?_
          refine lv_iadd hx hb dX9_unwanted_48 ?_
          refine lv_topi (fun x31 ex31 => ?_)
          have hb26 := zz_nmE ex31 hb26
          refine lv_istore_n (lv' := [(3, .int x31), (0, .ref a_t), (1, .int p1), (2, .int p2), (4, .int x26)]) hx hb dX9_unwanted_49 rfl hl (by decide) rfl (fun ls hl => ?_)
          obtain ⟨x32, ex32⟩ : ∃ z : Int32, z = x26 + 1 := ⟨_, rfl⟩
          have hb26 := zz_nmE ex32 hb26
          refine lv_iinc (v := x32) (lv' := [(4, .int x32), (3, .int x31), (0, .ref a_t), (1, .int p1), (2, .int p2)]) hx hb dX9_unwanted_50 hl (k := 4) rfl (by rw [ex32]; rfl) (by decide) rfl (fun ls hl => ?_)
          refine lv_goto (tgt := 5) hx hb dX9_unwanted_53 (by decide) ?_
          obtain rfl := Option.some.inj hb26
          exact ih26 x31 x32 _ _ ls hy26 hP hD hS (lv_sub hl [2, 3, 4, 1, 0] rfl)
        · have hb26 := zz_if c30 hb26
          refine lv_aload_n hx hb dX9_unwanted_26 rfl (lv_at hl 0 rfl) ?_
          refine va_get (ci := 8) (v := .ref a_t_wantHouse) (C := RX9) (T := TX9) (N := 28) hx hb hts in_X9_unwanted_X9 hown hK hP 0 rfl rfl 18 (by decide) (hts _ lk_X9_unwanted_2) (fun _ h9 => h9) rfl dX9_unwanted_27 ?_
          refine lv_iload hx hb dX9_unwanted_30 (lv_at hl 4 rfl) ?_
          obtain ⟨hi33, hb26⟩ := zz_chkE hb26
          refine va_iald hx hb hK hP 1 0 rfl rfl hi33 dX9_unwanted_32 ?_
          refine lv_iload_n hx hb dX9_unwanted_33 rfl (lv_at hl 2 rfl) ?_
          refine lv_icmp_eq (tgt := 47) hx hb dX9_unwanted_34 (by decide) (fun c34 => ?_) (fun c34 => ?_)
          · have hb26 := zz_if c34 hb26
            refine lv_iconst (v := 0) hx hb dX9_unwanted_47 (by decide) ?_
            refine lv_iadd hx hb dX9_unwanted_48 ?_
            refine lv_topi (fun x35 ex35 => ?_)
            have hb26 := zz_nmE ex35 hb26
            refine lv_istore_n (lv' := [(3, .int x35), (0, .ref a_t), (1, .int p1), (2, .int p2), (4, .int x26)]) hx hb dX9_unwanted_49 rfl hl (by decide) rfl (fun ls hl => ?_)
            obtain ⟨x36, ex36⟩ : ∃ z : Int32, z = x26 + 1 := ⟨_, rfl⟩
            have hb26 := zz_nmE ex36 hb26
            refine lv_iinc (v := x36) (lv' := [(4, .int x36), (3, .int x35), (0, .ref a_t), (1, .int p1), (2, .int p2)]) hx hb dX9_unwanted_50 hl (k := 4) rfl (by rw [ex36]; rfl) (by decide) rfl (fun ls hl => ?_)
            refine lv_goto (tgt := 5) hx hb dX9_unwanted_53 (by decide) ?_
            obtain rfl := Option.some.inj hb26
            exact ih26 x35 x36 _ _ ls hy26 hP hD hS (lv_sub hl [2, 3, 4, 1, 0] rfl)
          · have hb26 := zz_ifn c34 hb26
            refine lv_aload_n hx hb dX9_unwanted_37 rfl (lv_at hl 0 rfl) ?_
            refine va_get (ci := 8) (v := .ref a_t_wantWeight) (C := RX9) (T := TX9) (N := 28) hx hb hts in_X9_unwanted_X9 hown hK hP 0 rfl rfl 19 (by decide) (hts _ lk_X9_unwanted_3) (fun _ h9 => h9) rfl dX9_unwanted_38 ?_
            refine lv_iload hx hb dX9_unwanted_41 (lv_at hl 4 rfl) ?_
            obtain ⟨hi37, hb26⟩ := zz_chkE hb26
            refine va_iald hx hb hK hP 3 0 rfl rfl hi37 dX9_unwanted_43 ?_
            refine lv_goto (tgt := 48) hx hb dX9_unwanted_44 (by decide) ?_
            refine lv_iadd hx hb dX9_unwanted_48 ?_
            refine lv_topi (fun x38 ex38 => ?_)
            have hb26 := zz_nmE ex38 hb26
            refine lv_istore_n (lv' := [(3, .int x38), (0, .ref a_t), (1, .int p1), (2, .int p2), (4, .int x26)]) hx hb dX9_unwanted_49 rfl hl (by decide) rfl (fun ls hl => ?_)
            obtain ⟨x39, ex39⟩ : ∃ z : Int32, z = x26 + 1 := ⟨_, rfl⟩
            have hb26 := zz_nmE ex39 hb26
            refine lv_iinc (v := x39) (lv' := [(4, .int x39), (3, .int x38), (0, .ref a_t), (1, .int p1), (2, .int p2)]) hx hb dX9_unwanted_50 hl (k := 4) rfl (by rw [ex39]; rfl) (by decide) rfl (fun ls hl => ?_)
            refine lv_goto (tgt := 5) hx hb dX9_unwanted_53 (by decide) ?_
            obtain rfl := Option.some.inj hb26
            exact ih26 x38 x39 _ _ ls hy26 hP hD hS (lv_sub hl [2, 3, 4, 1, 0] rfl)
  exact hL26 zz_fuel 0 0 _ _ ls hit26 hP hD hS (lv_sub hl [2, 3, 4, 1, 0] rfl)
theorem hd_X9_costOf : yX9_costOf.cls ≠ "java/lang/invoke/MethodHandle" ∧ yX9_costOf.cls ≠ "java/lang/invoke/VarHandle" ∧ (parseMethodDescriptor yX9_costOf.desc).map (fun d => d.parameters.length) = some 0 := by decide +kernel
set_option maxRecDepth 20000 in
theorem in_X9_costOf_X9 : ∀ w ∈ u_ws RX9 TX9 28, w ∈ wsX9_costOf := by decide +kernel
set_option maxRecDepth 20000 in
theorem lk_X9_costOf_0 : Cond.fieldLink RX9 25 "TwoHousesOneChildModel" "plan" "[I" ∈ wsX9_costOf := by decide +kernel
set_option maxRecDepth 20000 in
theorem lk_X9_costOf_1 : Cond.fieldLink RX9 69 "TwoHousesOneChildModel" "handing" "I" ∈ wsX9_costOf := by decide +kernel
set_option maxRecDepth 20000 in
theorem lk_X9_costOf_2 : Cond.fieldLink RX9 62 "TwoHousesOneChildModel" "most" "I" ∈ wsX9_costOf := by decide +kernel
set_option maxRecDepth 20000 in
theorem lk_X9_costOf_3 : Cond.fieldLink RX9 66 "TwoHousesOneChildModel" "above" "I" ∈ wsX9_costOf := by decide +kernel
set_option maxHeartbeats 4000000 in
set_option maxRecDepth 100000 in
theorem ct_X9_costOf (l : Launch) (dC : Nat → ClassId) (dI : Nat → Nat → Nat) (cI cJ cB cZ : ClassId) (a_t a_t_plan a_t_wantHouse a_t_wantNight a_t_wantWeight a_t_read a_t_papers a_t_paperMany a_t_text a_t_whose a_t_ahead a_t_best a_t_fines a_t_times a_t_isKept a_t_keptPlan a_t_keptFines a_t_keptTimes : Nat) (t_readMany : Int32) (t_length : Int32) (t_at : Int32) (t_faultAt : Int32) (t_year : Int32) (t_wordsNow : Int32) (t_mendChanges : Int32) (t_most : Int32) (t_above : Int32) (t_handing : Int32) (t_wants : Int32) (t_plan : (Nat → Int32)) (t_wantHouse : (Nat → Int32)) (t_wantNight : (Nat → Int32)) (t_wantWeight : (Nat → Int32)) (rr : Int32) (u0 : Unit) (h : fn_X9_costOf t_most t_above t_handing t_wants t_plan t_wantHouse t_wantNight t_wantWeight = some (rr, u0)) : zz_M l yX9_costOf wsX9_costOf ({ frames := 1, cells := 0, slots := 0, locals := 24 }) (dC, dI) (zz_T cI cJ cB cZ) [.ref a_t] [(a_t, .inr (8, [.ref a_t_read, .int t_readMany, .ref a_t_papers, .ref a_t_paperMany, .ref a_t_text, .int t_length, .int t_at, .int t_faultAt, .int t_year, .int t_wordsNow, .ref a_t_whose, .int t_mendChanges, .ref a_t_plan, .int t_most, .int t_above, .int t_handing, .int t_wants, .ref a_t_wantNight, .ref a_t_wantHouse, .ref a_t_wantWeight, .ref a_t_ahead, .ref a_t_best, .ref a_t_fines, .ref a_t_times, .ref a_t_isKept, .ref a_t_keptPlan, .ref a_t_keptFines, .ref a_t_keptTimes])), (a_t_plan, .inl (cI, 56, .inl t_plan)), (a_t_wantHouse, .inl (cI, 12, .inl t_wantHouse)), (a_t_wantNight, .inl (cI, 12, .inl t_wantNight)), (a_t_wantWeight, .inl (cI, 12, .inl t_wantWeight))] (zz_QI (dC, dI) (zz_T cI cJ cB cZ) (rr, u0) (fun (u : Unit) => [(a_t, .inr (8, [.ref a_t_read, .int t_readMany, .ref a_t_papers, .ref a_t_paperMany, .ref a_t_text, .int t_length, .int t_at, .int t_faultAt, .int t_year, .int t_wordsNow, .ref a_t_whose, .int t_mendChanges, .ref a_t_plan, .int t_most, .int t_above, .int t_handing, .int t_wants, .ref a_t_wantNight, .ref a_t_wantHouse, .ref a_t_wantWeight, .ref a_t_ahead, .ref a_t_best, .ref a_t_fines, .ref a_t_times, .ref a_t_isKept, .ref a_t_keptPlan, .ref a_t_keptFines, .ref a_t_keptTimes])), (a_t_plan, .inl (cI, 56, .inl t_plan)), (a_t_wantHouse, .inl (cI, 12, .inl t_wantHouse)), (a_t_wantNight, .inl (cI, 12, .inl t_wantNight)), (a_t_wantWeight, .inl (cI, 12, .inl t_wantWeight))])) := by
  unfold fn_X9_costOf at h
  refine zz_of (by decide) rfl (Nat.le_of_ble_eq_true rfl) ?_
  intro p e s m below meth c A ls hx hb hr hml hts hown hlocks hA hS hP hK hD hl
  have hown : s.vm.findClass RX9 = some m.cls := hown
  have hl : lv_has ls 5 [(0, .ref a_t)] := hl
  refine lv_iconst (v := 0) hx hb dX9_costOf_0 (by decide) ?_
  refine lv_istore_n (lv' := [(1, .int 0), (0, .ref a_t)]) hx hb dX9_costOf_1 rfl hl (by decide) rfl (fun ls hl => ?_)
  refine lv_iconst (v := 0) hx hb dX9_costOf_2 (by decide) ?_
  refine lv_istore_n (lv' := [(2, .int 0), (1, .int 0), (0, .ref a_t)]) hx hb dX9_costOf_3 rfl hl (by decide) rfl (fun ls hl => ?_)
  refine lv_iconst (v := 0) hx hb dX9_costOf_4 (by decide) ?_
  refine lv_istore_n (lv' := [(3, .int 0), (2, .int 0), (1, .int 0), (0, .ref a_t)]) hx hb dX9_costOf_5 rfl hl (by decide) rfl (fun ls hl => ?_)
  obtain ⟨x54, hit53, h⟩ := zz_b1E h
  refine zz_cut (fun V => ∀ (H : Heap) (locs : List Loc) (ls : Array Slot), va_P (dC, dI) vwCl [(a_t, .inr (8, [.ref a_t_read, .int t_readMany, .ref a_t_papers, .ref a_t_paperMany, .ref a_t_text, .int t_length, .int t_at, .int t_faultAt, .int t_year, .int t_wordsNow, .ref a_t_whose, .int t_mendChanges, .ref a_t_plan, .int t_most, .int t_above, .int t_handing, .int t_wants, .ref a_t_wantNight, .ref a_t_wantHouse, .ref a_t_wantWeight, .ref a_t_ahead, .ref a_t_best, .ref a_t_fines, .ref a_t_times, .ref a_t_isKept, .ref a_t_keptPlan, .ref a_t_keptFines, .ref a_t_keptTimes])), (a_t_plan, .inl (cI, 56, .inl t_plan)), (a_t_wantHouse, .inl (cI, 12, .inl t_wantHouse)), (a_t_wantNight, .inl (cI, 12, .inl t_wantNight)), (a_t_wantWeight, .inl (cI, 12, .inl t_wantWeight))] H → va_D A [(a_t, .inr (8, [.ref a_t_read, .int t_readMany, .ref a_t_papers, .ref a_t_paperMany, .ref a_t_text, .int t_length, .int t_at, .int t_faultAt, .int t_year, .int t_wordsNow, .ref a_t_whose, .int t_mendChanges, .ref a_t_plan, .int t_most, .int t_above, .int t_handing, .int t_wants, .ref a_t_wantNight, .ref a_t_wantHouse, .ref a_t_wantWeight, .ref a_t_ahead, .ref a_t_best, .ref a_t_fines, .ref a_t_times, .ref a_t_isKept, .ref a_t_keptPlan, .ref a_t_keptFines, .ref a_t_keptTimes])), (a_t_plan, .inl (cI, 56, .inl t_plan)), (a_t_wantHouse, .inl (cI, 12, .inl t_wantHouse)), (a_t_wantNight, .inl (cI, 12, .inl t_wantNight)), (a_t_wantWeight, .inl (cI, 12, .inl t_wantWeight))] → va_S A s.heap H locs → lv_has ls 5 [(1, .int x54)] → V H locs (F0 m 104 ls [])) ?_ (fun hE53 => ?_)
  · intro H locs ls hP hD hS hl
    refine lv_iload_n hx hb dX9_costOf_104 rfl (lv_at hl 0 rfl) ?_
    exact zz_iret () hx hb hr hlocks dX9_costOf_105 (Option.some.inj h) hP hK hD hS
  refine zz_cut (fun V => ∀ (n : Nat) (x51 : Int32) (x52 : Int32) (x53 : Int32) (H : Heap) (locs : List Loc) (ls : Array Slot), zz_it (fun z => fb_X9_costOf_6 t_most t_above t_handing t_wants t_plan t_wantHouse t_wantNight t_wantWeight z.1 z.2.1 z.2.2) n (x51, x52, x53) = some x54 → va_P (dC, dI) vwCl [(a_t, .inr (8, [.ref a_t_read, .int t_readMany, .ref a_t_papers, .ref a_t_paperMany, .ref a_t_text, .int t_length, .int t_at, .int t_faultAt, .int t_year, .int t_wordsNow, .ref a_t_whose, .int t_mendChanges, .ref a_t_plan, .int t_most, .int t_above, .int t_handing, .int t_wants, .ref a_t_wantNight, .ref a_t_wantHouse, .ref a_t_wantWeight, .ref a_t_ahead, .ref a_t_best, .ref a_t_fines, .ref a_t_times, .ref a_t_isKept, .ref a_t_keptPlan, .ref a_t_keptFines, .ref a_t_keptTimes])), (a_t_plan, .inl (cI, 56, .inl t_plan)), (a_t_wantHouse, .inl (cI, 12, .inl t_wantHouse)), (a_t_wantNight, .inl (cI, 12, .inl t_wantNight)), (a_t_wantWeight, .inl (cI, 12, .inl t_wantWeight))] H → va_D A [(a_t, .inr (8, [.ref a_t_read, .int t_readMany, .ref a_t_papers, .ref a_t_paperMany, .ref a_t_text, .int t_length, .int t_at, .int t_faultAt, .int t_year, .int t_wordsNow, .ref a_t_whose, .int t_mendChanges, .ref a_t_plan, .int t_most, .int t_above, .int t_handing, .int t_wants, .ref a_t_wantNight, .ref a_t_wantHouse, .ref a_t_wantWeight, .ref a_t_ahead, .ref a_t_best, .ref a_t_fines, .ref a_t_times, .ref a_t_isKept, .ref a_t_keptPlan, .ref a_t_keptFines, .ref a_t_keptTimes])), (a_t_plan, .inl (cI, 56, .inl t_plan)), (a_t_wantHouse, .inl (cI, 12, .inl t_wantHouse)), (a_t_wantNight, .inl (cI, 12, .inl t_wantNight)), (a_t_wantWeight, .inl (cI, 12, .inl t_wantWeight))] → va_S A s.heap H locs → lv_has ls 5 [(0, .ref a_t), (1, .int x51), (2, .int x52), (3, .int x53)] → V H locs (F0 m 6 ls [])) ?_ (fun hL53 => ?_)
  · intro n
    induction n with
    | zero => intro x51 x52 x53 H locs ls hit53; exact (zz_it0 hit53).elim
    | succ n ih53 =>
      intro x51 x52 x53 H locs ls hit53 hP hD hS hl
      obtain ⟨y53, hb53, hy53⟩ := zz_itE hit53
      have hb53 : fb_X9_costOf_6 t_most t_above t_handing t_wants t_plan t_wantHouse t_wantNight t_wantWeight x51 x52 x53 = some y53 := hb53
      unfold fb_X9_costOf_6 at hb53
      refine lv_iload_n hx hb dX9_costOf_6 rfl (lv_at hl 3 rfl) ?_
      refine lv_bipush (v := 56) hx hb dX9_costOf_7 (by decide) ?_
      refine lv_icmp_ge (tgt := 104) hx hb dX9_costOf_9 (by decide) (fun c55 => ?_) (fun c55 => ?_)
      · have hb53 := zz_if c55 hb53
        obtain rfl := Option.some.inj hb53
        have hy53 := Option.some.inj hy53
        cases hy53
        exact hE53 _ _ ls hP hD hS (lv_sub hl [1] rfl)
      · have hb53 := zz_ifn c55 hb53
        refine lv_iload_n hx hb dX9_costOf_12 rfl (lv_at hl 3 rfl) ?_
        obtain ⟨x60, hj61, hb53⟩ := zz_b1E hb53
        refine zz_cut (fun V => ∀ (H : Heap) (locs : List Loc) (ls : Array Slot), va_P (dC, dI) vwCl [(a_t, .inr (8, [.ref a_t_read, .int t_readMany, .ref a_t_papers, .ref a_t_paperMany, .ref a_t_text, .int t_length, .int t_at, .int t_faultAt, .int t_year, .int t_wordsNow, .ref a_t_whose, .int t_mendChanges, .ref a_t_plan, .int t_most, .int t_above, .int t_handing, .int t_wants, .ref a_t_wantNight, .ref a_t_wantHouse, .ref a_t_wantWeight, .ref a_t_ahead, .ref a_t_best, .ref a_t_fines, .ref a_t_times, .ref a_t_isKept, .ref a_t_keptPlan, .ref a_t_keptFines, .ref a_t_keptTimes])), (a_t_plan, .inl (cI, 56, .inl t_plan)), (a_t_wantHouse, .inl (cI, 12, .inl t_wantHouse)), (a_t_wantNight, .inl (cI, 12, .inl t_wantNight)), (a_t_wantWeight, .inl (cI, 12, .inl t_wantWeight))] H → va_D A [(a_t, .inr (8, [.ref a_t_read, .int t_readMany, .ref a_t_papers, .ref a_t_paperMany, .ref a_t_text, .int t_length, .int t_at, .int t_faultAt, .int t_year, .int t_wordsNow, .ref a_t_whose, .int t_mendChanges, .ref a_t_plan, .int t_most, .int t_above, .int t_handing, .int t_wants, .ref a_t_wantNight, .ref a_t_wantHouse, .ref a_t_wantWeight, .ref a_t_ahead, .ref a_t_best, .ref a_t_fines, .ref a_t_times, .ref a_t_isKept, .ref a_t_keptPlan, .ref a_t_keptFines, .ref a_t_keptTimes])), (a_t_plan, .inl (cI, 56, .inl t_plan)), (a_t_wantHouse, .inl (cI, 12, .inl t_wantHouse)), (a_t_wantNight, .inl (cI, 12, .inl t_wantNight)), (a_t_wantWeight, .inl (cI, 12, .inl t_wantWeight))] → va_S A s.heap H locs → lv_has ls 5 [(0, .ref a_t), (1, .int x51), (2, .int x52), (3, .int x53)] → V H locs (F0 m 38 ls [.int x60])) ?_ (fun hJ61 => ?_)
        · intro H locs ls hP hD hS hl
          refine lv_istore (lv' := [(4, .int x60), (0, .ref a_t), (1, .int x51), (2, .int x52), (3, .int x53)]) hx hb dX9_costOf_38 hl (by decide) rfl (fun ls hl => ?_)
          refine lv_iload hx hb dX9_costOf_40 (lv_at hl 0 rfl) ?_
          obtain ⟨x63, hj64, hb53⟩ := zz_b1E hb53
          refine zz_cut (fun V => ∀ (H : Heap) (locs : List Loc) (ls : Array Slot), va_P (dC, dI) vwCl [(a_t, .inr (8, [.ref a_t_read, .int t_readMany, .ref a_t_papers, .ref a_t_paperMany, .ref a_t_text, .int t_length, .int t_at, .int t_faultAt, .int t_year, .int t_wordsNow, .ref a_t_whose, .int t_mendChanges, .ref a_t_plan, .int t_most, .int t_above, .int t_handing, .int t_wants, .ref a_t_wantNight, .ref a_t_wantHouse, .ref a_t_wantWeight, .ref a_t_ahead, .ref a_t_best, .ref a_t_fines, .ref a_t_times, .ref a_t_isKept, .ref a_t_keptPlan, .ref a_t_keptFines, .ref a_t_keptTimes])), (a_t_plan, .inl (cI, 56, .inl t_plan)), (a_t_wantHouse, .inl (cI, 12, .inl t_wantHouse)), (a_t_wantNight, .inl (cI, 12, .inl t_wantNight)), (a_t_wantWeight, .inl (cI, 12, .inl t_wantWeight))] H → va_D A [(a_t, .inr (8, [.ref a_t_read, .int t_readMany, .ref a_t_papers, .ref a_t_paperMany, .ref a_t_text, .int t_length, .int t_at, .int t_faultAt, .int t_year, .int t_wordsNow, .ref a_t_whose, .int t_mendChanges, .ref a_t_plan, .int t_most, .int t_above, .int t_handing, .int t_wants, .ref a_t_wantNight, .ref a_t_wantHouse, .ref a_t_wantWeight, .ref a_t_ahead, .ref a_t_best, .ref a_t_fines, .ref a_t_times, .ref a_t_isKept, .ref a_t_keptPlan, .ref a_t_keptFines, .ref a_t_keptTimes])), (a_t_plan, .inl (cI, 56, .inl t_plan)), (a_t_wantHouse, .inl (cI, 12, .inl t_wantHouse)), (a_t_wantNight, .inl (cI, 12, .inl t_wantNight)), (a_t_wantWeight, .inl (cI, 12, .inl t_wantWeight))] → va_S A s.heap H locs → lv_has ls 5 [(0, .ref a_t), (1, .int x51), (3, .int x53), (4, .int x60)] → V H locs (F0 m 52 ls [.int x63])) ?_ (fun hJ64 => ?_)
          · intro H locs ls hP hD hS hl
            refine lv_istore_n (lv' := [(2, .int x63), (0, .ref a_t), (1, .int x51), (3, .int x53), (4, .int x60)]) hx hb dX9_costOf_52 rfl hl (by decide) rfl (fun ls hl => ?_)
            refine lv_iload_n hx hb dX9_costOf_53 rfl (lv_at hl 2 rfl) ?_
            refine lv_iload hx hb dX9_costOf_54 (lv_at hl 4 rfl) ?_
            obtain ⟨x66, hj67, hb53⟩ := zz_b1E hb53
            refine zz_cut (fun V => ∀ (H : Heap) (locs : List Loc) (ls : Array Slot), va_P (dC, dI) vwCl [(a_t, .inr (8, [.ref a_t_read, .int t_readMany, .ref a_t_papers, .ref a_t_paperMany, .ref a_t_text, .int t_length, .int t_at, .int t_faultAt, .int t_year, .int t_wordsNow, .ref a_t_whose, .int t_mendChanges, .ref a_t_plan, .int t_most, .int t_above, .int t_handing, .int t_wants, .ref a_t_wantNight, .ref a_t_wantHouse, .ref a_t_wantWeight, .ref a_t_ahead, .ref a_t_best, .ref a_t_fines, .ref a_t_times, .ref a_t_isKept, .ref a_t_keptPlan, .ref a_t_keptFines, .ref a_t_keptTimes])), (a_t_plan, .inl (cI, 56, .inl t_plan)), (a_t_wantHouse, .inl (cI, 12, .inl t_wantHouse)), (a_t_wantNight, .inl (cI, 12, .inl t_wantNight)), (a_t_wantWeight, .inl (cI, 12, .inl t_wantWeight))] H → va_D A [(a_t, .inr (8, [.ref a_t_read, .int t_readMany, .ref a_t_papers, .ref a_t_paperMany, .ref a_t_text, .int t_length, .int t_at, .int t_faultAt, .int t_year, .int t_wordsNow, .ref a_t_whose, .int t_mendChanges, .ref a_t_plan, .int t_most, .int t_above, .int t_handing, .int t_wants, .ref a_t_wantNight, .ref a_t_wantHouse, .ref a_t_wantWeight, .ref a_t_ahead, .ref a_t_best, .ref a_t_fines, .ref a_t_times, .ref a_t_isKept, .ref a_t_keptPlan, .ref a_t_keptFines, .ref a_t_keptTimes])), (a_t_plan, .inl (cI, 56, .inl t_plan)), (a_t_wantHouse, .inl (cI, 12, .inl t_wantHouse)), (a_t_wantNight, .inl (cI, 12, .inl t_wantNight)), (a_t_wantWeight, .inl (cI, 12, .inl t_wantWeight))] → va_S A s.heap H locs → lv_has ls 5 [(0, .ref a_t), (2, .int x63), (3, .int x53)] → V H locs (F0 m 67 ls [.int x66, .int x51])) ?_ (fun hJ67 => ?_)
            · intro H locs ls hP hD hS hl
              refine lv_iload_n hx hb dX9_costOf_67 rfl (lv_at hl 1 rfl) ?_
              refine lv_aload_n hx hb dX9_costOf_68 rfl (lv_at hl 0 rfl) ?_
              refine va_get (ci := 8) (v := .int t_most) (C := RX9) (T := TX9) (N := 28) hx hb hts in_X9_costOf_X9 hown hK hP 0 rfl rfl 13 (by decide) (hts _ lk_X9_costOf_2) (fun _ h9 => h9) rfl dX9_costOf_69 ?_
              obtain ⟨x69, hj70, hb53⟩ := zz_b1E hb53
              refine zz_cut (fun V => ∀ (H : Heap) (locs : List Loc) (ls : Array Slot), va_P (dC, dI) vwCl [(a_t, .inr (8, [.ref a_t_read, .int t_readMany, .ref a_t_papers, .ref a_t_paperMany, .ref a_t_text, .int t_length, .int t_at, .int t_faultAt, .int t_year, .int t_wordsNow, .ref a_t_whose, .int t_mendChanges, .ref a_t_plan, .int t_most, .int t_above, .int t_handing, .int t_wants, .ref a_t_wantNight, .ref a_t_wantHouse, .ref a_t_wantWeight, .ref a_t_ahead, .ref a_t_best, .ref a_t_fines, .ref a_t_times, .ref a_t_isKept, .ref a_t_keptPlan, .ref a_t_keptFines, .ref a_t_keptTimes])), (a_t_plan, .inl (cI, 56, .inl t_plan)), (a_t_wantHouse, .inl (cI, 12, .inl t_wantHouse)), (a_t_wantNight, .inl (cI, 12, .inl t_wantNight)), (a_t_wantWeight, .inl (cI, 12, .inl t_wantWeight))] H → va_D A [(a_t, .inr (8, [.ref a_t_read, .int t_readMany, .ref a_t_papers, .ref a_t_paperMany, .ref a_t_text, .int t_length, .int t_at, .int t_faultAt, .int t_year, .int t_wordsNow, .ref a_t_whose, .int t_mendChanges, .ref a_t_plan, .int t_most, .int t_above, .int t_handing, .int t_wants, .ref a_t_wantNight, .ref a_t_wantHouse, .ref a_t_wantWeight, .ref a_t_ahead, .ref a_t_best, .ref a_t_fines, .ref a_t_times, .ref a_t_isKept, .ref a_t_keptPlan, .ref a_t_keptFines, .ref a_t_keptTimes])), (a_t_plan, .inl (cI, 56, .inl t_plan)), (a_t_wantHouse, .inl (cI, 12, .inl t_wantHouse)), (a_t_wantNight, .inl (cI, 12, .inl t_wantNight)), (a_t_wantWeight, .inl (cI, 12, .inl t_wantWeight))] → va_S A s.heap H locs → lv_has ls 5 [(0, .ref a_t), (2, .int x63), (3, .int x53)] → V H locs (F0 m 83 ls [.int x69, .int x66, .int x51])) ?_ (fun hJ70 => ?_)
              · intro H locs ls hP hD hS hl
                refine lv_iadd hx hb dX9_costOf_83 ?_
                refine lv_aload_n hx hb dX9_costOf_84 rfl (lv_at hl 0 rfl) ?_
                refine lv_iload_n hx hb dX9_costOf_85 rfl (lv_at hl 2 rfl) ?_
                refine lv_aload_n hx hb dX9_costOf_86 rfl (lv_at hl 0 rfl) ?_
                refine va_get (ci := 8) (v := .ref a_t_plan) (C := RX9) (T := TX9) (N := 28) hx hb hts in_X9_costOf_X9 hown hK hP 0 rfl rfl 12 (by decide) (hts _ lk_X9_costOf_0) (fun _ h9 => h9) rfl dX9_costOf_87 ?_
                refine lv_iload_n hx hb dX9_costOf_90 rfl (lv_at hl 2 rfl) ?_
                obtain ⟨hi71, hb53⟩ := zz_chkE hb53
                refine va_iald hx hb hK hP 1 0 rfl rfl hi71 dX9_costOf_91 ?_
                obtain ⟨x72, u73, he74, hb53⟩ := zz_b2E hb53
                refine zz_VI (q := (RX9, TX9, 28)) (As := [.int x53, .int (t_plan x53.toNatClampNeg)]) (rest := [.int (x66 + x69), .int x51]) (wr := [(a_t_plan, .inl (cI, 56, .inl t_plan))]) (wm := [(a_t, .inr (8, [.ref a_t_read, .int t_readMany, .ref a_t_papers, .ref a_t_paperMany, .ref a_t_text, .int t_length, .int t_at, .int t_faultAt, .int t_year, .int t_wordsNow, .ref a_t_whose, .int t_mendChanges, .ref a_t_plan, .int t_most, .int t_above, .int t_handing, .int t_wants, .ref a_t_wantNight, .ref a_t_wantHouse, .ref a_t_wantWeight, .ref a_t_ahead, .ref a_t_best, .ref a_t_fines, .ref a_t_times, .ref a_t_isKept, .ref a_t_keptPlan, .ref a_t_keptFines, .ref a_t_keptTimes])), (a_t_plan, .inl (cI, 56, .inl t_plan)), (a_t_wantHouse, .inl (cI, 12, .inl t_wantHouse)), (a_t_wantNight, .inl (cI, 12, .inl t_wantNight)), (a_t_wantWeight, .inl (cI, 12, .inl t_wantWeight))]) ⟨hx, hb, hml, hown, hts⟩ (ct_X9_unwanted l dC dI cI cJ cB cZ a_t a_t_wantHouse a_t_wantNight a_t_wantWeight a_t_read a_t_papers a_t_paperMany a_t_text a_t_whose a_t_plan a_t_ahead a_t_best a_t_fines a_t_times a_t_isKept a_t_keptPlan a_t_keptFines a_t_keptTimes t_readMany t_length t_at t_faultAt t_year t_wordsNow t_mendChanges t_most t_above t_handing t_wants t_wantHouse t_wantNight t_wantWeight x53 (t_plan x53.toNatClampNeg) x72 u73 he74) gX9_costOf_X9_unwanted hd_X9_unwanted rfl rfl rfl ⟨Nat.le_of_ble_eq_true rfl, Nat.le_of_ble_eq_true rfl⟩ ⟨Nat.le_of_ble_eq_true rfl, Nat.le_of_ble_eq_true rfl⟩ rfl rfl (Nat.le_of_ble_eq_true rfl) dX9_costOf_92 hl.1 rfl (ci := 8) rfl (q0 := 0) rfl hP hK hD hS hA [0, 2, 3, 4] [1] [1, 0, 2, 3, 4] rfl rfl (by decide) (by decide) (by decide) (by decide) rfl (fun H locs hP hD hS => ?_)
                refine lv_iadd hx hb dX9_costOf_95 ?_
                refine lv_iadd hx hb dX9_costOf_96 ?_
                refine lv_topi (fun x75 ex75 => ?_)
                have hb53 := zz_nmE ex75 hb53
                refine lv_istore_n (lv' := [(1, .int x75), (0, .ref a_t), (2, .int x63), (3, .int x53)]) hx hb dX9_costOf_97 rfl hl (by decide) rfl (fun ls hl => ?_)
                obtain ⟨x76, ex76⟩ : ∃ z : Int32, z = x53 + 1 := ⟨_, rfl⟩
                have hb53 := zz_nmE ex76 hb53
                refine lv_iinc (v := x76) (lv' := [(3, .int x76), (1, .int x75), (0, .ref a_t), (2, .int x63)]) hx hb dX9_costOf_98 hl (k := 3) rfl (by rw [ex76]; rfl) (by decide) rfl (fun ls hl => ?_)
                refine lv_goto (tgt := 6) hx hb dX9_costOf_101 (by decide) ?_
                obtain rfl := Option.some.inj hb53
                exact ih53 x75 x63 x76 _ _ ls hy53 hP hD hS (lv_sub hl [2, 1, 3, 0] rfl)
              refine lv_icmp_le (tgt := 82) hx hb dX9_costOf_72 (by decide) (fun c68 => ?_) (fun c68 => ?_)
              · have hj70 := zz_if c68 hj70
                refine lv_iconst (v := 0) hx hb dX9_costOf_82 (by decide) ?_
                cases hj70
                exact hJ70 _ _ ls hP hD hS (lv_sub hl [0, 1, 2] rfl)
              · have hj70 := zz_ifn c68 hj70
                refine lv_aload_n hx hb dX9_costOf_75 rfl (lv_at hl 0 rfl) ?_
                refine va_get (ci := 8) (v := .int t_above) (C := RX9) (T := TX9) (N := 28) hx hb hts in_X9_costOf_X9 hown hK hP 0 rfl rfl 14 (by decide) (hts _ lk_X9_costOf_3) (fun _ h9 => h9) rfl dX9_costOf_76 ?_
                refine lv_goto (tgt := 83) hx hb dX9_costOf_79 (by decide) ?_
                cases hj70
                exact hJ70 _ _ ls hP hD hS (lv_sub hl [0, 1, 2] rfl)
            refine lv_if_eq (tgt := 66) hx hb dX9_costOf_56 (by decide) (fun c65 => ?_) (fun c65 => ?_)
            · have hj67 := zz_if c65 hj67
              refine lv_iconst (v := 0) hx hb dX9_costOf_66 (by decide) ?_
              cases hj67
              exact hJ67 _ _ ls hP hD hS (lv_sub hl [1, 0, 3] rfl)
            · have hj67 := zz_ifn c65 hj67
              refine lv_aload_n hx hb dX9_costOf_59 rfl (lv_at hl 1 rfl) ?_
              refine va_get (ci := 8) (v := .int t_handing) (C := RX9) (T := TX9) (N := 28) hx hb hts in_X9_costOf_X9 hown hK hP 0 rfl rfl 15 (by decide) (hts _ lk_X9_costOf_1) (fun _ h9 => h9) rfl dX9_costOf_60 ?_
              refine lv_goto (tgt := 67) hx hb dX9_costOf_63 (by decide) ?_
              cases hj67
              exact hJ67 _ _ ls hP hD hS (lv_sub hl [1, 0, 3] rfl)
          refine lv_if_eq (tgt := 49) hx hb dX9_costOf_42 (by decide) (fun c62 => ?_) (fun c62 => ?_)
          · have hj64 := zz_if c62 hj64
            refine lv_iload_n hx hb dX9_costOf_49 rfl (lv_at hl 3 rfl) ?_
            refine lv_iconst (v := 1) hx hb dX9_costOf_50 (by decide) ?_
            refine lv_iadd hx hb dX9_costOf_51 ?_
            cases hj64
            exact hJ64 _ _ ls hP hD hS (lv_sub hl [1, 2, 4, 0] rfl)
          · have hj64 := zz_ifn c62 hj64
            refine lv_iconst (v := 1) hx hb dX9_costOf_45 (by decide) ?_
            refine lv_goto (tgt := 52) hx hb dX9_costOf_46 (by decide) ?_
            cases hj64
            exact hJ64 _ _ ls hP hD hS (lv_sub hl [1, 2, 4, 0] rfl)
        refine lv_if_le (tgt := 37) hx hb dX9_costOf_13 (by decide) (fun c56 => ?_) (fun c56 => ?_)
        · have hj61 := zz_if c56 hj61
          refine lv_iconst (v := 0) hx hb dX9_costOf_37 (by decide) ?_
          cases hj61
          exact hJ61 _ _ ls hP hD hS (lv_sub hl [0, 1, 2, 3] rfl)
        · have hj61 := zz_ifn c56 hj61
          refine lv_aload_n hx hb dX9_costOf_16 rfl (lv_at hl 0 rfl) ?_
          refine va_get (ci := 8) (v := .ref a_t_plan) (C := RX9) (T := TX9) (N := 28) hx hb hts in_X9_costOf_X9 hown hK hP 0 rfl rfl 12 (by decide) (hts _ lk_X9_costOf_0) (fun _ h9 => h9) rfl dX9_costOf_17 ?_
          refine lv_iload_n hx hb dX9_costOf_20 rfl (lv_at hl 3 rfl) ?_
          obtain ⟨hi77, hj61⟩ := zz_chkE hj61
          refine va_iald hx hb hK hP 1 0 rfl rfl hi77 dX9_costOf_21 ?_
          refine lv_aload_n hx hb dX9_costOf_22 rfl (lv_at hl 0 rfl) ?_
          refine va_get (ci := 8) (v := .ref a_t_plan) (C := RX9) (T := TX9) (N := 28) hx hb hts in_X9_costOf_X9 hown hK hP 0 rfl rfl 12 (by decide) (hts _ lk_X9_costOf_0) (fun _ h9 => h9) rfl dX9_costOf_23 ?_
          refine lv_iload_n hx hb dX9_costOf_26 rfl (lv_at hl 3 rfl) ?_
          refine lv_iconst (v := 1) hx hb dX9_costOf_27 (by decide) ?_
          refine lv_isub hx hb dX9_costOf_28 ?_
          obtain ⟨hi78, hj61⟩ := zz_chkE hj61
          refine va_iald hx hb hK hP 1 0 rfl rfl hi78 dX9_costOf_29 ?_
          refine lv_icmp_eq (tgt := 37) hx hb dX9_costOf_30 (by decide) (fun c79 => ?_) (fun c79 => ?_)
          · have hj61 := zz_if c79 hj61
            refine lv_iconst (v := 0) hx hb dX9_costOf_37 (by decide) ?_
            cases hj61
            exact hJ61 _ _ ls hP hD hS (lv_sub hl [0, 1, 2, 3] rfl)
          · have hj61 := zz_ifn c79 hj61
            refine lv_iconst (v := 1) hx hb dX9_costOf_33 (by decide) ?_
            refine lv_goto (tgt := 38) hx hb dX9_costOf_34 (by decide) ?_
            cases hj61
            exact hJ61 _ _ ls hP hD hS (lv_sub hl [0, 1, 2, 3] rfl)
  exact hL53 zz_fuel 0 0 0 _ _ ls hit53 hP hD hS (lv_sub hl [3, 2, 1, 0] rfl)
theorem hd_X9_cost : yX9_cost.cls ≠ "java/lang/invoke/MethodHandle" ∧ yX9_cost.cls ≠ "java/lang/invoke/VarHandle" ∧ (parseMethodDescriptor yX9_cost.desc).map (fun d => d.parameters.length) = some 0 := by decide +kernel
set_option maxHeartbeats 4000000 in
set_option maxRecDepth 100000 in
theorem ct_X9_cost (l : Launch) (dC : Nat → ClassId) (dI : Nat → Nat → Nat) (cI cJ cB cZ : ClassId) (a_t a_t_plan a_t_wantHouse a_t_wantNight a_t_wantWeight a_t_read a_t_papers a_t_paperMany a_t_text a_t_whose a_t_ahead a_t_best a_t_fines a_t_times a_t_isKept a_t_keptPlan a_t_keptFines a_t_keptTimes : Nat) (t_readMany : Int32) (t_length : Int32) (t_at : Int32) (t_faultAt : Int32) (t_year : Int32) (t_wordsNow : Int32) (t_mendChanges : Int32) (t_most : Int32) (t_above : Int32) (t_handing : Int32) (t_wants : Int32) (t_plan : (Nat → Int32)) (t_wantHouse : (Nat → Int32)) (t_wantNight : (Nat → Int32)) (t_wantWeight : (Nat → Int32)) (rr : Int32) (u0 : Unit) (h : fn_X9_cost t_most t_above t_handing t_wants t_plan t_wantHouse t_wantNight t_wantWeight = some (rr, u0)) : zz_M l yX9_cost wsX9_cost ({ frames := 2, cells := 0, slots := 0, locals := 48 }) (dC, dI) (zz_T cI cJ cB cZ) [.ref a_t] [(a_t, .inr (8, [.ref a_t_read, .int t_readMany, .ref a_t_papers, .ref a_t_paperMany, .ref a_t_text, .int t_length, .int t_at, .int t_faultAt, .int t_year, .int t_wordsNow, .ref a_t_whose, .int t_mendChanges, .ref a_t_plan, .int t_most, .int t_above, .int t_handing, .int t_wants, .ref a_t_wantNight, .ref a_t_wantHouse, .ref a_t_wantWeight, .ref a_t_ahead, .ref a_t_best, .ref a_t_fines, .ref a_t_times, .ref a_t_isKept, .ref a_t_keptPlan, .ref a_t_keptFines, .ref a_t_keptTimes])), (a_t_plan, .inl (cI, 56, .inl t_plan)), (a_t_wantHouse, .inl (cI, 12, .inl t_wantHouse)), (a_t_wantNight, .inl (cI, 12, .inl t_wantNight)), (a_t_wantWeight, .inl (cI, 12, .inl t_wantWeight))] (zz_QI (dC, dI) (zz_T cI cJ cB cZ) (rr, u0) (fun (u : Unit) => [(a_t, .inr (8, [.ref a_t_read, .int t_readMany, .ref a_t_papers, .ref a_t_paperMany, .ref a_t_text, .int t_length, .int t_at, .int t_faultAt, .int t_year, .int t_wordsNow, .ref a_t_whose, .int t_mendChanges, .ref a_t_plan, .int t_most, .int t_above, .int t_handing, .int t_wants, .ref a_t_wantNight, .ref a_t_wantHouse, .ref a_t_wantWeight, .ref a_t_ahead, .ref a_t_best, .ref a_t_fines, .ref a_t_times, .ref a_t_isKept, .ref a_t_keptPlan, .ref a_t_keptFines, .ref a_t_keptTimes])), (a_t_plan, .inl (cI, 56, .inl t_plan)), (a_t_wantHouse, .inl (cI, 12, .inl t_wantHouse)), (a_t_wantNight, .inl (cI, 12, .inl t_wantNight)), (a_t_wantWeight, .inl (cI, 12, .inl t_wantWeight))])) := by
  unfold fn_X9_cost at h
  refine zz_of (by decide) rfl (Nat.le_of_ble_eq_true rfl) ?_
  intro p e s m below meth c A ls hx hb hr hml hts hown hlocks hA hS hP hK hD hl
  have hown : s.vm.findClass RX9 = some m.cls := hown
  have hl : lv_has ls 1 [(0, .ref a_t)] := hl
  refine lv_aload_n hx hb dX9_cost_0 rfl (lv_at hl 0 rfl) ?_
  obtain ⟨x1, u2, he3, h⟩ := zz_b2E h
  refine zz_VI (q := (RX9, TX9, 28)) (As := []) (rest := []) (wr := []) (wm := [(a_t, .inr (8, [.ref a_t_read, .int t_readMany, .ref a_t_papers, .ref a_t_paperMany, .ref a_t_text, .int t_length, .int t_at, .int t_faultAt, .int t_year, .int t_wordsNow, .ref a_t_whose, .int t_mendChanges, .ref a_t_plan, .int t_most, .int t_above, .int t_handing, .int t_wants, .ref a_t_wantNight, .ref a_t_wantHouse, .ref a_t_wantWeight, .ref a_t_ahead, .ref a_t_best, .ref a_t_fines, .ref a_t_times, .ref a_t_isKept, .ref a_t_keptPlan, .ref a_t_keptFines, .ref a_t_keptTimes])), (a_t_plan, .inl (cI, 56, .inl t_plan)), (a_t_wantHouse, .inl (cI, 12, .inl t_wantHouse)), (a_t_wantNight, .inl (cI, 12, .inl t_wantNight)), (a_t_wantWeight, .inl (cI, 12, .inl t_wantWeight))]) ⟨hx, hb, hml, hown, hts⟩ (ct_X9_costOf l dC dI cI cJ cB cZ a_t a_t_plan a_t_wantHouse a_t_wantNight a_t_wantWeight a_t_read a_t_papers a_t_paperMany a_t_text a_t_whose a_t_ahead a_t_best a_t_fines a_t_times a_t_isKept a_t_keptPlan a_t_keptFines a_t_keptTimes t_readMany t_length t_at t_faultAt t_year t_wordsNow t_mendChanges t_most t_above t_handing t_wants t_plan t_wantHouse t_wantNight t_wantWeight x1 u2 he3) gX9_cost_X9_costOf hd_X9_costOf rfl rfl rfl ⟨Nat.le_of_ble_eq_true rfl, Nat.le_of_ble_eq_true rfl⟩ ⟨Nat.le_of_ble_eq_true rfl, Nat.le_of_ble_eq_true rfl⟩ rfl rfl (Nat.le_of_ble_eq_true rfl) dX9_cost_1 hl.1 rfl (ci := 8) rfl (q0 := 0) rfl hP hK hD hS hA [0, 1, 2, 3, 4] [] [0, 1, 2, 3, 4] rfl rfl (by decide) (by decide) (by decide) (by decide) rfl (fun H locs hP hD hS => ?_)
  exact zz_iret () hx hb hr hlocks dX9_cost_4 (Option.some.inj h) hP hK hD hS
theorem hd_X9_mayBe : yX9_mayBe.cls ≠ "java/lang/invoke/MethodHandle" ∧ yX9_mayBe.cls ≠ "java/lang/invoke/VarHandle" ∧ (parseMethodDescriptor yX9_mayBe.desc).map (fun d => d.parameters.length) = some 3 := by decide +kernel
set_option maxRecDepth 20000 in
theorem in_X9_mayBe_X9 : ∀ w ∈ u_ws RX9 TX9 28, w ∈ wsX9_mayBe := by decide +kernel
set_option maxRecDepth 20000 in
theorem lk_X9_mayBe_0 : Cond.fieldLink RX9 22 "TwoHousesOneChildModel" "whose" "[I" ∈ wsX9_mayBe := by decide +kernel
set_option maxHeartbeats 4000000 in
set_option maxRecDepth 100000 in
theorem ct_X9_mayBe (l : Launch) (dC : Nat → ClassId) (dI : Nat → Nat → Nat) (cI cJ cB cZ : ClassId) (a_t a_t_whose a_t_read a_t_papers a_t_paperMany a_t_text a_t_plan a_t_wantNight a_t_wantHouse a_t_wantWeight a_t_ahead a_t_best a_t_fines a_t_times a_t_isKept a_t_keptPlan a_t_keptFines a_t_keptTimes : Nat) (t_readMany : Int32) (t_length : Int32) (t_at : Int32) (t_faultAt : Int32) (t_year : Int32) (t_wordsNow : Int32) (t_mendChanges : Int32) (t_most : Int32) (t_above : Int32) (t_handing : Int32) (t_wants : Int32) (t_whose : (Nat → Int32)) (p1 : Int32) (p2 : Int32) (p3 : Int32) (rr : Int32) (u0 : Unit) (h : fn_X9_mayBe t_whose p1 p2 p3 = some (rr, u0)) : zz_M l yX9_mayBe wsX9_mayBe ({ frames := 0, cells := 0, slots := 0, locals := 0 }) (dC, dI) (zz_T cI cJ cB cZ) [.ref a_t, .int p1, .int p2, .int p3] [(a_t, .inr (8, [.ref a_t_read, .int t_readMany, .ref a_t_papers, .ref a_t_paperMany, .ref a_t_text, .int t_length, .int t_at, .int t_faultAt, .int t_year, .int t_wordsNow, .ref a_t_whose, .int t_mendChanges, .ref a_t_plan, .int t_most, .int t_above, .int t_handing, .int t_wants, .ref a_t_wantNight, .ref a_t_wantHouse, .ref a_t_wantWeight, .ref a_t_ahead, .ref a_t_best, .ref a_t_fines, .ref a_t_times, .ref a_t_isKept, .ref a_t_keptPlan, .ref a_t_keptFines, .ref a_t_keptTimes])), (a_t_whose, .inl (cI, 56, .inl t_whose))] (zz_QI (dC, dI) (zz_T cI cJ cB cZ) (rr, u0) (fun (u : Unit) => [(a_t, .inr (8, [.ref a_t_read, .int t_readMany, .ref a_t_papers, .ref a_t_paperMany, .ref a_t_text, .int t_length, .int t_at, .int t_faultAt, .int t_year, .int t_wordsNow, .ref a_t_whose, .int t_mendChanges, .ref a_t_plan, .int t_most, .int t_above, .int t_handing, .int t_wants, .ref a_t_wantNight, .ref a_t_wantHouse, .ref a_t_wantWeight, .ref a_t_ahead, .ref a_t_best, .ref a_t_fines, .ref a_t_times, .ref a_t_isKept, .ref a_t_keptPlan, .ref a_t_keptFines, .ref a_t_keptTimes])), (a_t_whose, .inl (cI, 56, .inl t_whose))])) := by
  unfold fn_X9_mayBe at h
  refine zz_of (by decide) rfl (Nat.le_of_ble_eq_true rfl) ?_
  intro p e s m below meth c A ls hx hb hr hml hts hown hlocks hA hS hP hK hD hl
  have hown : s.vm.findClass RX9 = some m.cls := hown
  have hl : lv_has ls 5 [(0, .ref a_t), (1, .int p1), (2, .int p2), (3, .int p3)] := hl
  refine lv_iload_n hx hb dX9_mayBe_0 rfl (lv_at hl 1 rfl) ?_
  refine lv_bipush (v := 7) hx hb dX9_mayBe_1 (by decide) ?_
  refine lv_irem hx hb dX9_mayBe_3 (by decide) ?_
  refine lv_topi (fun x2 ex2 => ?_)
  have h := zz_nmE ex2 h
  refine lv_istore (lv' := [(4, .int x2), (0, .ref a_t), (1, .int p1), (2, .int p2), (3, .int p3)]) hx hb dX9_mayBe_4 hl (by decide) rfl (fun ls hl => ?_)
  refine lv_iload_n hx hb dX9_mayBe_6 rfl (lv_at hl 4 rfl) ?_
  refine lv_if_eq (tgt := 33) hx hb dX9_mayBe_7 (by decide) (fun c3 => ?_) (fun c3 => ?_)
  · have h := zz_if c3 h
    refine lv_aload_n hx hb dX9_mayBe_33 rfl (lv_at hl 1 rfl) ?_
    refine va_get (ci := 8) (v := .ref a_t_whose) (C := RX9) (T := TX9) (N := 28) hx hb hts in_X9_mayBe_X9 hown hK hP 0 rfl rfl 10 (by decide) (hts _ lk_X9_mayBe_0) (fun _ h9 => h9) rfl dX9_mayBe_34 ?_
    refine lv_iload_n hx hb dX9_mayBe_37 rfl (lv_at hl 2 rfl) ?_
    obtain ⟨hi4, h⟩ := zz_chkE h
    refine va_iald hx hb hK hP 1 0 rfl rfl hi4 dX9_mayBe_38 ?_
    refine lv_iconst (v := 1) hx hb dX9_mayBe_39 (by decide) ?_
    refine lv_icmp_gt (tgt := 53) hx hb dX9_mayBe_40 (by decide) (fun c5 => ?_) (fun c5 => ?_)
    · have h := zz_if c5 h
      refine lv_iconst (v := 1) hx hb dX9_mayBe_53 (by decide) ?_
      refine lv_goto (tgt := 58) hx hb dX9_mayBe_54 (by decide) ?_
      exact zz_zret () hx hb hr hlocks dX9_mayBe_58 (by decide) (Option.some.inj h) hP hK hD hS
    · have h := zz_ifn c5 h
      refine lv_aload_n hx hb dX9_mayBe_43 rfl (lv_at hl 1 rfl) ?_
      refine va_get (ci := 8) (v := .ref a_t_whose) (C := RX9) (T := TX9) (N := 28) hx hb hts in_X9_mayBe_X9 hown hK hP 0 rfl rfl 10 (by decide) (hts _ lk_X9_mayBe_0) (fun _ h9 => h9) rfl dX9_mayBe_44 ?_
      refine lv_iload_n hx hb dX9_mayBe_47 rfl (lv_at hl 2 rfl) ?_
      obtain ⟨hi6, h⟩ := zz_chkE h
      refine va_iald hx hb hK hP 1 0 rfl rfl hi6 dX9_mayBe_48 ?_
      refine lv_iload_n hx hb dX9_mayBe_49 rfl (lv_at hl 3 rfl) ?_
      refine lv_icmp_ne (tgt := 57) hx hb dX9_mayBe_50 (by decide) (fun c7 => ?_) (fun c7 => ?_)
      · have h := zz_ifn c7 h
        refine lv_iconst (v := 0) hx hb dX9_mayBe_57 (by decide) ?_
        exact zz_zret () hx hb hr hlocks dX9_mayBe_58 (by decide) (Option.some.inj h) hP hK hD hS
      · have h := zz_if c7 h
        refine lv_iconst (v := 1) hx hb dX9_mayBe_53 (by decide) ?_
        refine lv_goto (tgt := 58) hx hb dX9_mayBe_54 (by decide) ?_
        exact zz_zret () hx hb hr hlocks dX9_mayBe_58 (by decide) (Option.some.inj h) hP hK hD hS
  · have h := zz_ifn c3 h
    refine lv_iload hx hb dX9_mayBe_10 (lv_at hl 0 rfl) ?_
    refine lv_bipush (v := 6) hx hb dX9_mayBe_12 (by decide) ?_
    refine lv_icmp_eq (tgt := 23) hx hb dX9_mayBe_14 (by decide) (fun c8 => ?_) (fun c8 => ?_)
    · have h := zz_if c8 h
      refine lv_iload_n hx hb dX9_mayBe_23 rfl (lv_at hl 3 rfl) ?_
      refine lv_if_ne (tgt := 31) hx hb dX9_mayBe_24 (by decide) (fun c9 => ?_) (fun c9 => ?_)
      · have h := zz_ifn c9 h
        refine lv_iconst (v := 0) hx hb dX9_mayBe_31 (by decide) ?_
        exact zz_zret () hx hb hr hlocks dX9_mayBe_32 (by decide) (Option.some.inj h) hP hK hD hS
      · have h := zz_if c9 h
        refine lv_iconst (v := 1) hx hb dX9_mayBe_27 (by decide) ?_
        refine lv_goto (tgt := 32) hx hb dX9_mayBe_28 (by decide) ?_
        exact zz_zret () hx hb hr hlocks dX9_mayBe_32 (by decide) (Option.some.inj h) hP hK hD hS
    · have h := zz_ifn c8 h
      refine lv_iload hx hb dX9_mayBe_17 (lv_at hl 0 rfl) ?_
      refine lv_iconst (v := 4) hx hb dX9_mayBe_19 (by decide) ?_
      refine lv_icmp_ge (tgt := 33) hx hb dX9_mayBe_20 (by decide) (fun c10 => ?_) (fun c10 => ?_)
      · have h := zz_if c10 h
        refine lv_aload_n hx hb dX9_mayBe_33 rfl (lv_at hl 1 rfl) ?_
        refine va_get (ci := 8) (v := .ref a_t_whose) (C := RX9) (T := TX9) (N := 28) hx hb hts in_X9_mayBe_X9 hown hK hP 0 rfl rfl 10 (by decide) (hts _ lk_X9_mayBe_0) (fun _ h9 => h9) rfl dX9_mayBe_34 ?_
        refine lv_iload_n hx hb dX9_mayBe_37 rfl (lv_at hl 2 rfl) ?_
        obtain ⟨hi11, h⟩ := zz_chkE h
        refine va_iald hx hb hK hP 1 0 rfl rfl hi11 dX9_mayBe_38 ?_
        refine lv_iconst (v := 1) hx hb dX9_mayBe_39 (by decide) ?_
        refine lv_icmp_gt (tgt := 53) hx hb dX9_mayBe_40 (by decide) (fun c12 => ?_) (fun c12 => ?_)
        · have h := zz_if c12 h
          refine lv_iconst (v := 1) hx hb dX9_mayBe_53 (by decide) ?_
          refine lv_goto (tgt := 58) hx hb dX9_mayBe_54 (by decide) ?_
          exact zz_zret () hx hb hr hlocks dX9_mayBe_58 (by decide) (Option.some.inj h) hP hK hD hS
        · have h := zz_ifn c12 h
          refine lv_aload_n hx hb dX9_mayBe_43 rfl (lv_at hl 1 rfl) ?_
          refine va_get (ci := 8) (v := .ref a_t_whose) (C := RX9) (T := TX9) (N := 28) hx hb hts in_X9_mayBe_X9 hown hK hP 0 rfl rfl 10 (by decide) (hts _ lk_X9_mayBe_0) (fun _ h9 => h9) rfl dX9_mayBe_44 ?_
          refine lv_iload_n hx hb dX9_mayBe_47 rfl (lv_at hl 2 rfl) ?_
          obtain ⟨hi13, h⟩ := zz_chkE h
          refine va_iald hx hb hK hP 1 0 rfl rfl hi13 dX9_mayBe_48 ?_
          refine lv_iload_n hx hb dX9_mayBe_49 rfl (lv_at hl 3 rfl) ?_
          refine lv_icmp_ne (tgt := 57) hx hb dX9_mayBe_50 (by decide) (fun c14 => ?_) (fun c14 => ?_)
          · have h := zz_ifn c14 h
            refine lv_iconst (v := 0) hx hb dX9_mayBe_57 (by decide) ?_
            exact zz_zret () hx hb hr hlocks dX9_mayBe_58 (by decide) (Option.some.inj h) hP hK hD hS
          · have h := zz_if c14 h
            refine lv_iconst (v := 1) hx hb dX9_mayBe_53 (by decide) ?_
            refine lv_goto (tgt := 58) hx hb dX9_mayBe_54 (by decide) ?_
            exact zz_zret () hx hb hr hlocks dX9_mayBe_58 (by decide) (Option.some.inj h) hP hK hD hS
      · have h := zz_ifn c10 h
        refine lv_iload_n hx hb dX9_mayBe_23 rfl (lv_at hl 3 rfl) ?_
        refine lv_if_ne (tgt := 31) hx hb dX9_mayBe_24 (by decide) (fun c15 => ?_) (fun c15 => ?_)
        · have h := zz_ifn c15 h
          refine lv_iconst (v := 0) hx hb dX9_mayBe_31 (by decide) ?_
          exact zz_zret () hx hb hr hlocks dX9_mayBe_32 (by decide) (Option.some.inj h) hP hK hD hS
        · have h := zz_if c15 h
          refine lv_iconst (v := 1) hx hb dX9_mayBe_27 (by decide) ?_
          refine lv_goto (tgt := 32) hx hb dX9_mayBe_28 (by decide) ?_
          exact zz_zret () hx hb hr hlocks dX9_mayBe_32 (by decide) (Option.some.inj h) hP hK hD hS
theorem hd_X9_from : yX9_from.cls ≠ "java/lang/invoke/MethodHandle" ∧ yX9_from.cls ≠ "java/lang/invoke/VarHandle" ∧ (parseMethodDescriptor yX9_from.desc).map (fun d => d.parameters.length) = some 5 := by decide +kernel
set_option maxRecDepth 20000 in
theorem in_X9_from_X9 : ∀ w ∈ u_ws RX9 TX9 28, w ∈ wsX9_from := by decide +kernel
set_option maxRecDepth 20000 in
theorem lk_X9_from_0 : Cond.fieldLink RX9 62 "TwoHousesOneChildModel" "most" "I" ∈ wsX9_from := by decide +kernel
set_option maxRecDepth 20000 in
theorem lk_X9_from_1 : Cond.fieldLink RX9 37 "TwoHousesOneChildModel" "ahead" "[I" ∈ wsX9_from := by decide +kernel
set_option maxRecDepth 20000 in
theorem lk_X9_from_2 : Cond.fieldLink RX9 69 "TwoHousesOneChildModel" "handing" "I" ∈ wsX9_from := by decide +kernel
set_option maxRecDepth 20000 in
theorem lk_X9_from_3 : Cond.fieldLink RX9 66 "TwoHousesOneChildModel" "above" "I" ∈ wsX9_from := by decide +kernel
set_option maxRecDepth 20000 in
theorem lk_X9_from_4 : Cond.constant RX9 166 (1000000) ∈ wsX9_from := by decide +kernel
set_option maxHeartbeats 4000000 in
set_option maxRecDepth 100000 in
theorem ct_X9_from (l : Launch) (dC : Nat → ClassId) (dI : Nat → Nat → Nat) (cI cJ cB cZ : ClassId) (a_t a_t_ahead a_t_wantHouse a_t_wantNight a_t_wantWeight a_t_whose a_t_read a_t_papers a_t_paperMany a_t_text a_t_plan a_t_best a_t_fines a_t_times a_t_isKept a_t_keptPlan a_t_keptFines a_t_keptTimes : Nat) (t_readMany : Int32) (t_length : Int32) (t_at : Int32) (t_faultAt : Int32) (t_year : Int32) (t_wordsNow : Int32) (t_mendChanges : Int32) (t_most : Int32) (t_above : Int32) (t_handing : Int32) (t_wants : Int32) (t_ahead : (Nat → Int32)) (t_wantHouse : (Nat → Int32)) (t_wantNight : (Nat → Int32)) (t_wantWeight : (Nat → Int32)) (t_whose : (Nat → Int32)) (p1 : Int32) (p2 : Int32) (p3 : Int32) (p4 : Int32) (p5 : Int32) (rr : Int32) (u0 : Unit) (h : fn_X9_from t_most t_above t_handing t_wants t_ahead t_wantHouse t_wantNight t_wantWeight t_whose p1 p2 p3 p4 p5 = some (rr, u0)) : zz_M l yX9_from wsX9_from ({ frames := 1, cells := 0, slots := 0, locals := 24 }) (dC, dI) (zz_T cI cJ cB cZ) [.ref a_t, .int p1, .int p2, .int p3, .int p4, .int p5] [(a_t, .inr (8, [.ref a_t_read, .int t_readMany, .ref a_t_papers, .ref a_t_paperMany, .ref a_t_text, .int t_length, .int t_at, .int t_faultAt, .int t_year, .int t_wordsNow, .ref a_t_whose, .int t_mendChanges, .ref a_t_plan, .int t_most, .int t_above, .int t_handing, .int t_wants, .ref a_t_wantNight, .ref a_t_wantHouse, .ref a_t_wantWeight, .ref a_t_ahead, .ref a_t_best, .ref a_t_fines, .ref a_t_times, .ref a_t_isKept, .ref a_t_keptPlan, .ref a_t_keptFines, .ref a_t_keptTimes])), (a_t_ahead, .inl (cI, 1824, .inl t_ahead)), (a_t_wantHouse, .inl (cI, 12, .inl t_wantHouse)), (a_t_wantNight, .inl (cI, 12, .inl t_wantNight)), (a_t_wantWeight, .inl (cI, 12, .inl t_wantWeight)), (a_t_whose, .inl (cI, 56, .inl t_whose))] (zz_QI (dC, dI) (zz_T cI cJ cB cZ) (rr, u0) (fun (u : Unit) => [(a_t, .inr (8, [.ref a_t_read, .int t_readMany, .ref a_t_papers, .ref a_t_paperMany, .ref a_t_text, .int t_length, .int t_at, .int t_faultAt, .int t_year, .int t_wordsNow, .ref a_t_whose, .int t_mendChanges, .ref a_t_plan, .int t_most, .int t_above, .int t_handing, .int t_wants, .ref a_t_wantNight, .ref a_t_wantHouse, .ref a_t_wantWeight, .ref a_t_ahead, .ref a_t_best, .ref a_t_fines, .ref a_t_times, .ref a_t_isKept, .ref a_t_keptPlan, .ref a_t_keptFines, .ref a_t_keptTimes])), (a_t_ahead, .inl (cI, 1824, .inl t_ahead)), (a_t_wantHouse, .inl (cI, 12, .inl t_wantHouse)), (a_t_wantNight, .inl (cI, 12, .inl t_wantNight)), (a_t_wantWeight, .inl (cI, 12, .inl t_wantWeight)), (a_t_whose, .inl (cI, 56, .inl t_whose))])) := by
  unfold fn_X9_from at h
  refine zz_of (by decide) rfl (Nat.le_of_ble_eq_true rfl) ?_
  intro p e s m below meth c A ls hx hb hr hml hts hown hlocks hA hS hP hK hD hl
  have hown : s.vm.findClass RX9 = some m.cls := hown
  have hl : lv_has ls 9 [(0, .ref a_t), (1, .int p1), (2, .int p2), (3, .int p3), (4, .int p4), (5, .int p5)] := hl
  refine lv_aload_n hx hb dX9_from_0 rfl (lv_at hl 0 rfl) ?_
  refine lv_iload_n hx hb dX9_from_1 rfl (lv_at hl 1 rfl) ?_
  refine lv_iload_n hx hb dX9_from_2 rfl (lv_at hl 2 rfl) ?_
  refine lv_iload hx hb dX9_from_3 (lv_at hl 5 rfl) ?_
  obtain ⟨x1, u2, he3, h⟩ := zz_b2E h
  refine zz_VI (q := (RX9, TX9, 28)) (As := [.int p1, .int p2, .int p5]) (rest := []) (wr := [(a_t_ahead, .inl (cI, 1824, .inl t_ahead)), (a_t_wantHouse, .inl (cI, 12, .inl t_wantHouse)), (a_t_wantNight, .inl (cI, 12, .inl t_wantNight)), (a_t_wantWeight, .inl (cI, 12, .inl t_wantWeight))]) (wm := [(a_t, .inr (8, [.ref a_t_read, .int t_readMany, .ref a_t_papers, .ref a_t_paperMany, .ref a_t_text, .int t_length, .int t_at, .int t_faultAt, .int t_year, .int t_wordsNow, .ref a_t_whose, .int t_mendChanges, .ref a_t_plan, .int t_most, .int t_above, .int t_handing, .int t_wants, .ref a_t_wantNight, .ref a_t_wantHouse, .ref a_t_wantWeight, .ref a_t_ahead, .ref a_t_best, .ref a_t_fines, .ref a_t_times, .ref a_t_isKept, .ref a_t_keptPlan, .ref a_t_keptFines, .ref a_t_keptTimes])), (a_t_ahead, .inl (cI, 1824, .inl t_ahead)), (a_t_wantHouse, .inl (cI, 12, .inl t_wantHouse)), (a_t_wantNight, .inl (cI, 12, .inl t_wantNight)), (a_t_wantWeight, .inl (cI, 12, .inl t_wantWeight)), (a_t_whose, .inl (cI, 56, .inl t_whose))]) ⟨hx, hb, hml, hown, hts⟩ (ct_X9_mayBe l dC dI cI cJ cB cZ a_t a_t_whose a_t_read a_t_papers a_t_paperMany a_t_text a_t_plan a_t_wantNight a_t_wantHouse a_t_wantWeight a_t_ahead a_t_best a_t_fines a_t_times a_t_isKept a_t_keptPlan a_t_keptFines a_t_keptTimes t_readMany t_length t_at t_faultAt t_year t_wordsNow t_mendChanges t_most t_above t_handing t_wants t_whose p1 p2 p5 x1 u2 he3) gX9_from_X9_mayBe hd_X9_mayBe rfl rfl rfl ⟨Nat.le_of_ble_eq_true rfl, Nat.le_of_ble_eq_true rfl⟩ ⟨Nat.le_of_ble_eq_true rfl, Nat.le_of_ble_eq_true rfl⟩ rfl rfl (Nat.le_of_ble_eq_true rfl) dX9_from_5 hl.1 rfl (ci := 8) rfl (q0 := 0) rfl hP hK hD hS hA [0, 5] [1, 2, 3, 4] [4, 0, 1, 2, 3, 5] rfl rfl (by decide) (by decide) (by decide) (by decide) rfl (fun H locs hP hD hS => ?_)
  refine lv_if_ne (tgt := 14) hx hb dX9_from_8 (by decide) (fun c4 => ?_) (fun c4 => ?_)
  · have h := zz_ifn c4 h
    refine lv_iload hx hb dX9_from_14 (lv_at hl 4 rfl) ?_
    obtain ⟨x7, hj8, h⟩ := zz_b1E h
    refine zz_cut (fun V => ∀ (H : Heap) (locs : List Loc) (ls : Array Slot), va_P (dC, dI) vwCl [(a_t, .inr (8, [.ref a_t_read, .int t_readMany, .ref a_t_papers, .ref a_t_paperMany, .ref a_t_text, .int t_length, .int t_at, .int t_faultAt, .int t_year, .int t_wordsNow, .ref a_t_whose, .int t_mendChanges, .ref a_t_plan, .int t_most, .int t_above, .int t_handing, .int t_wants, .ref a_t_wantNight, .ref a_t_wantHouse, .ref a_t_wantWeight, .ref a_t_ahead, .ref a_t_best, .ref a_t_fines, .ref a_t_times, .ref a_t_isKept, .ref a_t_keptPlan, .ref a_t_keptFines, .ref a_t_keptTimes])), (a_t_ahead, .inl (cI, 1824, .inl t_ahead)), (a_t_wantHouse, .inl (cI, 12, .inl t_wantHouse)), (a_t_wantNight, .inl (cI, 12, .inl t_wantNight)), (a_t_wantWeight, .inl (cI, 12, .inl t_wantWeight)), (a_t_whose, .inl (cI, 56, .inl t_whose))] H → va_D A [(a_t, .inr (8, [.ref a_t_read, .int t_readMany, .ref a_t_papers, .ref a_t_paperMany, .ref a_t_text, .int t_length, .int t_at, .int t_faultAt, .int t_year, .int t_wordsNow, .ref a_t_whose, .int t_mendChanges, .ref a_t_plan, .int t_most, .int t_above, .int t_handing, .int t_wants, .ref a_t_wantNight, .ref a_t_wantHouse, .ref a_t_wantWeight, .ref a_t_ahead, .ref a_t_best, .ref a_t_fines, .ref a_t_times, .ref a_t_isKept, .ref a_t_keptPlan, .ref a_t_keptFines, .ref a_t_keptTimes])), (a_t_ahead, .inl (cI, 1824, .inl t_ahead)), (a_t_wantHouse, .inl (cI, 12, .inl t_wantHouse)), (a_t_wantNight, .inl (cI, 12, .inl t_wantNight)), (a_t_wantWeight, .inl (cI, 12, .inl t_wantWeight)), (a_t_whose, .inl (cI, 56, .inl t_whose))] → va_S A s.heap H locs → lv_has ls 9 [(0, .ref a_t), (1, .int p1), (2, .int p2), (4, .int p4)] → V H locs (F0 m 29 ls [.int x7])) ?_ (fun hJ8 => ?_)
    · intro H locs ls hP hD hS hl
      refine lv_istore (lv' := [(6, .int x7), (0, .ref a_t), (1, .int p1), (2, .int p2), (4, .int p4)]) hx hb dX9_from_29 hl (by decide) rfl (fun ls hl => ?_)
      refine lv_iload hx hb dX9_from_31 (lv_at hl 0 rfl) ?_
      obtain ⟨x12, hj13, h⟩ := zz_b1E h
      refine zz_cut (fun V => ∀ (H : Heap) (locs : List Loc) (ls : Array Slot), va_P (dC, dI) vwCl [(a_t, .inr (8, [.ref a_t_read, .int t_readMany, .ref a_t_papers, .ref a_t_paperMany, .ref a_t_text, .int t_length, .int t_at, .int t_faultAt, .int t_year, .int t_wordsNow, .ref a_t_whose, .int t_mendChanges, .ref a_t_plan, .int t_most, .int t_above, .int t_handing, .int t_wants, .ref a_t_wantNight, .ref a_t_wantHouse, .ref a_t_wantWeight, .ref a_t_ahead, .ref a_t_best, .ref a_t_fines, .ref a_t_times, .ref a_t_isKept, .ref a_t_keptPlan, .ref a_t_keptFines, .ref a_t_keptTimes])), (a_t_ahead, .inl (cI, 1824, .inl t_ahead)), (a_t_wantHouse, .inl (cI, 12, .inl t_wantHouse)), (a_t_wantNight, .inl (cI, 12, .inl t_wantNight)), (a_t_wantWeight, .inl (cI, 12, .inl t_wantWeight)), (a_t_whose, .inl (cI, 56, .inl t_whose))] H → va_D A [(a_t, .inr (8, [.ref a_t_read, .int t_readMany, .ref a_t_papers, .ref a_t_paperMany, .ref a_t_text, .int t_length, .int t_at, .int t_faultAt, .int t_year, .int t_wordsNow, .ref a_t_whose, .int t_mendChanges, .ref a_t_plan, .int t_most, .int t_above, .int t_handing, .int t_wants, .ref a_t_wantNight, .ref a_t_wantHouse, .ref a_t_wantWeight, .ref a_t_ahead, .ref a_t_best, .ref a_t_fines, .ref a_t_times, .ref a_t_isKept, .ref a_t_keptPlan, .ref a_t_keptFines, .ref a_t_keptTimes])), (a_t_ahead, .inl (cI, 1824, .inl t_ahead)), (a_t_wantHouse, .inl (cI, 12, .inl t_wantHouse)), (a_t_wantNight, .inl (cI, 12, .inl t_wantNight)), (a_t_wantWeight, .inl (cI, 12, .inl t_wantWeight)), (a_t_whose, .inl (cI, 56, .inl t_whose))] → va_S A s.heap H locs → lv_has ls 9 [(0, .ref a_t), (1, .int p1), (2, .int p2), (6, .int x7)] → V H locs (F0 m 63 ls [.int x12])) ?_ (fun hJ13 => ?_)
      · intro H locs ls hP hD hS hl
        refine lv_istore (lv' := [(7, .int x12), (0, .ref a_t), (1, .int p1), (2, .int p2), (6, .int x7)]) hx hb dX9_from_63 hl (by decide) rfl (fun ls hl => ?_)
        refine lv_aload_n hx hb dX9_from_65 rfl (lv_at hl 1 rfl) ?_
        refine va_get (ci := 8) (v := .ref a_t_ahead) (C := RX9) (T := TX9) (N := 28) hx hb hts in_X9_from_X9 hown hK hP 0 rfl rfl 20 (by decide) (hts _ lk_X9_from_1) (fun _ h9 => h9) rfl dX9_from_66 ?_
        refine lv_bipush (v := 32) hx hb dX9_from_69 (by decide) ?_
        refine lv_iload_n hx hb dX9_from_71 rfl (lv_at hl 2 rfl) ?_
        refine lv_imul hx hb dX9_from_72 ?_
        refine lv_bipush (v := 32) hx hb dX9_from_73 (by decide) ?_
        refine lv_iadd hx hb dX9_from_75 ?_
        refine lv_bipush (v := 16) hx hb dX9_from_76 (by decide) ?_
        refine lv_iload_n hx hb dX9_from_78 rfl (lv_at hl 3 rfl) ?_
        refine lv_imul hx hb dX9_from_79 ?_
        refine lv_iadd hx hb dX9_from_80 ?_
        refine lv_iload hx hb dX9_from_81 (lv_at hl 0 rfl) ?_
        refine lv_iadd hx hb dX9_from_83 ?_
        obtain ⟨hi14, h⟩ := zz_chkE h
        refine va_iald hx hb hK hP 1 0 rfl rfl hi14 dX9_from_84 ?_
        refine lv_topi (fun x15 ex15 => ?_)
        have h := zz_nmE ex15 h
        refine lv_istore (lv' := [(8, .int x15), (7, .int x12), (0, .ref a_t), (1, .int p1), (2, .int p2), (6, .int x7)]) hx hb dX9_from_85 hl (by decide) rfl (fun ls hl => ?_)
        refine lv_iload hx hb dX9_from_87 (lv_at hl 0 rfl) ?_
        refine lv_iload hx hb dX9_from_89 (lv_at hl 5 rfl) ?_
        obtain ⟨x17, hj18, h⟩ := zz_b1E h
        refine zz_cut (fun V => ∀ (H : Heap) (locs : List Loc) (ls : Array Slot), va_P (dC, dI) vwCl [(a_t, .inr (8, [.ref a_t_read, .int t_readMany, .ref a_t_papers, .ref a_t_paperMany, .ref a_t_text, .int t_length, .int t_at, .int t_faultAt, .int t_year, .int t_wordsNow, .ref a_t_whose, .int t_mendChanges, .ref a_t_plan, .int t_most, .int t_above, .int t_handing, .int t_wants, .ref a_t_wantNight, .ref a_t_wantHouse, .ref a_t_wantWeight, .ref a_t_ahead, .ref a_t_best, .ref a_t_fines, .ref a_t_times, .ref a_t_isKept, .ref a_t_keptPlan, .ref a_t_keptFines, .ref a_t_keptTimes])), (a_t_ahead, .inl (cI, 1824, .inl t_ahead)), (a_t_wantHouse, .inl (cI, 12, .inl t_wantHouse)), (a_t_wantNight, .inl (cI, 12, .inl t_wantNight)), (a_t_wantWeight, .inl (cI, 12, .inl t_wantWeight)), (a_t_whose, .inl (cI, 56, .inl t_whose))] H → va_D A [(a_t, .inr (8, [.ref a_t_read, .int t_readMany, .ref a_t_papers, .ref a_t_paperMany, .ref a_t_text, .int t_length, .int t_at, .int t_faultAt, .int t_year, .int t_wordsNow, .ref a_t_whose, .int t_mendChanges, .ref a_t_plan, .int t_most, .int t_above, .int t_handing, .int t_wants, .ref a_t_wantNight, .ref a_t_wantHouse, .ref a_t_wantWeight, .ref a_t_ahead, .ref a_t_best, .ref a_t_fines, .ref a_t_times, .ref a_t_isKept, .ref a_t_keptPlan, .ref a_t_keptFines, .ref a_t_keptTimes])), (a_t_ahead, .inl (cI, 1824, .inl t_ahead)), (a_t_wantHouse, .inl (cI, 12, .inl t_wantHouse)), (a_t_wantNight, .inl (cI, 12, .inl t_wantNight)), (a_t_wantWeight, .inl (cI, 12, .inl t_wantWeight)), (a_t_whose, .inl (cI, 56, .inl t_whose))] → va_S A s.heap H locs → lv_has ls 9 [(0, .ref a_t), (1, .int p1), (2, .int p2), (7, .int x12)] → V H locs (F0 m 102 ls [.int x17, .int x15])) ?_ (fun hJ18 => ?_)
        · intro H locs ls hP hD hS hl
          refine lv_iadd hx hb dX9_from_102 ?_
          refine lv_iload hx hb dX9_from_103 (lv_at hl 3 rfl) ?_
          refine lv_aload_n hx hb dX9_from_105 rfl (lv_at hl 0 rfl) ?_
          refine va_get (ci := 8) (v := .int t_most) (C := RX9) (T := TX9) (N := 28) hx hb hts in_X9_from_X9 hown hK hP 0 rfl rfl 13 (by decide) (hts _ lk_X9_from_0) (fun _ h9 => h9) rfl dX9_from_106 ?_
          obtain ⟨x20, hj21, h⟩ := zz_b1E h
          refine zz_cut (fun V => ∀ (H : Heap) (locs : List Loc) (ls : Array Slot), va_P (dC, dI) vwCl [(a_t, .inr (8, [.ref a_t_read, .int t_readMany, .ref a_t_papers, .ref a_t_paperMany, .ref a_t_text, .int t_length, .int t_at, .int t_faultAt, .int t_year, .int t_wordsNow, .ref a_t_whose, .int t_mendChanges, .ref a_t_plan, .int t_most, .int t_above, .int t_handing, .int t_wants, .ref a_t_wantNight, .ref a_t_wantHouse, .ref a_t_wantWeight, .ref a_t_ahead, .ref a_t_best, .ref a_t_fines, .ref a_t_times, .ref a_t_isKept, .ref a_t_keptPlan, .ref a_t_keptFines, .ref a_t_keptTimes])), (a_t_ahead, .inl (cI, 1824, .inl t_ahead)), (a_t_wantHouse, .inl (cI, 12, .inl t_wantHouse)), (a_t_wantNight, .inl (cI, 12, .inl t_wantNight)), (a_t_wantWeight, .inl (cI, 12, .inl t_wantWeight)), (a_t_whose, .inl (cI, 56, .inl t_whose))] H → va_D A [(a_t, .inr (8, [.ref a_t_read, .int t_readMany, .ref a_t_papers, .ref a_t_paperMany, .ref a_t_text, .int t_length, .int t_at, .int t_faultAt, .int t_year, .int t_wordsNow, .ref a_t_whose, .int t_mendChanges, .ref a_t_plan, .int t_most, .int t_above, .int t_handing, .int t_wants, .ref a_t_wantNight, .ref a_t_wantHouse, .ref a_t_wantWeight, .ref a_t_ahead, .ref a_t_best, .ref a_t_fines, .ref a_t_times, .ref a_t_isKept, .ref a_t_keptPlan, .ref a_t_keptFines, .ref a_t_keptTimes])), (a_t_ahead, .inl (cI, 1824, .inl t_ahead)), (a_t_wantHouse, .inl (cI, 12, .inl t_wantHouse)), (a_t_wantNight, .inl (cI, 12, .inl t_wantNight)), (a_t_wantWeight, .inl (cI, 12, .inl t_wantWeight)), (a_t_whose, .inl (cI, 56, .inl t_whose))] → va_S A s.heap H locs → lv_has ls 9 [(0, .ref a_t), (1, .int p1), (2, .int p2)] → V H locs (F0 m 120 ls [.int x20, .int (x15 + x17)])) ?_ (fun hJ21 => ?_)
          · intro H locs ls hP hD hS hl
            refine lv_iadd hx hb dX9_from_120 ?_
            refine lv_aload_n hx hb dX9_from_121 rfl (lv_at hl 0 rfl) ?_
            refine lv_iload_n hx hb dX9_from_122 rfl (lv_at hl 1 rfl) ?_
            refine lv_iload_n hx hb dX9_from_123 rfl (lv_at hl 2 rfl) ?_
            obtain ⟨x22, u23, he24, h⟩ := zz_b2E h
            refine zz_VI (q := (RX9, TX9, 28)) (As := [.int p1, .int p2]) (rest := [.int ((x15 + x17) + x20)]) (wr := [(a_t_ahead, .inl (cI, 1824, .inl t_ahead)), (a_t_whose, .inl (cI, 56, .inl t_whose))]) (wm := [(a_t, .inr (8, [.ref a_t_read, .int t_readMany, .ref a_t_papers, .ref a_t_paperMany, .ref a_t_text, .int t_length, .int t_at, .int t_faultAt, .int t_year, .int t_wordsNow, .ref a_t_whose, .int t_mendChanges, .ref a_t_plan, .int t_most, .int t_above, .int t_handing, .int t_wants, .ref a_t_wantNight, .ref a_t_wantHouse, .ref a_t_wantWeight, .ref a_t_ahead, .ref a_t_best, .ref a_t_fines, .ref a_t_times, .ref a_t_isKept, .ref a_t_keptPlan, .ref a_t_keptFines, .ref a_t_keptTimes])), (a_t_ahead, .inl (cI, 1824, .inl t_ahead)), (a_t_wantHouse, .inl (cI, 12, .inl t_wantHouse)), (a_t_wantNight, .inl (cI, 12, .inl t_wantNight)), (a_t_wantWeight, .inl (cI, 12, .inl t_wantWeight)), (a_t_whose, .inl (cI, 56, .inl t_whose))]) ⟨hx, hb, hml, hown, hts⟩ (ct_X9_unwanted l dC dI cI cJ cB cZ a_t a_t_wantHouse a_t_wantNight a_t_wantWeight a_t_read a_t_papers a_t_paperMany a_t_text a_t_whose a_t_plan a_t_ahead a_t_best a_t_fines a_t_times a_t_isKept a_t_keptPlan a_t_keptFines a_t_keptTimes t_readMany t_length t_at t_faultAt t_year t_wordsNow t_mendChanges t_most t_above t_handing t_wants t_wantHouse t_wantNight t_wantWeight p1 p2 x22 u23 he24) gX9_from_X9_unwanted hd_X9_unwanted rfl rfl rfl ⟨Nat.le_of_ble_eq_true rfl, Nat.le_of_ble_eq_true rfl⟩ ⟨Nat.le_of_ble_eq_true rfl, Nat.le_of_ble_eq_true rfl⟩ rfl rfl (Nat.le_of_ble_eq_true rfl) dX9_from_124 hl.1 rfl (ci := 8) rfl (q0 := 0) rfl hP hK hD hS hA [0, 2, 3, 4] [1, 5] [2, 0, 3, 4, 5, 1] rfl rfl (by decide) (by decide) (by decide) (by decide) rfl (fun H locs hP hD hS => ?_)
            refine lv_iadd hx hb dX9_from_127 ?_
            exact zz_iret () hx hb hr hlocks dX9_from_128 (Option.some.inj h) hP hK hD hS
          refine lv_icmp_le (tgt := 119) hx hb dX9_from_109 (by decide) (fun c19 => ?_) (fun c19 => ?_)
          · have hj21 := zz_if c19 hj21
            refine lv_iconst (v := 0) hx hb dX9_from_119 (by decide) ?_
            cases hj21
            exact hJ21 _ _ ls hP hD hS (lv_sub hl [0, 1, 2] rfl)
          · have hj21 := zz_ifn c19 hj21
            refine lv_aload_n hx hb dX9_from_112 rfl (lv_at hl 0 rfl) ?_
            refine va_get (ci := 8) (v := .int t_above) (C := RX9) (T := TX9) (N := 28) hx hb hts in_X9_from_X9 hown hK hP 0 rfl rfl 14 (by decide) (hts _ lk_X9_from_3) (fun _ h9 => h9) rfl dX9_from_113 ?_
            refine lv_goto (tgt := 120) hx hb dX9_from_116 (by decide) ?_
            cases hj21
            exact hJ21 _ _ ls hP hD hS (lv_sub hl [0, 1, 2] rfl)
        refine lv_if_eq (tgt := 101) hx hb dX9_from_91 (by decide) (fun c16 => ?_) (fun c16 => ?_)
        · have hj18 := zz_if c16 hj18
          refine lv_iconst (v := 0) hx hb dX9_from_101 (by decide) ?_
          cases hj18
          exact hJ18 _ _ ls hP hD hS (lv_sub hl [2, 3, 4, 1] rfl)
        · have hj18 := zz_ifn c16 hj18
          refine lv_aload_n hx hb dX9_from_94 rfl (lv_at hl 2 rfl) ?_
          refine va_get (ci := 8) (v := .int t_handing) (C := RX9) (T := TX9) (N := 28) hx hb hts in_X9_from_X9 hown hK hP 0 rfl rfl 15 (by decide) (hts _ lk_X9_from_2) (fun _ h9 => h9) rfl dX9_from_95 ?_
          refine lv_goto (tgt := 102) hx hb dX9_from_98 (by decide) ?_
          cases hj18
          exact hJ18 _ _ ls hP hD hS (lv_sub hl [2, 3, 4, 1] rfl)
      refine lv_if_ne (tgt := 41) hx hb dX9_from_33 (by decide) (fun c9 => ?_) (fun c9 => ?_)
      · have hj13 := zz_ifn c9 hj13
        refine lv_iconst (v := 1) hx hb dX9_from_41 (by decide) ?_
        refine lv_goto (tgt := 63) hx hb dX9_from_42 (by decide) ?_
        cases hj13
        exact hJ13 _ _ ls hP hD hS (lv_sub hl [1, 2, 3, 0] rfl)
      · have hj13 := zz_if c9 hj13
        refine lv_iload hx hb dX9_from_36 (lv_at hl 4 rfl) ?_
        refine lv_if_ne (tgt := 45) hx hb dX9_from_38 (by decide) (fun c25 => ?_) (fun c25 => ?_)
        · have hj13 := zz_ifn c25 hj13
          refine lv_iload hx hb dX9_from_45 (lv_at hl 4 rfl) ?_
          refine lv_aload_n hx hb dX9_from_47 rfl (lv_at hl 1 rfl) ?_
          refine va_get (ci := 8) (v := .int t_most) (C := RX9) (T := TX9) (N := 28) hx hb hts in_X9_from_X9 hown hK hP 0 rfl rfl 13 (by decide) (hts _ lk_X9_from_0) (fun _ h9 => h9) rfl dX9_from_48 ?_
          refine lv_icmp_le (tgt := 59) hx hb dX9_from_51 (by decide) (fun c26 => ?_) (fun c26 => ?_)
          · have hj13 := zz_if c26 hj13
            refine lv_iload hx hb dX9_from_59 (lv_at hl 4 rfl) ?_
            refine lv_iconst (v := 1) hx hb dX9_from_61 (by decide) ?_
            refine lv_iadd hx hb dX9_from_62 ?_
            cases hj13
            exact hJ13 _ _ ls hP hD hS (lv_sub hl [1, 2, 3, 0] rfl)
          · have hj13 := zz_ifn c26 hj13
            refine lv_iload hx hb dX9_from_54 (lv_at hl 4 rfl) ?_
            refine lv_goto (tgt := 63) hx hb dX9_from_56 (by decide) ?_
            cases hj13
            exact hJ13 _ _ ls hP hD hS (lv_sub hl [1, 2, 3, 0] rfl)
        · have hj13 := zz_if c25 hj13
          refine lv_iconst (v := 1) hx hb dX9_from_41 (by decide) ?_
          refine lv_goto (tgt := 63) hx hb dX9_from_42 (by decide) ?_
          cases hj13
          exact hJ13 _ _ ls hP hD hS (lv_sub hl [1, 2, 3, 0] rfl)
    refine lv_if_le (tgt := 28) hx hb dX9_from_16 (by decide) (fun c5 => ?_) (fun c5 => ?_)
    · have hj8 := zz_if c5 hj8
      refine lv_iconst (v := 0) hx hb dX9_from_28 (by decide) ?_
      cases hj8
      exact hJ8 _ _ ls hP hD hS (lv_sub hl [0, 1, 2, 4] rfl)
    · have hj8 := zz_ifn c5 hj8
      refine lv_iload_n hx hb dX9_from_19 rfl (lv_at hl 2 rfl) ?_
      refine lv_iload_n hx hb dX9_from_20 rfl (lv_at hl 3 rfl) ?_
      refine lv_icmp_eq (tgt := 28) hx hb dX9_from_21 (by decide) (fun c27 => ?_) (fun c27 => ?_)
      · have hj8 := zz_if c27 hj8
        refine lv_iconst (v := 0) hx hb dX9_from_28 (by decide) ?_
        cases hj8
        exact hJ8 _ _ ls hP hD hS (lv_sub hl [0, 1, 2, 4] rfl)
      · have hj8 := zz_ifn c27 hj8
        refine lv_iconst (v := 1) hx hb dX9_from_24 (by decide) ?_
        refine lv_goto (tgt := 29) hx hb dX9_from_25 (by decide) ?_
        cases hj8
        exact hJ8 _ _ ls hP hD hS (lv_sub hl [0, 1, 2, 4] rfl)
  · have h := zz_if c4 h
    refine lv_ldc (v := 1000000) hx hb hown (hts _ lk_X9_from_4) dX9_from_11 ?_
    exact zz_iret () hx hb hr hlocks dX9_from_13 (Option.some.inj h) hP hK hD hS
theorem hd_X9_layBest : yX9_layBest.cls ≠ "java/lang/invoke/MethodHandle" ∧ yX9_layBest.cls ≠ "java/lang/invoke/VarHandle" ∧ (parseMethodDescriptor yX9_layBest.desc).map (fun d => d.parameters.length) = some 1 := by decide +kernel
set_option maxRecDepth 20000 in
theorem in_X9_layBest_X9 : ∀ w ∈ u_ws RX9 TX9 28, w ∈ wsX9_layBest := by decide +kernel
set_option maxRecDepth 20000 in
theorem lk_X9_layBest_0 : Cond.fieldLink RX9 37 "TwoHousesOneChildModel" "ahead" "[I" ∈ wsX9_layBest := by decide +kernel
set_option maxRecDepth 20000 in
theorem lk_X9_layBest_1 : Cond.fieldLink RX9 62 "TwoHousesOneChildModel" "most" "I" ∈ wsX9_layBest := by decide +kernel
set_option maxRecDepth 20000 in
theorem lk_X9_layBest_2 : Cond.constant RX9 166 (1000000) ∈ wsX9_layBest := by decide +kernel
set_option maxRecDepth 20000 in
theorem lk_X9_layBest_3 : Cond.fieldLink RX9 40 "TwoHousesOneChildModel" "best" "[I" ∈ wsX9_layBest := by decide +kernel
set_option maxHeartbeats 4000000 in
set_option maxRecDepth 100000 in
theorem ct_X9_layBest (l : Launch) (dC : Nat → ClassId) (dI : Nat → Nat → Nat) (cI cJ cB cZ : ClassId) (a_t a_t_ahead a_t_best a_t_paperMany a_t_papers a_t_wantHouse a_t_wantNight a_t_wantWeight a_t_whose a_t_read a_t_text a_t_plan a_t_fines a_t_times a_t_isKept a_t_keptPlan a_t_keptFines a_t_keptTimes : Nat) (t_readMany : Int32) (t_length : Int32) (t_at : Int32) (t_faultAt : Int32) (t_year : Int32) (t_wordsNow : Int32) (t_mendChanges : Int32) (t_most : Int32) (t_above : Int32) (t_handing : Int32) (t_wants : Int32) (t_ahead : (Nat → Int32)) (t_best : (Nat → Int32)) (t_paperMany : (Nat → Int32)) (t_papers : (Nat → Int32)) (t_wantHouse : (Nat → Int32)) (t_wantNight : (Nat → Int32)) (t_wantWeight : (Nat → Int32)) (t_whose : (Nat → Int32)) (p1 : Int32) (rr : Int32) (o1 : Int32) (o2 : (Nat → Int32)) (o3 : (Nat → Int32)) (o4 : (Nat → Int32)) (h : fn_X9_layBest t_year t_wordsNow t_most t_above t_handing t_wants t_ahead t_best t_paperMany t_papers t_wantHouse t_wantNight t_wantWeight t_whose p1 = some (rr, o1, o2, o3, o4)) : zz_M l yX9_layBest wsX9_layBest ({ frames := 4, cells := 0, slots := 0, locals := 104 }) (dC, dI) (zz_T cI cJ cB cZ) [.ref a_t, .int p1] [(a_t, .inr (8, [.ref a_t_read, .int t_readMany, .ref a_t_papers, .ref a_t_paperMany, .ref a_t_text, .int t_length, .int t_at, .int t_faultAt, .int t_year, .int t_wordsNow, .ref a_t_whose, .int t_mendChanges, .ref a_t_plan, .int t_most, .int t_above, .int t_handing, .int t_wants, .ref a_t_wantNight, .ref a_t_wantHouse, .ref a_t_wantWeight, .ref a_t_ahead, .ref a_t_best, .ref a_t_fines, .ref a_t_times, .ref a_t_isKept, .ref a_t_keptPlan, .ref a_t_keptFines, .ref a_t_keptTimes])), (a_t_ahead, .inl (cI, 1824, .inl t_ahead)), (a_t_best, .inl (cI, 56, .inl t_best)), (a_t_paperMany, .inl (cI, 3, .inl t_paperMany)), (a_t_papers, .inl (cI, 180, .inl t_papers)), (a_t_wantHouse, .inl (cI, 12, .inl t_wantHouse)), (a_t_wantNight, .inl (cI, 12, .inl t_wantNight)), (a_t_wantWeight, .inl (cI, 12, .inl t_wantWeight)), (a_t_whose, .inl (cI, 56, .inl t_whose))] (zz_QI (dC, dI) (zz_T cI cJ cB cZ) (rr, o1, o2, o3, o4) (fun (u : Int32 × (Nat → Int32) × (Nat → Int32) × (Nat → Int32)) => [(a_t, .inr (8, [.ref a_t_read, .int t_readMany, .ref a_t_papers, .ref a_t_paperMany, .ref a_t_text, .int t_length, .int t_at, .int t_faultAt, .int t_year, .int u.1, .ref a_t_whose, .int t_mendChanges, .ref a_t_plan, .int t_most, .int t_above, .int t_handing, .int t_wants, .ref a_t_wantNight, .ref a_t_wantHouse, .ref a_t_wantWeight, .ref a_t_ahead, .ref a_t_best, .ref a_t_fines, .ref a_t_times, .ref a_t_isKept, .ref a_t_keptPlan, .ref a_t_keptFines, .ref a_t_keptTimes])), (a_t_ahead, .inl (cI, 1824, .inl u.2.1)), (a_t_best, .inl (cI, 56, .inl u.2.2.1)), (a_t_paperMany, .inl (cI, 3, .inl t_paperMany)), (a_t_papers, .inl (cI, 180, .inl t_papers)), (a_t_wantHouse, .inl (cI, 12, .inl t_wantHouse)), (a_t_wantNight, .inl (cI, 12, .inl t_wantNight)), (a_t_wantWeight, .inl (cI, 12, .inl t_wantWeight)), (a_t_whose, .inl (cI, 56, .inl u.2.2.2))])) := by
  unfold fn_X9_layBest at h
  refine zz_of (by decide) rfl (Nat.le_of_ble_eq_true rfl) ?_
  intro p e s m below meth c A ls hx hb hr hml hts hown hlocks hA hS hP hK hD hl
  have hown : s.vm.findClass RX9 = some m.cls := hown
  have hl : lv_has ls 8 [(0, .ref a_t), (1, .int p1)] := hl
  refine lv_aload_n hx hb dX9_layBest_0 rfl (lv_at hl 0 rfl) ?_
  obtain ⟨x1, g2, he3, h⟩ := zz_b2E h
  refine zz_VV (q := (RX9, TX9, 28)) (As := []) (rest := []) (wr := [(a_t_ahead, .inl (cI, 1824, .inl t_ahead)), (a_t_best, .inl (cI, 56, .inl t_best)), (a_t_wantHouse, .inl (cI, 12, .inl t_wantHouse)), (a_t_wantNight, .inl (cI, 12, .inl t_wantNight)), (a_t_wantWeight, .inl (cI, 12, .inl t_wantWeight))]) (wm := [(a_t, .inr (8, [.ref a_t_read, .int t_readMany, .ref a_t_papers, .ref a_t_paperMany, .ref a_t_text, .int t_length, .int t_at, .int t_faultAt, .int t_year, .int x1, .ref a_t_whose, .int t_mendChanges, .ref a_t_plan, .int t_most, .int t_above, .int t_handing, .int t_wants, .ref a_t_wantNight, .ref a_t_wantHouse, .ref a_t_wantWeight, .ref a_t_ahead, .ref a_t_best, .ref a_t_fines, .ref a_t_times, .ref a_t_isKept, .ref a_t_keptPlan, .ref a_t_keptFines, .ref a_t_keptTimes])), (a_t_ahead, .inl (cI, 1824, .inl t_ahead)), (a_t_best, .inl (cI, 56, .inl t_best)), (a_t_paperMany, .inl (cI, 3, .inl t_paperMany)), (a_t_papers, .inl (cI, 180, .inl t_papers)), (a_t_wantHouse, .inl (cI, 12, .inl t_wantHouse)), (a_t_wantNight, .inl (cI, 12, .inl t_wantNight)), (a_t_wantWeight, .inl (cI, 12, .inl t_wantWeight)), (a_t_whose, .inl (cI, 56, .inl g2))]) ⟨hx, hb, hml, hown, hts⟩ (ct_X9_layWhose l dC dI cI cJ cB cZ a_t a_t_paperMany a_t_papers a_t_whose a_t_read a_t_text a_t_plan a_t_wantNight a_t_wantHouse a_t_wantWeight a_t_ahead a_t_best a_t_fines a_t_times a_t_isKept a_t_keptPlan a_t_keptFines a_t_keptTimes t_readMany t_length t_at t_faultAt t_year t_wordsNow t_mendChanges t_most t_above t_handing t_wants t_paperMany t_papers t_whose x1 g2 he3) gX9_layBest_X9_layWhose hd_X9_layWhose rfl rfl rfl ⟨Nat.le_of_ble_eq_true rfl, Nat.le_of_ble_eq_true rfl⟩ ⟨Nat.le_of_ble_eq_true rfl, Nat.le_of_ble_eq_true rfl⟩ rfl rfl (Nat.le_of_ble_eq_true rfl) dX9_layBest_1 hl.1 rfl (ci := 8) rfl (q0 := 0) rfl hP hK hD hS hA [0, 3, 4, 8] [1, 2, 5, 6, 7] [5, 0, 1, 6, 7, 2, 3, 4, 8] rfl rfl (by decide) (by decide) (by decide) (by decide) rfl (fun H locs hP hD hS => ?_)
  refine lv_iconst (v := 0) hx hb dX9_layBest_4 (by decide) ?_
  refine lv_istore_n (lv' := [(2, .int 0), (0, .ref a_t), (1, .int p1)]) hx hb dX9_layBest_5 rfl hl (by decide) rfl (fun ls hl => ?_)
  obtain ⟨g14, hit13, h⟩ := zz_b1E h
  refine zz_cut (fun V => ∀ (H : Heap) (locs : List Loc) (ls : Array Slot), va_P (dC, dI) vwCl [(a_t, .inr (8, [.ref a_t_read, .int t_readMany, .ref a_t_papers, .ref a_t_paperMany, .ref a_t_text, .int t_length, .int t_at, .int t_faultAt, .int t_year, .int x1, .ref a_t_whose, .int t_mendChanges, .ref a_t_plan, .int t_most, .int t_above, .int t_handing, .int t_wants, .ref a_t_wantNight, .ref a_t_wantHouse, .ref a_t_wantWeight, .ref a_t_ahead, .ref a_t_best, .ref a_t_fines, .ref a_t_times, .ref a_t_isKept, .ref a_t_keptPlan, .ref a_t_keptFines, .ref a_t_keptTimes])), (a_t_ahead, .inl (cI, 1824, .inl g14)), (a_t_best, .inl (cI, 56, .inl t_best)), (a_t_paperMany, .inl (cI, 3, .inl t_paperMany)), (a_t_papers, .inl (cI, 180, .inl t_papers)), (a_t_wantHouse, .inl (cI, 12, .inl t_wantHouse)), (a_t_wantNight, .inl (cI, 12, .inl t_wantNight)), (a_t_wantWeight, .inl (cI, 12, .inl t_wantWeight)), (a_t_whose, .inl (cI, 56, .inl g2))] H → va_D A [(a_t, .inr (8, [.ref a_t_read, .int t_readMany, .ref a_t_papers, .ref a_t_paperMany, .ref a_t_text, .int t_length, .int t_at, .int t_faultAt, .int t_year, .int x1, .ref a_t_whose, .int t_mendChanges, .ref a_t_plan, .int t_most, .int t_above, .int t_handing, .int t_wants, .ref a_t_wantNight, .ref a_t_wantHouse, .ref a_t_wantWeight, .ref a_t_ahead, .ref a_t_best, .ref a_t_fines, .ref a_t_times, .ref a_t_isKept, .ref a_t_keptPlan, .ref a_t_keptFines, .ref a_t_keptTimes])), (a_t_ahead, .inl (cI, 1824, .inl g14)), (a_t_best, .inl (cI, 56, .inl t_best)), (a_t_paperMany, .inl (cI, 3, .inl t_paperMany)), (a_t_papers, .inl (cI, 180, .inl t_papers)), (a_t_wantHouse, .inl (cI, 12, .inl t_wantHouse)), (a_t_wantNight, .inl (cI, 12, .inl t_wantNight)), (a_t_wantWeight, .inl (cI, 12, .inl t_wantWeight)), (a_t_whose, .inl (cI, 56, .inl g2))] → va_S A s.heap H locs → lv_has ls 8 [(0, .ref a_t), (1, .int p1)] → V H locs (F0 m 29 ls [])) ?_ (fun hE13 => ?_)
  · intro H locs ls hP hD hS hl
    refine lv_bipush (v := 55) hx hb dX9_layBest_29 (by decide) ?_
    refine lv_istore_n (lv' := [(2, .int 55), (0, .ref a_t), (1, .int p1)]) hx hb dX9_layBest_31 rfl hl (by decide) rfl (fun ls hl => ?_)
    obtain ⟨g273, hit272, h⟩ := zz_b1E h
    refine zz_cut (fun V => ∀ (H : Heap) (locs : List Loc) (ls : Array Slot), va_P (dC, dI) vwCl [(a_t, .inr (8, [.ref a_t_read, .int t_readMany, .ref a_t_papers, .ref a_t_paperMany, .ref a_t_text, .int t_length, .int t_at, .int t_faultAt, .int t_year, .int x1, .ref a_t_whose, .int t_mendChanges, .ref a_t_plan, .int t_most, .int t_above, .int t_handing, .int t_wants, .ref a_t_wantNight, .ref a_t_wantHouse, .ref a_t_wantWeight, .ref a_t_ahead, .ref a_t_best, .ref a_t_fines, .ref a_t_times, .ref a_t_isKept, .ref a_t_keptPlan, .ref a_t_keptFines, .ref a_t_keptTimes])), (a_t_ahead, .inl (cI, 1824, .inl g273)), (a_t_best, .inl (cI, 56, .inl t_best)), (a_t_paperMany, .inl (cI, 3, .inl t_paperMany)), (a_t_papers, .inl (cI, 180, .inl t_papers)), (a_t_wantHouse, .inl (cI, 12, .inl t_wantHouse)), (a_t_wantNight, .inl (cI, 12, .inl t_wantNight)), (a_t_wantWeight, .inl (cI, 12, .inl t_wantWeight)), (a_t_whose, .inl (cI, 56, .inl g2))] H → va_D A [(a_t, .inr (8, [.ref a_t_read, .int t_readMany, .ref a_t_papers, .ref a_t_paperMany, .ref a_t_text, .int t_length, .int t_at, .int t_faultAt, .int t_year, .int x1, .ref a_t_whose, .int t_mendChanges, .ref a_t_plan, .int t_most, .int t_above, .int t_handing, .int t_wants, .ref a_t_wantNight, .ref a_t_wantHouse, .ref a_t_wantWeight, .ref a_t_ahead, .ref a_t_best, .ref a_t_fines, .ref a_t_times, .ref a_t_isKept, .ref a_t_keptPlan, .ref a_t_keptFines, .ref a_t_keptTimes])), (a_t_ahead, .inl (cI, 1824, .inl g273)), (a_t_best, .inl (cI, 56, .inl t_best)), (a_t_paperMany, .inl (cI, 3, .inl t_paperMany)), (a_t_papers, .inl (cI, 180, .inl t_papers)), (a_t_wantHouse, .inl (cI, 12, .inl t_wantHouse)), (a_t_wantNight, .inl (cI, 12, .inl t_wantNight)), (a_t_wantWeight, .inl (cI, 12, .inl t_wantWeight)), (a_t_whose, .inl (cI, 56, .inl g2))] → va_S A s.heap H locs → lv_has ls 8 [(0, .ref a_t), (1, .int p1)] → V H locs (F0 m 176 ls [])) ?_ (fun hE272 => ?_)
    · intro H locs ls hP hD hS hl
      refine lv_iconst (v := 0) hx hb dX9_layBest_176 (by decide) ?_
      refine lv_istore_n (lv' := [(2, .int 0), (0, .ref a_t), (1, .int p1)]) hx hb dX9_layBest_177 rfl hl (by decide) rfl (fun ls hl => ?_)
      refine lv_iconst (v := 0) hx hb dX9_layBest_178 (by decide) ?_
      refine lv_istore_n (lv' := [(3, .int 0), (2, .int 0), (0, .ref a_t), (1, .int p1)]) hx hb dX9_layBest_179 rfl hl (by decide) rfl (fun ls hl => ?_)
      refine lv_iconst (v := 0) hx hb dX9_layBest_180 (by decide) ?_
      refine lv_istore (lv' := [(4, .int 0), (3, .int 0), (2, .int 0), (0, .ref a_t), (1, .int p1)]) hx hb dX9_layBest_181 hl (by decide) rfl (fun ls hl => ?_)
      obtain ⟨g315, hit314, h⟩ := zz_b1E h
      refine zz_cut (fun V => ∀ (H : Heap) (locs : List Loc) (ls : Array Slot), va_P (dC, dI) vwCl [(a_t, .inr (8, [.ref a_t_read, .int t_readMany, .ref a_t_papers, .ref a_t_paperMany, .ref a_t_text, .int t_length, .int t_at, .int t_faultAt, .int t_year, .int x1, .ref a_t_whose, .int t_mendChanges, .ref a_t_plan, .int t_most, .int t_above, .int t_handing, .int t_wants, .ref a_t_wantNight, .ref a_t_wantHouse, .ref a_t_wantWeight, .ref a_t_ahead, .ref a_t_best, .ref a_t_fines, .ref a_t_times, .ref a_t_isKept, .ref a_t_keptPlan, .ref a_t_keptFines, .ref a_t_keptTimes])), (a_t_ahead, .inl (cI, 1824, .inl g273)), (a_t_best, .inl (cI, 56, .inl g315)), (a_t_paperMany, .inl (cI, 3, .inl t_paperMany)), (a_t_papers, .inl (cI, 180, .inl t_papers)), (a_t_wantHouse, .inl (cI, 12, .inl t_wantHouse)), (a_t_wantNight, .inl (cI, 12, .inl t_wantNight)), (a_t_wantWeight, .inl (cI, 12, .inl t_wantWeight)), (a_t_whose, .inl (cI, 56, .inl g2))] H → va_D A [(a_t, .inr (8, [.ref a_t_read, .int t_readMany, .ref a_t_papers, .ref a_t_paperMany, .ref a_t_text, .int t_length, .int t_at, .int t_faultAt, .int t_year, .int x1, .ref a_t_whose, .int t_mendChanges, .ref a_t_plan, .int t_most, .int t_above, .int t_handing, .int t_wants, .ref a_t_wantNight, .ref a_t_wantHouse, .ref a_t_wantWeight, .ref a_t_ahead, .ref a_t_best, .ref a_t_fines, .ref a_t_times, .ref a_t_isKept, .ref a_t_keptPlan, .ref a_t_keptFines, .ref a_t_keptTimes])), (a_t_ahead, .inl (cI, 1824, .inl g273)), (a_t_best, .inl (cI, 56, .inl g315)), (a_t_paperMany, .inl (cI, 3, .inl t_paperMany)), (a_t_papers, .inl (cI, 180, .inl t_papers)), (a_t_wantHouse, .inl (cI, 12, .inl t_wantHouse)), (a_t_wantNight, .inl (cI, 12, .inl t_wantNight)), (a_t_wantWeight, .inl (cI, 12, .inl t_wantWeight)), (a_t_whose, .inl (cI, 56, .inl g2))] → va_S A s.heap H locs → lv_has ls 8 [(0, .ref a_t)] → V H locs (F0 m 275 ls [])) ?_ (fun hE314 => ?_)
      · intro H locs ls hP hD hS hl
        refine lv_aload_n hx hb dX9_layBest_275 rfl (lv_at hl 0 rfl) ?_
        refine va_get (ci := 8) (v := .ref a_t_ahead) (C := RX9) (T := TX9) (N := 28) hx hb hts in_X9_layBest_X9 hown hK hP 0 rfl rfl 20 (by decide) (hts _ lk_X9_layBest_0) (fun _ h9 => h9) rfl dX9_layBest_276 ?_
        refine lv_iconst (v := 0) hx hb dX9_layBest_279 (by decide) ?_
        obtain ⟨hi316, h⟩ := zz_chkE h
        refine va_iald hx hb hK hP 1 0 rfl rfl hi316 dX9_layBest_280 ?_
        exact zz_iret (x1, g273, g315, g2) hx hb hr hlocks dX9_layBest_281 (Option.some.inj h) hP hK hD hS
      refine zz_cut (fun V => ∀ (n : Nat) (x311 : Int32) (x312 : Int32) (x313 : Int32) (g314 : (Nat → Int32)) (H : Heap) (locs : List Loc) (ls : Array Slot), zz_it (fun z => fb_X9_layBest_183 p1 t_most t_above t_handing t_wants g2 t_wantHouse t_wantNight t_wantWeight g273 z.1 z.2.1 z.2.2.1 z.2.2.2) n (x311, x312, x313, g314) = some g315 → va_P (dC, dI) vwCl [(a_t, .inr (8, [.ref a_t_read, .int t_readMany, .ref a_t_papers, .ref a_t_paperMany, .ref a_t_text, .int t_length, .int t_at, .int t_faultAt, .int t_year, .int x1, .ref a_t_whose, .int t_mendChanges, .ref a_t_plan, .int t_most, .int t_above, .int t_handing, .int t_wants, .ref a_t_wantNight, .ref a_t_wantHouse, .ref a_t_wantWeight, .ref a_t_ahead, .ref a_t_best, .ref a_t_fines, .ref a_t_times, .ref a_t_isKept, .ref a_t_keptPlan, .ref a_t_keptFines, .ref a_t_keptTimes])), (a_t_ahead, .inl (cI, 1824, .inl g273)), (a_t_best, .inl (cI, 56, .inl g314)), (a_t_paperMany, .inl (cI, 3, .inl t_paperMany)), (a_t_papers, .inl (cI, 180, .inl t_papers)), (a_t_wantHouse, .inl (cI, 12, .inl t_wantHouse)), (a_t_wantNight, .inl (cI, 12, .inl t_wantNight)), (a_t_wantWeight, .inl (cI, 12, .inl t_wantWeight)), (a_t_whose, .inl (cI, 56, .inl g2))] H → va_D A [(a_t, .inr (8, [.ref a_t_read, .int t_readMany, .ref a_t_papers, .ref a_t_paperMany, .ref a_t_text, .int t_length, .int t_at, .int t_faultAt, .int t_year, .int x1, .ref a_t_whose, .int t_mendChanges, .ref a_t_plan, .int t_most, .int t_above, .int t_handing, .int t_wants, .ref a_t_wantNight, .ref a_t_wantHouse, .ref a_t_wantWeight, .ref a_t_ahead, .ref a_t_best, .ref a_t_fines, .ref a_t_times, .ref a_t_isKept, .ref a_t_keptPlan, .ref a_t_keptFines, .ref a_t_keptTimes])), (a_t_ahead, .inl (cI, 1824, .inl g273)), (a_t_best, .inl (cI, 56, .inl g314)), (a_t_paperMany, .inl (cI, 3, .inl t_paperMany)), (a_t_papers, .inl (cI, 180, .inl t_papers)), (a_t_wantHouse, .inl (cI, 12, .inl t_wantHouse)), (a_t_wantNight, .inl (cI, 12, .inl t_wantNight)), (a_t_wantWeight, .inl (cI, 12, .inl t_wantWeight)), (a_t_whose, .inl (cI, 56, .inl g2))] → va_S A s.heap H locs → lv_has ls 8 [(0, .ref a_t), (1, .int p1), (2, .int x311), (3, .int x312), (4, .int x313)] → V H locs (F0 m 183 ls [])) ?_ (fun hL314 => ?_)
      · intro n
        induction n with
        | zero => intro x311 x312 x313 g314 H locs ls hit314; exact (zz_it0 hit314).elim
        | succ n ih314 =>
          intro x311 x312 x313 g314 H locs ls hit314 hP hD hS hl
          obtain ⟨y314, hb314, hy314⟩ := zz_itE hit314
          have hb314 : fb_X9_layBest_183 p1 t_most t_above t_handing t_wants g2 t_wantHouse t_wantNight t_wantWeight g273 x311 x312 x313 g314 = some y314 := hb314
          unfold fb_X9_layBest_183 at hb314
          refine lv_iload hx hb dX9_layBest_183 (lv_at hl 4 rfl) ?_
          refine lv_bipush (v := 56) hx hb dX9_layBest_185 (by decide) ?_
          refine lv_icmp_ge (tgt := 275) hx hb dX9_layBest_187 (by decide) (fun c317 => ?_) (fun c317 => ?_)
          · have hb314 := zz_if c317 hb314
            obtain rfl := Option.some.inj hb314
            have hy314 := Option.some.inj hy314
            cases hy314
            exact hE314 _ _ ls hP hD hS (lv_sub hl [0] rfl)
          · have hb314 := zz_ifn c317 hb314
            refine lv_aload_n hx hb dX9_layBest_190 rfl (lv_at hl 0 rfl) ?_
            refine lv_iload hx hb dX9_layBest_191 (lv_at hl 4 rfl) ?_
            refine lv_iconst (v := 0) hx hb dX9_layBest_193 (by decide) ?_
            refine lv_iload_n hx hb dX9_layBest_194 rfl (lv_at hl 2 rfl) ?_
            refine lv_iload_n hx hb dX9_layBest_195 rfl (lv_at hl 3 rfl) ?_
            refine lv_iload_n hx hb dX9_layBest_196 rfl (lv_at hl 1 rfl) ?_
            obtain ⟨x318, u319, he320, hb314⟩ := zz_b2E hb314
            refine zz_VI (q := (RX9, TX9, 28)) (As := [.int x313, .int 0, .int x311, .int x312, .int p1]) (rest := []) (wr := [(a_t_best, .inl (cI, 56, .inl g314)), (a_t_paperMany, .inl (cI, 3, .inl t_paperMany)), (a_t_papers, .inl (cI, 180, .inl t_papers))]) (wm := [(a_t, .inr (8, [.ref a_t_read, .int t_readMany, .ref a_t_papers, .ref a_t_paperMany, .ref a_t_text, .int t_length, .int t_at, .int t_faultAt, .int t_year, .int x1, .ref a_t_whose, .int t_mendChanges, .ref a_t_plan, .int t_most, .int t_above, .int t_handing, .int t_wants, .ref a_t_wantNight, .ref a_t_wantHouse, .ref a_t_wantWeight, .ref a_t_ahead, .ref a_t_best, .ref a_t_fines, .ref a_t_times, .ref a_t_isKept, .ref a_t_keptPlan, .ref a_t_keptFines, .ref a_t_keptTimes])), (a_t_ahead, .inl (cI, 1824, .inl g273)), (a_t_best, .inl (cI, 56, .inl g314)), (a_t_paperMany, .inl (cI, 3, .inl t_paperMany)), (a_t_papers, .inl (cI, 180, .inl t_papers)), (a_t_wantHouse, .inl (cI, 12, .inl t_wantHouse)), (a_t_wantNight, .inl (cI, 12, .inl t_wantNight)), (a_t_wantWeight, .inl (cI, 12, .inl t_wantWeight)), (a_t_whose, .inl (cI, 56, .inl g2))]) ⟨hx, hb, hml, hown, hts⟩ (ct_X9_from l dC dI cI cJ cB cZ a_t a_t_ahead a_t_wantHouse a_t_wantNight a_t_wantWeight a_t_whose a_t_read a_t_papers a_t_paperMany a_t_text a_t_plan a_t_best a_t_fines a_t_times a_t_isKept a_t_keptPlan a_t_keptFines a_t_keptTimes t_readMany t_length t_at t_faultAt t_year x1 t_mendChanges t_most t_above t_handing t_wants g273 t_wantHouse t_wantNight t_wantWeight g2 x313 (0 : Int32) x311 x312 p1 x318 u319 he320) gX9_layBest_X9_from hd_X9_from rfl rfl rfl ⟨Nat.le_of_ble_eq_true rfl, Nat.le_of_ble_eq_true rfl⟩ ⟨Nat.le_of_ble_eq_true rfl, Nat.le_of_ble_eq_true rfl⟩ rfl rfl (Nat.le_of_ble_eq_true rfl) dX9_layBest_197 hl.1 rfl (ci := 8) rfl (q0 := 0) rfl hP hK hD hS hA [0, 1, 5, 6, 7, 8] [2, 3, 4] [3, 4, 0, 1, 2, 5, 6, 7, 8] rfl rfl (by decide) (by decide) (by decide) (by decide) rfl (fun H locs hP hD hS => ?_)
            refine lv_aload_n hx hb dX9_layBest_200 rfl (lv_at hl 0 rfl) ?_
            refine va_get (ci := 8) (v := .ref a_t_ahead) (C := RX9) (T := TX9) (N := 28) hx hb hts in_X9_layBest_X9 hown hK hP 0 rfl rfl 20 (by decide) (hts _ lk_X9_layBest_0) (fun _ h9 => h9) rfl dX9_layBest_201 ?_
            refine lv_bipush (v := 32) hx hb dX9_layBest_204 (by decide) ?_
            refine lv_iload hx hb dX9_layBest_206 (lv_at hl 4 rfl) ?_
            refine lv_imul hx hb dX9_layBest_208 ?_
            refine lv_bipush (v := 16) hx hb dX9_layBest_209 (by decide) ?_
            refine lv_iload_n hx hb dX9_layBest_211 rfl (lv_at hl 2 rfl) ?_
            refine lv_imul hx hb dX9_layBest_212 ?_
            refine lv_iadd hx hb dX9_layBest_213 ?_
            refine lv_iload_n hx hb dX9_layBest_214 rfl (lv_at hl 3 rfl) ?_
            refine lv_iadd hx hb dX9_layBest_215 ?_
            obtain ⟨hi321, hb314⟩ := zz_chkE hb314
            refine va_iald hx hb hK hP 1 0 rfl rfl hi321 dX9_layBest_216 ?_
            obtain ⟨x323, hj324, hb314⟩ := zz_b1E hb314
            refine zz_cut (fun V => ∀ (H : Heap) (locs : List Loc) (ls : Array Slot), va_P (dC, dI) vwCl [(a_t, .inr (8, [.ref a_t_read, .int t_readMany, .ref a_t_papers, .ref a_t_paperMany, .ref a_t_text, .int t_length, .int t_at, .int t_faultAt, .int t_year, .int x1, .ref a_t_whose, .int t_mendChanges, .ref a_t_plan, .int t_most, .int t_above, .int t_handing, .int t_wants, .ref a_t_wantNight, .ref a_t_wantHouse, .ref a_t_wantWeight, .ref a_t_ahead, .ref a_t_best, .ref a_t_fines, .ref a_t_times, .ref a_t_isKept, .ref a_t_keptPlan, .ref a_t_keptFines, .ref a_t_keptTimes])), (a_t_ahead, .inl (cI, 1824, .inl g273)), (a_t_best, .inl (cI, 56, .inl g314)), (a_t_paperMany, .inl (cI, 3, .inl t_paperMany)), (a_t_papers, .inl (cI, 180, .inl t_papers)), (a_t_wantHouse, .inl (cI, 12, .inl t_wantHouse)), (a_t_wantNight, .inl (cI, 12, .inl t_wantNight)), (a_t_wantWeight, .inl (cI, 12, .inl t_wantWeight)), (a_t_whose, .inl (cI, 56, .inl g2))] H → va_D A [(a_t, .inr (8, [.ref a_t_read, .int t_readMany, .ref a_t_papers, .ref a_t_paperMany, .ref a_t_text, .int t_length, .int t_at, .int t_faultAt, .int t_year, .int x1, .ref a_t_whose, .int t_mendChanges, .ref a_t_plan, .int t_most, .int t_above, .int t_handing, .int t_wants, .ref a_t_wantNight, .ref a_t_wantHouse, .ref a_t_wantWeight, .ref a_t_ahead, .ref a_t_best, .ref a_t_fines, .ref a_t_times, .ref a_t_isKept, .ref a_t_keptPlan, .ref a_t_keptFines, .ref a_t_keptTimes])), (a_t_ahead, .inl (cI, 1824, .inl g273)), (a_t_best, .inl (cI, 56, .inl g314)), (a_t_paperMany, .inl (cI, 3, .inl t_paperMany)), (a_t_papers, .inl (cI, 180, .inl t_papers)), (a_t_wantHouse, .inl (cI, 12, .inl t_wantHouse)), (a_t_wantNight, .inl (cI, 12, .inl t_wantNight)), (a_t_wantWeight, .inl (cI, 12, .inl t_wantWeight)), (a_t_whose, .inl (cI, 56, .inl g2))] → va_S A s.heap H locs → lv_has ls 8 [(0, .ref a_t), (1, .int p1), (2, .int x311), (3, .int x312), (4, .int x313)] → V H locs (F0 m 225 ls [.int x323])) ?_ (fun hJ324 => ?_)
            · intro H locs ls hP hD hS hl
              refine lv_istore (lv' := [(5, .int x323), (0, .ref a_t), (1, .int p1), (2, .int x311), (3, .int x312), (4, .int x313)]) hx hb dX9_layBest_225 hl (by decide) rfl (fun ls hl => ?_)
              refine lv_aload_n hx hb dX9_layBest_227 rfl (lv_at hl 1 rfl) ?_
              refine va_get (ci := 8) (v := .ref a_t_best) (C := RX9) (T := TX9) (N := 28) hx hb hts in_X9_layBest_X9 hown hK hP 0 rfl rfl 21 (by decide) (hts _ lk_X9_layBest_3) (fun _ h9 => h9) rfl dX9_layBest_228 ?_
              refine lv_iload hx hb dX9_layBest_231 (lv_at hl 5 rfl) ?_
              refine lv_iload hx hb dX9_layBest_233 (lv_at hl 0 rfl) ?_
              obtain ⟨hi325, hb314⟩ := zz_chkE hb314
              refine zz_iast hx hb hK hP hD hS 2 0 rfl rfl hi325 dX9_layBest_235 (fun g326 => [(a_t, .inr (8, [.ref a_t_read, .int t_readMany, .ref a_t_papers, .ref a_t_paperMany, .ref a_t_text, .int t_length, .int t_at, .int t_faultAt, .int t_year, .int x1, .ref a_t_whose, .int t_mendChanges, .ref a_t_plan, .int t_most, .int t_above, .int t_handing, .int t_wants, .ref a_t_wantNight, .ref a_t_wantHouse, .ref a_t_wantWeight, .ref a_t_ahead, .ref a_t_best, .ref a_t_fines, .ref a_t_times, .ref a_t_isKept, .ref a_t_keptPlan, .ref a_t_keptFines, .ref a_t_keptTimes])), (a_t_ahead, .inl (cI, 1824, .inl g273)), (a_t_best, .inl (cI, 56, .inl g326)), (a_t_paperMany, .inl (cI, 3, .inl t_paperMany)), (a_t_papers, .inl (cI, 180, .inl t_papers)), (a_t_wantHouse, .inl (cI, 12, .inl t_wantHouse)), (a_t_wantNight, .inl (cI, 12, .inl t_wantNight)), (a_t_wantWeight, .inl (cI, 12, .inl t_wantWeight)), (a_t_whose, .inl (cI, 56, .inl g2))]) (fun _ => rfl) (fun g326 H locs eg326 hP hD hS => ?_)
              have hb314 := zz_nmE eg326 hb314
              refine lv_iload_n hx hb dX9_layBest_236 rfl (lv_at hl 4 rfl) ?_
              refine lv_if_eq (tgt := 246) hx hb dX9_layBest_237 (by decide) (fun c327 => ?_) (fun c327 => ?_)
              · have hb314 := zz_if c327 hb314
                refine lv_iconst (v := 1) hx hb dX9_layBest_246 (by decide) ?_
                refine lv_goto (tgt := 265) hx hb dX9_layBest_247 (by decide) ?_
                refine lv_istore_n (lv' := [(3, .int 1), (5, .int x323), (0, .ref a_t), (1, .int p1), (2, .int x311), (4, .int x313)]) hx hb dX9_layBest_265 rfl hl (by decide) rfl (fun ls hl => ?_)
                refine lv_iload hx hb dX9_layBest_266 (lv_at hl 1 rfl) ?_
                refine lv_istore_n (lv' := [(2, .int x323), (3, .int 1), (5, .int x323), (0, .ref a_t), (1, .int p1), (4, .int x313)]) hx hb dX9_layBest_268 rfl hl (by decide) rfl (fun ls hl => ?_)
                obtain ⟨x328, ex328⟩ : ∃ z : Int32, z = x313 + 1 := ⟨_, rfl⟩
                have hb314 := zz_nmE ex328 hb314
                refine lv_iinc (v := x328) (lv' := [(4, .int x328), (2, .int x323), (3, .int 1), (5, .int x323), (0, .ref a_t), (1, .int p1)]) hx hb dX9_layBest_269 hl (k := 5) rfl (by rw [ex328]; rfl) (by decide) rfl (fun ls hl => ?_)
                refine lv_goto (tgt := 183) hx hb dX9_layBest_272 (by decide) ?_
                obtain rfl := Option.some.inj hb314
                exact ih314 x323 1 x328 g326 _ _ ls hy314 hP hD hS (lv_sub hl [4, 5, 1, 2, 0] rfl)
              · have hb314 := zz_ifn c327 hb314
                refine lv_iload hx hb dX9_layBest_240 (lv_at hl 0 rfl) ?_
                refine lv_iload_n hx hb dX9_layBest_242 rfl (lv_at hl 3 rfl) ?_
                refine lv_icmp_eq (tgt := 250) hx hb dX9_layBest_243 (by decide) (fun c329 => ?_) (fun c329 => ?_)
                · have hb314 := zz_if c329 hb314
                  refine lv_iload_n hx hb dX9_layBest_250 rfl (lv_at hl 4 rfl) ?_
                  refine lv_aload_n hx hb dX9_layBest_251 rfl (lv_at hl 1 rfl) ?_
                  refine va_get (ci := 8) (v := .int t_most) (C := RX9) (T := TX9) (N := 28) hx hb hts in_X9_layBest_X9 hown hK hP 0 rfl rfl 13 (by decide) (hts _ lk_X9_layBest_1) (fun _ h9 => h9) rfl dX9_layBest_252 ?_
                  refine lv_icmp_le (tgt := 262) hx hb dX9_layBest_255 (by decide) (fun c330 => ?_) (fun c330 => ?_)
                  · have hb314 := zz_if c330 hb314
                    refine lv_iload_n hx hb dX9_layBest_262 rfl (lv_at hl 4 rfl) ?_
                    refine lv_iconst (v := 1) hx hb dX9_layBest_263 (by decide) ?_
                    refine lv_iadd hx hb dX9_layBest_264 ?_
                    refine lv_topi (fun x331 ex331 => ?_)
                    have hb314 := zz_nmE ex331 hb314
                    refine lv_istore_n (lv' := [(3, .int x331), (5, .int x323), (0, .ref a_t), (1, .int p1), (2, .int x311), (4, .int x313)]) hx hb dX9_layBest_265 rfl hl (by decide) rfl (fun ls hl => ?_)
                    refine lv_iload hx hb dX9_layBest_266 (lv_at hl 1 rfl) ?_
                    refine lv_istore_n (lv' := [(2, .int x323), (3, .int x331), (5, .int x323), (0, .ref a_t), (1, .int p1), (4, .int x313)]) hx hb dX9_layBest_268 rfl hl (by decide) rfl (fun ls hl => ?_)
                    obtain ⟨x332, ex332⟩ : ∃ z : Int32, z = x313 + 1 := ⟨_, rfl⟩
                    have hb314 := zz_nmE ex332 hb314
                    refine lv_iinc (v := x332) (lv' := [(4, .int x332), (2, .int x323), (3, .int x331), (5, .int x323), (0, .ref a_t), (1, .int p1)]) hx hb dX9_layBest_269 hl (k := 5) rfl (by rw [ex332]; rfl) (by decide) rfl (fun ls hl => ?_)
                    refine lv_goto (tgt := 183) hx hb dX9_layBest_272 (by decide) ?_
                    obtain rfl := Option.some.inj hb314
                    exact ih314 x323 x331 x332 g326 _ _ ls hy314 hP hD hS (lv_sub hl [4, 5, 1, 2, 0] rfl)
                  · have hb314 := zz_ifn c330 hb314
                    refine lv_iload_n hx hb dX9_layBest_258 rfl (lv_at hl 4 rfl) ?_
                    refine lv_goto (tgt := 265) hx hb dX9_layBest_259 (by decide) ?_
                    refine lv_istore_n (lv' := [(3, .int x312), (5, .int x323), (0, .ref a_t), (1, .int p1), (2, .int x311), (4, .int x313)]) hx hb dX9_layBest_265 rfl hl (by decide) rfl (fun ls hl => ?_)
                    refine lv_iload hx hb dX9_layBest_266 (lv_at hl 1 rfl) ?_
                    refine lv_istore_n (lv' := [(2, .int x323), (3, .int x312), (5, .int x323), (0, .ref a_t), (1, .int p1), (4, .int x313)]) hx hb dX9_layBest_268 rfl hl (by decide) rfl (fun ls hl => ?_)
                    obtain ⟨x333, ex333⟩ : ∃ z : Int32, z = x313 + 1 := ⟨_, rfl⟩
                    have hb314 := zz_nmE ex333 hb314
                    refine lv_iinc (v := x333) (lv' := [(4, .int x333), (2, .int x323), (3, .int x312), (5, .int x323), (0, .ref a_t), (1, .int p1)]) hx hb dX9_layBest_269 hl (k := 5) rfl (by rw [ex333]; rfl) (by decide) rfl (fun ls hl => ?_)
                    refine lv_goto (tgt := 183) hx hb dX9_layBest_272 (by decide) ?_
                    obtain rfl := Option.some.inj hb314
                    exact ih314 x323 x312 x333 g326 _ _ ls hy314 hP hD hS (lv_sub hl [4, 5, 1, 2, 0] rfl)
                · have hb314 := zz_ifn c329 hb314
                  refine lv_iconst (v := 1) hx hb dX9_layBest_246 (by decide) ?_
                  refine lv_goto (tgt := 265) hx hb dX9_layBest_247 (by decide) ?_
                  refine lv_istore_n (lv' := [(3, .int 1), (5, .int x323), (0, .ref a_t), (1, .int p1), (2, .int x311), (4, .int x313)]) hx hb dX9_layBest_265 rfl hl (by decide) rfl (fun ls hl => ?_)
                  refine lv_iload hx hb dX9_layBest_266 (lv_at hl 1 rfl) ?_
                  refine lv_istore_n (lv' := [(2, .int x323), (3, .int 1), (5, .int x323), (0, .ref a_t), (1, .int p1), (4, .int x313)]) hx hb dX9_layBest_268 rfl hl (by decide) rfl (fun ls hl => ?_)
                  obtain ⟨x334, ex334⟩ : ∃ z : Int32, z = x313 + 1 := ⟨_, rfl⟩
                  have hb314 := zz_nmE ex334 hb314
                  refine lv_iinc (v := x334) (lv' := [(4, .int x334), (2, .int x323), (3, .int 1), (5, .int x323), (0, .ref a_t), (1, .int p1)]) hx hb dX9_layBest_269 hl (k := 5) rfl (by rw [ex334]; rfl) (by decide) rfl (fun ls hl => ?_)
                  refine lv_goto (tgt := 183) hx hb dX9_layBest_272 (by decide) ?_
                  obtain rfl := Option.some.inj hb314
                  exact ih314 x323 1 x334 g326 _ _ ls hy314 hP hD hS (lv_sub hl [4, 5, 1, 2, 0] rfl)
            refine lv_icmp_ne (tgt := 224) hx hb dX9_layBest_217 (by decide) (fun c322 => ?_) (fun c322 => ?_)
            · have hj324 := zz_ifn c322 hj324
              refine lv_iconst (v := 1) hx hb dX9_layBest_224 (by decide) ?_
              cases hj324
              exact hJ324 _ _ ls hP hD hS (lv_sub hl [0, 1, 2, 3, 4] rfl)
            · have hj324 := zz_if c322 hj324
              refine lv_iconst (v := 0) hx hb dX9_layBest_220 (by decide) ?_
              refine lv_goto (tgt := 225) hx hb dX9_layBest_221 (by decide) ?_
              cases hj324
              exact hJ324 _ _ ls hP hD hS (lv_sub hl [0, 1, 2, 3, 4] rfl)
      exact hL314 zz_fuel 0 0 0 t_best _ _ ls hit314 hP hD hS (lv_sub hl [3, 4, 2, 1, 0] rfl)
    refine zz_cut (fun V => ∀ (n : Nat) (x271 : Int32) (g272 : (Nat → Int32)) (H : Heap) (locs : List Loc) (ls : Array Slot), zz_it (fun z => fb_X9_layBest_32 p1 t_most t_above t_handing t_wants g2 t_wantHouse t_wantNight t_wantWeight z.1 z.2) n (x271, g272) = some g273 → va_P (dC, dI) vwCl [(a_t, .inr (8, [.ref a_t_read, .int t_readMany, .ref a_t_papers, .ref a_t_paperMany, .ref a_t_text, .int t_length, .int t_at, .int t_faultAt, .int t_year, .int x1, .ref a_t_whose, .int t_mendChanges, .ref a_t_plan, .int t_most, .int t_above, .int t_handing, .int t_wants, .ref a_t_wantNight, .ref a_t_wantHouse, .ref a_t_wantWeight, .ref a_t_ahead, .ref a_t_best, .ref a_t_fines, .ref a_t_times, .ref a_t_isKept, .ref a_t_keptPlan, .ref a_t_keptFines, .ref a_t_keptTimes])), (a_t_ahead, .inl (cI, 1824, .inl g272)), (a_t_best, .inl (cI, 56, .inl t_best)), (a_t_paperMany, .inl (cI, 3, .inl t_paperMany)), (a_t_papers, .inl (cI, 180, .inl t_papers)), (a_t_wantHouse, .inl (cI, 12, .inl t_wantHouse)), (a_t_wantNight, .inl (cI, 12, .inl t_wantNight)), (a_t_wantWeight, .inl (cI, 12, .inl t_wantWeight)), (a_t_whose, .inl (cI, 56, .inl g2))] H → va_D A [(a_t, .inr (8, [.ref a_t_read, .int t_readMany, .ref a_t_papers, .ref a_t_paperMany, .ref a_t_text, .int t_length, .int t_at, .int t_faultAt, .int t_year, .int x1, .ref a_t_whose, .int t_mendChanges, .ref a_t_plan, .int t_most, .int t_above, .int t_handing, .int t_wants, .ref a_t_wantNight, .ref a_t_wantHouse, .ref a_t_wantWeight, .ref a_t_ahead, .ref a_t_best, .ref a_t_fines, .ref a_t_times, .ref a_t_isKept, .ref a_t_keptPlan, .ref a_t_keptFines, .ref a_t_keptTimes])), (a_t_ahead, .inl (cI, 1824, .inl g272)), (a_t_best, .inl (cI, 56, .inl t_best)), (a_t_paperMany, .inl (cI, 3, .inl t_paperMany)), (a_t_papers, .inl (cI, 180, .inl t_papers)), (a_t_wantHouse, .inl (cI, 12, .inl t_wantHouse)), (a_t_wantNight, .inl (cI, 12, .inl t_wantNight)), (a_t_wantWeight, .inl (cI, 12, .inl t_wantWeight)), (a_t_whose, .inl (cI, 56, .inl g2))] → va_S A s.heap H locs → lv_has ls 8 [(0, .ref a_t), (1, .int p1), (2, .int x271)] → V H locs (F0 m 32 ls [])) ?_ (fun hL272 => ?_)
    · intro n
      induction n with
      | zero => intro x271 g272 H locs ls hit272; exact (zz_it0 hit272).elim
      | succ n ih272 =>
        intro x271 g272 H locs ls hit272 hP hD hS hl
        obtain ⟨y272, hb272, hy272⟩ := zz_itE hit272
        have hb272 : fb_X9_layBest_32 p1 t_most t_above t_handing t_wants g2 t_wantHouse t_wantNight t_wantWeight x271 g272 = some y272 := hb272
        unfold fb_X9_layBest_32 at hb272
        refine lv_iload_n hx hb dX9_layBest_32 rfl (lv_at hl 2 rfl) ?_
        refine lv_if_lt (tgt := 176) hx hb dX9_layBest_33 (by decide) (fun c335 => ?_) (fun c335 => ?_)
        · have hb272 := zz_if c335 hb272
          obtain rfl := Option.some.inj hb272
          have hy272 := Option.some.inj hy272
          cases hy272
          exact hE272 _ _ ls hP hD hS (lv_sub hl [0, 1] rfl)
        · have hb272 := zz_ifn c335 hb272
          refine lv_iconst (v := 0) hx hb dX9_layBest_36 (by decide) ?_
          refine lv_istore_n (lv' := [(3, .int 0), (0, .ref a_t), (1, .int p1), (2, .int x271)]) hx hb dX9_layBest_37 rfl hl (by decide) rfl (fun ls hl => ?_)
          obtain ⟨g420, hit419, hb272⟩ := zz_b1E hb272
          refine zz_cut (fun V => ∀ (H : Heap) (locs : List Loc) (ls : Array Slot), va_P (dC, dI) vwCl [(a_t, .inr (8, [.ref a_t_read, .int t_readMany, .ref a_t_papers, .ref a_t_paperMany, .ref a_t_text, .int t_length, .int t_at, .int t_faultAt, .int t_year, .int x1, .ref a_t_whose, .int t_mendChanges, .ref a_t_plan, .int t_most, .int t_above, .int t_handing, .int t_wants, .ref a_t_wantNight, .ref a_t_wantHouse, .ref a_t_wantWeight, .ref a_t_ahead, .ref a_t_best, .ref a_t_fines, .ref a_t_times, .ref a_t_isKept, .ref a_t_keptPlan, .ref a_t_keptFines, .ref a_t_keptTimes])), (a_t_ahead, .inl (cI, 1824, .inl g420)), (a_t_best, .inl (cI, 56, .inl t_best)), (a_t_paperMany, .inl (cI, 3, .inl t_paperMany)), (a_t_papers, .inl (cI, 180, .inl t_papers)), (a_t_wantHouse, .inl (cI, 12, .inl t_wantHouse)), (a_t_wantNight, .inl (cI, 12, .inl t_wantNight)), (a_t_wantWeight, .inl (cI, 12, .inl t_wantWeight)), (a_t_whose, .inl (cI, 56, .inl g2))] H → va_D A [(a_t, .inr (8, [.ref a_t_read, .int t_readMany, .ref a_t_papers, .ref a_t_paperMany, .ref a_t_text, .int t_length, .int t_at, .int t_faultAt, .int t_year, .int x1, .ref a_t_whose, .int t_mendChanges, .ref a_t_plan, .int t_most, .int t_above, .int t_handing, .int t_wants, .ref a_t_wantNight, .ref a_t_wantHouse, .ref a_t_wantWeight, .ref a_t_ahead, .ref a_t_best, .ref a_t_fines, .ref a_t_times, .ref a_t_isKept, .ref a_t_keptPlan, .ref a_t_keptFines, .ref a_t_keptTimes])), (a_t_ahead, .inl (cI, 1824, .inl g420)), (a_t_best, .inl (cI, 56, .inl t_best)), (a_t_paperMany, .inl (cI, 3, .inl t_paperMany)), (a_t_papers, .inl (cI, 180, .inl t_papers)), (a_t_wantHouse, .inl (cI, 12, .inl t_wantHouse)), (a_t_wantNight, .inl (cI, 12, .inl t_wantNight)), (a_t_wantWeight, .inl (cI, 12, .inl t_wantWeight)), (a_t_whose, .inl (cI, 56, .inl g2))] → va_S A s.heap H locs → lv_has ls 8 [(0, .ref a_t), (1, .int p1), (2, .int x271)] → V H locs (F0 m 170 ls [])) ?_ (fun hE419 => ?_)
          · intro H locs ls hP hD hS hl
            obtain ⟨x421, ex421⟩ : ∃ z : Int32, z = x271 + (-1) := ⟨_, rfl⟩
            have hb272 := zz_nmE ex421 hb272
            refine lv_iinc (v := x421) (lv' := [(2, .int x421), (0, .ref a_t), (1, .int p1)]) hx hb dX9_layBest_170 hl (k := 2) rfl (by rw [ex421]; rfl) (by decide) rfl (fun ls hl => ?_)
            refine lv_goto (tgt := 32) hx hb dX9_layBest_173 (by decide) ?_
            obtain rfl := Option.some.inj hb272
            exact ih272 x421 g420 _ _ ls hy272 hP hD hS (lv_sub hl [1, 2, 0] rfl)
          refine zz_cut (fun V => ∀ (n : Nat) (x418 : Int32) (g419 : (Nat → Int32)) (H : Heap) (locs : List Loc) (ls : Array Slot), zz_it (fun z => fb_X9_layBest_38 p1 t_most t_above t_handing t_wants g2 t_wantHouse t_wantNight t_wantWeight x271 z.1 z.2) n (x418, g419) = some g420 → va_P (dC, dI) vwCl [(a_t, .inr (8, [.ref a_t_read, .int t_readMany, .ref a_t_papers, .ref a_t_paperMany, .ref a_t_text, .int t_length, .int t_at, .int t_faultAt, .int t_year, .int x1, .ref a_t_whose, .int t_mendChanges, .ref a_t_plan, .int t_most, .int t_above, .int t_handing, .int t_wants, .ref a_t_wantNight, .ref a_t_wantHouse, .ref a_t_wantWeight, .ref a_t_ahead, .ref a_t_best, .ref a_t_fines, .ref a_t_times, .ref a_t_isKept, .ref a_t_keptPlan, .ref a_t_keptFines, .ref a_t_keptTimes])), (a_t_ahead, .inl (cI, 1824, .inl g419)), (a_t_best, .inl (cI, 56, .inl t_best)), (a_t_paperMany, .inl (cI, 3, .inl t_paperMany)), (a_t_papers, .inl (cI, 180, .inl t_papers)), (a_t_wantHouse, .inl (cI, 12, .inl t_wantHouse)), (a_t_wantNight, .inl (cI, 12, .inl t_wantNight)), (a_t_wantWeight, .inl (cI, 12, .inl t_wantWeight)), (a_t_whose, .inl (cI, 56, .inl g2))] H → va_D A [(a_t, .inr (8, [.ref a_t_read, .int t_readMany, .ref a_t_papers, .ref a_t_paperMany, .ref a_t_text, .int t_length, .int t_at, .int t_faultAt, .int t_year, .int x1, .ref a_t_whose, .int t_mendChanges, .ref a_t_plan, .int t_most, .int t_above, .int t_handing, .int t_wants, .ref a_t_wantNight, .ref a_t_wantHouse, .ref a_t_wantWeight, .ref a_t_ahead, .ref a_t_best, .ref a_t_fines, .ref a_t_times, .ref a_t_isKept, .ref a_t_keptPlan, .ref a_t_keptFines, .ref a_t_keptTimes])), (a_t_ahead, .inl (cI, 1824, .inl g419)), (a_t_best, .inl (cI, 56, .inl t_best)), (a_t_paperMany, .inl (cI, 3, .inl t_paperMany)), (a_t_papers, .inl (cI, 180, .inl t_papers)), (a_t_wantHouse, .inl (cI, 12, .inl t_wantHouse)), (a_t_wantNight, .inl (cI, 12, .inl t_wantNight)), (a_t_wantWeight, .inl (cI, 12, .inl t_wantWeight)), (a_t_whose, .inl (cI, 56, .inl g2))] → va_S A s.heap H locs → lv_has ls 8 [(0, .ref a_t), (1, .int p1), (2, .int x271), (3, .int x418)] → V H locs (F0 m 38 ls [])) ?_ (fun hL419 => ?_)
          · intro n
            induction n with
            | zero => intro x418 g419 H locs ls hit419; exact (zz_it0 hit419).elim
            | succ n ih419 =>
              intro x418 g419 H locs ls hit419 hP hD hS hl
              obtain ⟨y419, hb419, hy419⟩ := zz_itE hit419
              have hb419 : fb_X9_layBest_38 p1 t_most t_above t_handing t_wants g2 t_wantHouse t_wantNight t_wantWeight x271 x418 g419 = some y419 := hb419
              unfold fb_X9_layBest_38 at hb419
              refine lv_iload_n hx hb dX9_layBest_38 rfl (lv_at hl 3 rfl) ?_
              refine lv_bipush (v := 32) hx hb dX9_layBest_39 (by decide) ?_
              refine lv_icmp_ge (tgt := 170) hx hb dX9_layBest_41 (by decide) (fun c422 => ?_) (fun c422 => ?_)
              · have hb419 := zz_if c422 hb419
                obtain rfl := Option.some.inj hb419
                have hy419 := Option.some.inj hy419
                cases hy419
                exact hE419 _ _ ls hP hD hS (lv_sub hl [0, 1, 2] rfl)
              · have hb419 := zz_ifn c422 hb419
                refine lv_iload_n hx hb dX9_layBest_44 rfl (lv_at hl 3 rfl) ?_
                refine lv_bipush (v := 16) hx hb dX9_layBest_45 (by decide) ?_
                refine lv_irem hx hb dX9_layBest_47 (by decide) ?_
                refine lv_topi (fun x424 ex424 => ?_)
                have hb419 := zz_nmE ex424 hb419
                refine lv_istore (lv' := [(4, .int x424), (0, .ref a_t), (1, .int p1), (2, .int x271), (3, .int x418)]) hx hb dX9_layBest_48 hl (by decide) rfl (fun ls hl => ?_)
                refine lv_iload_n hx hb dX9_layBest_50 rfl (lv_at hl 3 rfl) ?_
                obtain ⟨x429, hj430, hb419⟩ := zz_b1E hb419
                refine zz_cut (fun V => ∀ (H : Heap) (locs : List Loc) (ls : Array Slot), va_P (dC, dI) vwCl [(a_t, .inr (8, [.ref a_t_read, .int t_readMany, .ref a_t_papers, .ref a_t_paperMany, .ref a_t_text, .int t_length, .int t_at, .int t_faultAt, .int t_year, .int x1, .ref a_t_whose, .int t_mendChanges, .ref a_t_plan, .int t_most, .int t_above, .int t_handing, .int t_wants, .ref a_t_wantNight, .ref a_t_wantHouse, .ref a_t_wantWeight, .ref a_t_ahead, .ref a_t_best, .ref a_t_fines, .ref a_t_times, .ref a_t_isKept, .ref a_t_keptPlan, .ref a_t_keptFines, .ref a_t_keptTimes])), (a_t_ahead, .inl (cI, 1824, .inl g419)), (a_t_best, .inl (cI, 56, .inl t_best)), (a_t_paperMany, .inl (cI, 3, .inl t_paperMany)), (a_t_papers, .inl (cI, 180, .inl t_papers)), (a_t_wantHouse, .inl (cI, 12, .inl t_wantHouse)), (a_t_wantNight, .inl (cI, 12, .inl t_wantNight)), (a_t_wantWeight, .inl (cI, 12, .inl t_wantWeight)), (a_t_whose, .inl (cI, 56, .inl g2))] H → va_D A [(a_t, .inr (8, [.ref a_t_read, .int t_readMany, .ref a_t_papers, .ref a_t_paperMany, .ref a_t_text, .int t_length, .int t_at, .int t_faultAt, .int t_year, .int x1, .ref a_t_whose, .int t_mendChanges, .ref a_t_plan, .int t_most, .int t_above, .int t_handing, .int t_wants, .ref a_t_wantNight, .ref a_t_wantHouse, .ref a_t_wantWeight, .ref a_t_ahead, .ref a_t_best, .ref a_t_fines, .ref a_t_times, .ref a_t_isKept, .ref a_t_keptPlan, .ref a_t_keptFines, .ref a_t_keptTimes])), (a_t_ahead, .inl (cI, 1824, .inl g419)), (a_t_best, .inl (cI, 56, .inl t_best)), (a_t_paperMany, .inl (cI, 3, .inl t_paperMany)), (a_t_papers, .inl (cI, 180, .inl t_papers)), (a_t_wantHouse, .inl (cI, 12, .inl t_wantHouse)), (a_t_wantNight, .inl (cI, 12, .inl t_wantNight)), (a_t_wantWeight, .inl (cI, 12, .inl t_wantWeight)), (a_t_whose, .inl (cI, 56, .inl g2))] → va_S A s.heap H locs → lv_has ls 8 [(0, .ref a_t), (1, .int p1), (2, .int x271), (3, .int x418), (4, .int x424)] → V H locs (F0 m 87 ls [.int x429])) ?_ (fun hJ430 => ?_)
                · intro H locs ls hP hD hS hl
                  refine lv_istore (lv' := [(5, .int x429), (0, .ref a_t), (1, .int p1), (2, .int x271), (3, .int x418), (4, .int x424)]) hx hb dX9_layBest_87 hl (by decide) rfl (fun ls hl => ?_)
                  refine lv_iload hx hb dX9_layBest_89 (lv_at hl 0 rfl) ?_
                  obtain ⟨x436, hj437, hb419⟩ := zz_b1E hb419
                  refine zz_cut (fun V => ∀ (H : Heap) (locs : List Loc) (ls : Array Slot), va_P (dC, dI) vwCl [(a_t, .inr (8, [.ref a_t_read, .int t_readMany, .ref a_t_papers, .ref a_t_paperMany, .ref a_t_text, .int t_length, .int t_at, .int t_faultAt, .int t_year, .int x1, .ref a_t_whose, .int t_mendChanges, .ref a_t_plan, .int t_most, .int t_above, .int t_handing, .int t_wants, .ref a_t_wantNight, .ref a_t_wantHouse, .ref a_t_wantWeight, .ref a_t_ahead, .ref a_t_best, .ref a_t_fines, .ref a_t_times, .ref a_t_isKept, .ref a_t_keptPlan, .ref a_t_keptFines, .ref a_t_keptTimes])), (a_t_ahead, .inl (cI, 1824, .inl g419)), (a_t_best, .inl (cI, 56, .inl t_best)), (a_t_paperMany, .inl (cI, 3, .inl t_paperMany)), (a_t_papers, .inl (cI, 180, .inl t_papers)), (a_t_wantHouse, .inl (cI, 12, .inl t_wantHouse)), (a_t_wantNight, .inl (cI, 12, .inl t_wantNight)), (a_t_wantWeight, .inl (cI, 12, .inl t_wantWeight)), (a_t_whose, .inl (cI, 56, .inl g2))] H → va_D A [(a_t, .inr (8, [.ref a_t_read, .int t_readMany, .ref a_t_papers, .ref a_t_paperMany, .ref a_t_text, .int t_length, .int t_at, .int t_faultAt, .int t_year, .int x1, .ref a_t_whose, .int t_mendChanges, .ref a_t_plan, .int t_most, .int t_above, .int t_handing, .int t_wants, .ref a_t_wantNight, .ref a_t_wantHouse, .ref a_t_wantWeight, .ref a_t_ahead, .ref a_t_best, .ref a_t_fines, .ref a_t_times, .ref a_t_isKept, .ref a_t_keptPlan, .ref a_t_keptFines, .ref a_t_keptTimes])), (a_t_ahead, .inl (cI, 1824, .inl g419)), (a_t_best, .inl (cI, 56, .inl t_best)), (a_t_paperMany, .inl (cI, 3, .inl t_paperMany)), (a_t_papers, .inl (cI, 180, .inl t_papers)), (a_t_wantHouse, .inl (cI, 12, .inl t_wantHouse)), (a_t_wantNight, .inl (cI, 12, .inl t_wantNight)), (a_t_wantWeight, .inl (cI, 12, .inl t_wantWeight)), (a_t_whose, .inl (cI, 56, .inl g2))] → va_S A s.heap H locs → lv_has ls 8 [(0, .ref a_t), (1, .int p1), (2, .int x271), (3, .int x418), (4, .int x424), (5, .int x429)] → V H locs (F0 m 112 ls [.int x436])) ?_ (fun hJ437 => ?_)
                  · intro H locs ls hP hD hS hl
                    refine lv_istore (lv' := [(6, .int x436), (0, .ref a_t), (1, .int p1), (2, .int x271), (3, .int x418), (4, .int x424), (5, .int x429)]) hx hb dX9_layBest_112 hl (by decide) rfl (fun ls hl => ?_)
                    refine lv_iload hx hb dX9_layBest_114 (lv_at hl 6 rfl) ?_
                    obtain ⟨x443, hj444, hb419⟩ := zz_b1E hb419
                    refine zz_cut (fun V => ∀ (H : Heap) (locs : List Loc) (ls : Array Slot), va_P (dC, dI) vwCl [(a_t, .inr (8, [.ref a_t_read, .int t_readMany, .ref a_t_papers, .ref a_t_paperMany, .ref a_t_text, .int t_length, .int t_at, .int t_faultAt, .int t_year, .int x1, .ref a_t_whose, .int t_mendChanges, .ref a_t_plan, .int t_most, .int t_above, .int t_handing, .int t_wants, .ref a_t_wantNight, .ref a_t_wantHouse, .ref a_t_wantWeight, .ref a_t_ahead, .ref a_t_best, .ref a_t_fines, .ref a_t_times, .ref a_t_isKept, .ref a_t_keptPlan, .ref a_t_keptFines, .ref a_t_keptTimes])), (a_t_ahead, .inl (cI, 1824, .inl g419)), (a_t_best, .inl (cI, 56, .inl t_best)), (a_t_paperMany, .inl (cI, 3, .inl t_paperMany)), (a_t_papers, .inl (cI, 180, .inl t_papers)), (a_t_wantHouse, .inl (cI, 12, .inl t_wantHouse)), (a_t_wantNight, .inl (cI, 12, .inl t_wantNight)), (a_t_wantWeight, .inl (cI, 12, .inl t_wantWeight)), (a_t_whose, .inl (cI, 56, .inl g2))] H → va_D A [(a_t, .inr (8, [.ref a_t_read, .int t_readMany, .ref a_t_papers, .ref a_t_paperMany, .ref a_t_text, .int t_length, .int t_at, .int t_faultAt, .int t_year, .int x1, .ref a_t_whose, .int t_mendChanges, .ref a_t_plan, .int t_most, .int t_above, .int t_handing, .int t_wants, .ref a_t_wantNight, .ref a_t_wantHouse, .ref a_t_wantWeight, .ref a_t_ahead, .ref a_t_best, .ref a_t_fines, .ref a_t_times, .ref a_t_isKept, .ref a_t_keptPlan, .ref a_t_keptFines, .ref a_t_keptTimes])), (a_t_ahead, .inl (cI, 1824, .inl g419)), (a_t_best, .inl (cI, 56, .inl t_best)), (a_t_paperMany, .inl (cI, 3, .inl t_paperMany)), (a_t_papers, .inl (cI, 180, .inl t_papers)), (a_t_wantHouse, .inl (cI, 12, .inl t_wantHouse)), (a_t_wantNight, .inl (cI, 12, .inl t_wantNight)), (a_t_wantWeight, .inl (cI, 12, .inl t_wantWeight)), (a_t_whose, .inl (cI, 56, .inl g2))] → va_S A s.heap H locs → lv_has ls 8 [(0, .ref a_t), (1, .int p1), (2, .int x271), (3, .int x418), (6, .int x436)] → V H locs (F0 m 137 ls [.int x443])) ?_ (fun hJ444 => ?_)
                    · intro H locs ls hP hD hS hl
                      refine lv_istore (lv' := [(7, .int x443), (0, .ref a_t), (1, .int p1), (2, .int x271), (3, .int x418), (6, .int x436)]) hx hb dX9_layBest_137 hl (by decide) rfl (fun ls hl => ?_)
                      refine lv_aload_n hx hb dX9_layBest_139 rfl (lv_at hl 1 rfl) ?_
                      refine va_get (ci := 8) (v := .ref a_t_ahead) (C := RX9) (T := TX9) (N := 28) hx hb hts in_X9_layBest_X9 hown hK hP 0 rfl rfl 20 (by decide) (hts _ lk_X9_layBest_0) (fun _ h9 => h9) rfl dX9_layBest_140 ?_
                      refine lv_bipush (v := 32) hx hb dX9_layBest_143 (by decide) ?_
                      refine lv_iload_n hx hb dX9_layBest_145 rfl (lv_at hl 3 rfl) ?_
                      refine lv_imul hx hb dX9_layBest_146 ?_
                      refine lv_iload_n hx hb dX9_layBest_147 rfl (lv_at hl 4 rfl) ?_
                      refine lv_iadd hx hb dX9_layBest_148 ?_
                      refine lv_iload hx hb dX9_layBest_149 (lv_at hl 5 rfl) ?_
                      refine lv_iload hx hb dX9_layBest_151 (lv_at hl 0 rfl) ?_
                      refine lv_icmp_ge (tgt := 161) hx hb dX9_layBest_153 (by decide) (fun c445 => ?_) (fun c445 => ?_)
                      · have hb419 := zz_if c445 hb419
                        refine lv_iload hx hb dX9_layBest_161 (lv_at hl 0 rfl) ?_
                        obtain ⟨hi446, hb419⟩ := zz_chkE hb419
                        refine zz_iast hx hb hK hP hD hS 1 0 rfl rfl hi446 dX9_layBest_163 (fun g447 => [(a_t, .inr (8, [.ref a_t_read, .int t_readMany, .ref a_t_papers, .ref a_t_paperMany, .ref a_t_text, .int t_length, .int t_at, .int t_faultAt, .int t_year, .int x1, .ref a_t_whose, .int t_mendChanges, .ref a_t_plan, .int t_most, .int t_above, .int t_handing, .int t_wants, .ref a_t_wantNight, .ref a_t_wantHouse, .ref a_t_wantWeight, .ref a_t_ahead, .ref a_t_best, .ref a_t_fines, .ref a_t_times, .ref a_t_isKept, .ref a_t_keptPlan, .ref a_t_keptFines, .ref a_t_keptTimes])), (a_t_ahead, .inl (cI, 1824, .inl g447)), (a_t_best, .inl (cI, 56, .inl t_best)), (a_t_paperMany, .inl (cI, 3, .inl t_paperMany)), (a_t_papers, .inl (cI, 180, .inl t_papers)), (a_t_wantHouse, .inl (cI, 12, .inl t_wantHouse)), (a_t_wantNight, .inl (cI, 12, .inl t_wantNight)), (a_t_wantWeight, .inl (cI, 12, .inl t_wantWeight)), (a_t_whose, .inl (cI, 56, .inl g2))]) (fun _ => rfl) (fun g447 H locs eg447 hP hD hS => ?_)
                        have hb419 := zz_nmE eg447 hb419
                        obtain ⟨x448, ex448⟩ : ∃ z : Int32, z = x418 + 1 := ⟨_, rfl⟩
                        have hb419 := zz_nmE ex448 hb419
                        refine lv_iinc (v := x448) (lv' := [(3, .int x448), (7, .int x443), (0, .ref a_t), (1, .int p1), (2, .int x271), (6, .int x436)]) hx hb dX9_layBest_164 hl (k := 4) rfl (by rw [ex448]; rfl) (by decide) rfl (fun ls hl => ?_)
                        refine lv_goto (tgt := 38) hx hb dX9_layBest_167 (by decide) ?_
                        obtain rfl := Option.some.inj hb419
                        exact ih419 x448 g447 _ _ ls hy419 hP hD hS (lv_sub hl [2, 3, 4, 0] rfl)
                      · have hb419 := zz_ifn c445 hb419
                        refine lv_iload hx hb dX9_layBest_156 (lv_at hl 5 rfl) ?_
                        refine lv_goto (tgt := 163) hx hb dX9_layBest_158 (by decide) ?_
                        obtain ⟨hi449, hb419⟩ := zz_chkE hb419
                        refine zz_iast hx hb hK hP hD hS 1 0 rfl rfl hi449 dX9_layBest_163 (fun g450 => [(a_t, .inr (8, [.ref a_t_read, .int t_readMany, .ref a_t_papers, .ref a_t_paperMany, .ref a_t_text, .int t_length, .int t_at, .int t_faultAt, .int t_year, .int x1, .ref a_t_whose, .int t_mendChanges, .ref a_t_plan, .int t_most, .int t_above, .int t_handing, .int t_wants, .ref a_t_wantNight, .ref a_t_wantHouse, .ref a_t_wantWeight, .ref a_t_ahead, .ref a_t_best, .ref a_t_fines, .ref a_t_times, .ref a_t_isKept, .ref a_t_keptPlan, .ref a_t_keptFines, .ref a_t_keptTimes])), (a_t_ahead, .inl (cI, 1824, .inl g450)), (a_t_best, .inl (cI, 56, .inl t_best)), (a_t_paperMany, .inl (cI, 3, .inl t_paperMany)), (a_t_papers, .inl (cI, 180, .inl t_papers)), (a_t_wantHouse, .inl (cI, 12, .inl t_wantHouse)), (a_t_wantNight, .inl (cI, 12, .inl t_wantNight)), (a_t_wantWeight, .inl (cI, 12, .inl t_wantWeight)), (a_t_whose, .inl (cI, 56, .inl g2))]) (fun _ => rfl) (fun g450 H locs eg450 hP hD hS => ?_)
                        have hb419 := zz_nmE eg450 hb419
                        obtain ⟨x451, ex451⟩ : ∃ z : Int32, z = x418 + 1 := ⟨_, rfl⟩
                        have hb419 := zz_nmE ex451 hb419
                        refine lv_iinc (v := x451) (lv' := [(3, .int x451), (7, .int x443), (0, .ref a_t), (1, .int p1), (2, .int x271), (6, .int x436)]) hx hb dX9_layBest_164 hl (k := 4) rfl (by rw [ex451]; rfl) (by decide) rfl (fun ls hl => ?_)
                        refine lv_goto (tgt := 38) hx hb dX9_layBest_167 (by decide) ?_
                        obtain rfl := Option.some.inj hb419
                        exact ih419 x451 g450 _ _ ls hy419 hP hD hS (lv_sub hl [2, 3, 4, 0] rfl)
                    refine lv_if_eq (tgt := 135) hx hb dX9_layBest_116 (by decide) (fun c438 => ?_) (fun c438 => ?_)
                    · have hj444 := zz_if c438 hj444
                      refine lv_ldc (v := 1000000) hx hb hown (hts _ lk_X9_layBest_2) dX9_layBest_135 ?_
                      cases hj444
                      exact hJ444 _ _ ls hP hD hS (lv_sub hl [1, 2, 3, 4, 0] rfl)
                    · have hj444 := zz_ifn c438 hj444
                      refine lv_aload_n hx hb dX9_layBest_119 rfl (lv_at hl 1 rfl) ?_
                      refine lv_iload_n hx hb dX9_layBest_120 rfl (lv_at hl 3 rfl) ?_
                      refine lv_iconst (v := 1) hx hb dX9_layBest_121 (by decide) ?_
                      refine lv_iload_n hx hb dX9_layBest_122 rfl (lv_at hl 4 rfl) ?_
                      refine lv_bipush (v := 16) hx hb dX9_layBest_123 (by decide) ?_
                      refine lv_idiv hx hb dX9_layBest_125 (by decide) ?_
                      refine lv_iload hx hb dX9_layBest_126 (lv_at hl 5 rfl) ?_
                      refine lv_iload_n hx hb dX9_layBest_128 rfl (lv_at hl 2 rfl) ?_
                      obtain ⟨x453, u454, he455, hj444⟩ := zz_b2E hj444
                      refine zz_VI (q := (RX9, TX9, 28)) (As := [.int x271, .int 1, .int (x418 / 16), .int x424, .int p1]) (rest := []) (wr := [(a_t_best, .inl (cI, 56, .inl t_best)), (a_t_paperMany, .inl (cI, 3, .inl t_paperMany)), (a_t_papers, .inl (cI, 180, .inl t_papers))]) (wm := [(a_t, .inr (8, [.ref a_t_read, .int t_readMany, .ref a_t_papers, .ref a_t_paperMany, .ref a_t_text, .int t_length, .int t_at, .int t_faultAt, .int t_year, .int x1, .ref a_t_whose, .int t_mendChanges, .ref a_t_plan, .int t_most, .int t_above, .int t_handing, .int t_wants, .ref a_t_wantNight, .ref a_t_wantHouse, .ref a_t_wantWeight, .ref a_t_ahead, .ref a_t_best, .ref a_t_fines, .ref a_t_times, .ref a_t_isKept, .ref a_t_keptPlan, .ref a_t_keptFines, .ref a_t_keptTimes])), (a_t_ahead, .inl (cI, 1824, .inl g419)), (a_t_best, .inl (cI, 56, .inl t_best)), (a_t_paperMany, .inl (cI, 3, .inl t_paperMany)), (a_t_papers, .inl (cI, 180, .inl t_papers)), (a_t_wantHouse, .inl (cI, 12, .inl t_wantHouse)), (a_t_wantNight, .inl (cI, 12, .inl t_wantNight)), (a_t_wantWeight, .inl (cI, 12, .inl t_wantWeight)), (a_t_whose, .inl (cI, 56, .inl g2))]) ⟨hx, hb, hml, hown, hts⟩ (ct_X9_from l dC dI cI cJ cB cZ a_t a_t_ahead a_t_wantHouse a_t_wantNight a_t_wantWeight a_t_whose a_t_read a_t_papers a_t_paperMany a_t_text a_t_plan a_t_best a_t_fines a_t_times a_t_isKept a_t_keptPlan a_t_keptFines a_t_keptTimes t_readMany t_length t_at t_faultAt t_year x1 t_mendChanges t_most t_above t_handing t_wants g419 t_wantHouse t_wantNight t_wantWeight g2 x271 (1 : Int32) (x418 / 16) x424 p1 x453 u454 he455) gX9_layBest_X9_from hd_X9_from rfl rfl rfl ⟨Nat.le_of_ble_eq_true rfl, Nat.le_of_ble_eq_true rfl⟩ ⟨Nat.le_of_ble_eq_true rfl, Nat.le_of_ble_eq_true rfl⟩ rfl rfl (Nat.le_of_ble_eq_true rfl) dX9_layBest_129 hl.1 rfl (ci := 8) rfl (q0 := 0) rfl hP hK hD hS hA [0, 1, 5, 6, 7, 8] [2, 3, 4] [3, 4, 0, 1, 2, 5, 6, 7, 8] rfl rfl (by decide) (by decide) (by decide) (by decide) rfl (fun H locs hP hD hS => ?_)
                      refine lv_goto (tgt := 137) hx hb dX9_layBest_132 (by decide) ?_
                      cases hj444
                      exact hJ444 _ _ ls hP hD hS (lv_sub hl [1, 2, 3, 4, 0] rfl)
                  refine lv_if_eq (tgt := 110) hx hb dX9_layBest_91 (by decide) (fun c431 => ?_) (fun c431 => ?_)
                  · have hj437 := zz_if c431 hj437
                    refine lv_ldc (v := 1000000) hx hb hown (hts _ lk_X9_layBest_2) dX9_layBest_110 ?_
                    cases hj437
                    exact hJ437 _ _ ls hP hD hS (lv_sub hl [1, 2, 3, 4, 5, 0] rfl)
                  · have hj437 := zz_ifn c431 hj437
                    refine lv_aload_n hx hb dX9_layBest_94 rfl (lv_at hl 1 rfl) ?_
                    refine lv_iload_n hx hb dX9_layBest_95 rfl (lv_at hl 3 rfl) ?_
                    refine lv_iconst (v := 0) hx hb dX9_layBest_96 (by decide) ?_
                    refine lv_iload_n hx hb dX9_layBest_97 rfl (lv_at hl 4 rfl) ?_
                    refine lv_bipush (v := 16) hx hb dX9_layBest_98 (by decide) ?_
                    refine lv_idiv hx hb dX9_layBest_100 (by decide) ?_
                    refine lv_iload hx hb dX9_layBest_101 (lv_at hl 5 rfl) ?_
                    refine lv_iload_n hx hb dX9_layBest_103 rfl (lv_at hl 2 rfl) ?_
                    obtain ⟨x457, u458, he459, hj437⟩ := zz_b2E hj437
                    refine zz_VI (q := (RX9, TX9, 28)) (As := [.int x271, .int 0, .int (x418 / 16), .int x424, .int p1]) (rest := []) (wr := [(a_t_best, .inl (cI, 56, .inl t_best)), (a_t_paperMany, .inl (cI, 3, .inl t_paperMany)), (a_t_papers, .inl (cI, 180, .inl t_papers))]) (wm := [(a_t, .inr (8, [.ref a_t_read, .int t_readMany, .ref a_t_papers, .ref a_t_paperMany, .ref a_t_text, .int t_length, .int t_at, .int t_faultAt, .int t_year, .int x1, .ref a_t_whose, .int t_mendChanges, .ref a_t_plan, .int t_most, .int t_above, .int t_handing, .int t_wants, .ref a_t_wantNight, .ref a_t_wantHouse, .ref a_t_wantWeight, .ref a_t_ahead, .ref a_t_best, .ref a_t_fines, .ref a_t_times, .ref a_t_isKept, .ref a_t_keptPlan, .ref a_t_keptFines, .ref a_t_keptTimes])), (a_t_ahead, .inl (cI, 1824, .inl g419)), (a_t_best, .inl (cI, 56, .inl t_best)), (a_t_paperMany, .inl (cI, 3, .inl t_paperMany)), (a_t_papers, .inl (cI, 180, .inl t_papers)), (a_t_wantHouse, .inl (cI, 12, .inl t_wantHouse)), (a_t_wantNight, .inl (cI, 12, .inl t_wantNight)), (a_t_wantWeight, .inl (cI, 12, .inl t_wantWeight)), (a_t_whose, .inl (cI, 56, .inl g2))]) ⟨hx, hb, hml, hown, hts⟩ (ct_X9_from l dC dI cI cJ cB cZ a_t a_t_ahead a_t_wantHouse a_t_wantNight a_t_wantWeight a_t_whose a_t_read a_t_papers a_t_paperMany a_t_text a_t_plan a_t_best a_t_fines a_t_times a_t_isKept a_t_keptPlan a_t_keptFines a_t_keptTimes t_readMany t_length t_at t_faultAt t_year x1 t_mendChanges t_most t_above t_handing t_wants g419 t_wantHouse t_wantNight t_wantWeight g2 x271 (0 : Int32) (x418 / 16) x424 p1 x457 u458 he459) gX9_layBest_X9_from hd_X9_from rfl rfl rfl ⟨Nat.le_of_ble_eq_true rfl, Nat.le_of_ble_eq_true rfl⟩ ⟨Nat.le_of_ble_eq_true rfl, Nat.le_of_ble_eq_true rfl⟩ rfl rfl (Nat.le_of_ble_eq_true rfl) dX9_layBest_104 hl.1 rfl (ci := 8) rfl (q0 := 0) rfl hP hK hD hS hA [0, 1, 5, 6, 7, 8] [2, 3, 4] [3, 4, 0, 1, 2, 5, 6, 7, 8] rfl rfl (by decide) (by decide) (by decide) (by decide) rfl (fun H locs hP hD hS => ?_)
                    refine lv_goto (tgt := 112) hx hb dX9_layBest_107 (by decide) ?_
                    cases hj437
                    exact hJ437 _ _ ls hP hD hS (lv_sub hl [1, 2, 3, 4, 5, 0] rfl)
                refine lv_if_ne (tgt := 66) hx hb dX9_layBest_51 (by decide) (fun c425 => ?_) (fun c425 => ?_)
                · have hj430 := zz_ifn c425 hj430
                  refine lv_iload hx hb dX9_layBest_66 (lv_at hl 0 rfl) ?_
                  refine lv_if_le (tgt := 86) hx hb dX9_layBest_68 (by decide) (fun c460 => ?_) (fun c460 => ?_)
                  · have hj430 := zz_if c460 hj430
                    refine lv_iconst (v := 0) hx hb dX9_layBest_86 (by decide) ?_
                    cases hj430
                    exact hJ430 _ _ ls hP hD hS (lv_sub hl [1, 2, 3, 4, 0] rfl)
                  · have hj430 := zz_ifn c460 hj430
                    refine lv_iload hx hb dX9_layBest_71 (lv_at hl 0 rfl) ?_
                    refine lv_aload_n hx hb dX9_layBest_73 rfl (lv_at hl 1 rfl) ?_
                    refine va_get (ci := 8) (v := .int t_most) (C := RX9) (T := TX9) (N := 28) hx hb hts in_X9_layBest_X9 hown hK hP 0 rfl rfl 13 (by decide) (hts _ lk_X9_layBest_1) (fun _ h9 => h9) rfl dX9_layBest_74 ?_
                    refine lv_iconst (v := 1) hx hb dX9_layBest_77 (by decide) ?_
                    refine lv_iadd hx hb dX9_layBest_78 ?_
                    refine lv_icmp_gt (tgt := 86) hx hb dX9_layBest_79 (by decide) (fun c461 => ?_) (fun c461 => ?_)
                    · have hj430 := zz_if c461 hj430
                      refine lv_iconst (v := 0) hx hb dX9_layBest_86 (by decide) ?_
                      cases hj430
                      exact hJ430 _ _ ls hP hD hS (lv_sub hl [1, 2, 3, 4, 0] rfl)
                    · have hj430 := zz_ifn c461 hj430
                      refine lv_iconst (v := 1) hx hb dX9_layBest_82 (by decide) ?_
                      refine lv_goto (tgt := 87) hx hb dX9_layBest_83 (by decide) ?_
                      cases hj430
                      exact hJ430 _ _ ls hP hD hS (lv_sub hl [1, 2, 3, 4, 0] rfl)
                · have hj430 := zz_if c425 hj430
                  refine lv_iload_n hx hb dX9_layBest_54 rfl (lv_at hl 4 rfl) ?_
                  refine lv_if_ne (tgt := 62) hx hb dX9_layBest_55 (by decide) (fun c462 => ?_) (fun c462 => ?_)
                  · have hj430 := zz_ifn c462 hj430
                    refine lv_iconst (v := 0) hx hb dX9_layBest_62 (by decide) ?_
                    refine lv_goto (tgt := 87) hx hb dX9_layBest_63 (by decide) ?_
                    cases hj430
                    exact hJ430 _ _ ls hP hD hS (lv_sub hl [1, 2, 3, 4, 0] rfl)
                  · have hj430 := zz_if c462 hj430
                    refine lv_iconst (v := 1) hx hb dX9_layBest_58 (by decide) ?_
                    refine lv_goto (tgt := 87) hx hb dX9_layBest_59 (by decide) ?_
                    cases hj430
                    exact hJ430 _ _ ls hP hD hS (lv_sub hl [1, 2, 3, 4, 0] rfl)
          exact hL419 zz_fuel 0 g272 _ _ ls hit419 hP hD hS (lv_sub hl [1, 2, 3, 0] rfl)
    exact hL272 zz_fuel 55 g14 _ _ ls hit272 hP hD hS (lv_sub hl [1, 2, 0] rfl)
  refine zz_cut (fun V => ∀ (n : Nat) (x12 : Int32) (g13 : (Nat → Int32)) (H : Heap) (locs : List Loc) (ls : Array Slot), zz_it (fun z => fb_X9_layBest_6 z.1 z.2) n (x12, g13) = some g14 → va_P (dC, dI) vwCl [(a_t, .inr (8, [.ref a_t_read, .int t_readMany, .ref a_t_papers, .ref a_t_paperMany, .ref a_t_text, .int t_length, .int t_at, .int t_faultAt, .int t_year, .int x1, .ref a_t_whose, .int t_mendChanges, .ref a_t_plan, .int t_most, .int t_above, .int t_handing, .int t_wants, .ref a_t_wantNight, .ref a_t_wantHouse, .ref a_t_wantWeight, .ref a_t_ahead, .ref a_t_best, .ref a_t_fines, .ref a_t_times, .ref a_t_isKept, .ref a_t_keptPlan, .ref a_t_keptFines, .ref a_t_keptTimes])), (a_t_ahead, .inl (cI, 1824, .inl g13)), (a_t_best, .inl (cI, 56, .inl t_best)), (a_t_paperMany, .inl (cI, 3, .inl t_paperMany)), (a_t_papers, .inl (cI, 180, .inl t_papers)), (a_t_wantHouse, .inl (cI, 12, .inl t_wantHouse)), (a_t_wantNight, .inl (cI, 12, .inl t_wantNight)), (a_t_wantWeight, .inl (cI, 12, .inl t_wantWeight)), (a_t_whose, .inl (cI, 56, .inl g2))] H → va_D A [(a_t, .inr (8, [.ref a_t_read, .int t_readMany, .ref a_t_papers, .ref a_t_paperMany, .ref a_t_text, .int t_length, .int t_at, .int t_faultAt, .int t_year, .int x1, .ref a_t_whose, .int t_mendChanges, .ref a_t_plan, .int t_most, .int t_above, .int t_handing, .int t_wants, .ref a_t_wantNight, .ref a_t_wantHouse, .ref a_t_wantWeight, .ref a_t_ahead, .ref a_t_best, .ref a_t_fines, .ref a_t_times, .ref a_t_isKept, .ref a_t_keptPlan, .ref a_t_keptFines, .ref a_t_keptTimes])), (a_t_ahead, .inl (cI, 1824, .inl g13)), (a_t_best, .inl (cI, 56, .inl t_best)), (a_t_paperMany, .inl (cI, 3, .inl t_paperMany)), (a_t_papers, .inl (cI, 180, .inl t_papers)), (a_t_wantHouse, .inl (cI, 12, .inl t_wantHouse)), (a_t_wantNight, .inl (cI, 12, .inl t_wantNight)), (a_t_wantWeight, .inl (cI, 12, .inl t_wantWeight)), (a_t_whose, .inl (cI, 56, .inl g2))] → va_S A s.heap H locs → lv_has ls 8 [(0, .ref a_t), (1, .int p1), (2, .int x12)] → V H locs (F0 m 6 ls [])) ?_ (fun hL13 => ?_)
  · intro n
    induction n with
    | zero => intro x12 g13 H locs ls hit13; exact (zz_it0 hit13).elim
    | succ n ih13 =>
      intro x12 g13 H locs ls hit13 hP hD hS hl
      obtain ⟨y13, hb13, hy13⟩ := zz_itE hit13
      have hb13 : fb_X9_layBest_6 x12 g13 = some y13 := hb13
      unfold fb_X9_layBest_6 at hb13
      refine lv_iload_n hx hb dX9_layBest_6 rfl (lv_at hl 2 rfl) ?_
      refine lv_bipush (v := 32) hx hb dX9_layBest_7 (by decide) ?_
      refine lv_icmp_ge (tgt := 29) hx hb dX9_layBest_9 (by decide) (fun c463 => ?_) (fun c463 => ?_)
      · have hb13 := zz_if c463 hb13
        obtain rfl := Option.some.inj hb13
        have hy13 := Option.some.inj hy13
        cases hy13
        exact hE13 _ _ ls hP hD hS (lv_sub hl [0, 1] rfl)
      · have hb13 := zz_ifn c463 hb13
        refine lv_aload_n hx hb dX9_layBest_12 rfl (lv_at hl 0 rfl) ?_
        refine va_get (ci := 8) (v := .ref a_t_ahead) (C := RX9) (T := TX9) (N := 28) hx hb hts in_X9_layBest_X9 hown hK hP 0 rfl rfl 20 (by decide) (hts _ lk_X9_layBest_0) (fun _ h9 => h9) rfl dX9_layBest_13 ?_
        refine lv_sipush (v := 1792) hx hb dX9_layBest_16 (by decide) ?_
        refine lv_iload_n hx hb dX9_layBest_19 rfl (lv_at hl 2 rfl) ?_
        refine lv_iadd hx hb dX9_layBest_20 ?_
        refine lv_iconst (v := 0) hx hb dX9_layBest_21 (by decide) ?_
        obtain ⟨hi464, hb13⟩ := zz_chkE hb13
        refine zz_iast hx hb hK hP hD hS 1 0 rfl rfl hi464 dX9_layBest_22 (fun g465 => [(a_t, .inr (8, [.ref a_t_read, .int t_readMany, .ref a_t_papers, .ref a_t_paperMany, .ref a_t_text, .int t_length, .int t_at, .int t_faultAt, .int t_year, .int x1, .ref a_t_whose, .int t_mendChanges, .ref a_t_plan, .int t_most, .int t_above, .int t_handing, .int t_wants, .ref a_t_wantNight, .ref a_t_wantHouse, .ref a_t_wantWeight, .ref a_t_ahead, .ref a_t_best, .ref a_t_fines, .ref a_t_times, .ref a_t_isKept, .ref a_t_keptPlan, .ref a_t_keptFines, .ref a_t_keptTimes])), (a_t_ahead, .inl (cI, 1824, .inl g465)), (a_t_best, .inl (cI, 56, .inl t_best)), (a_t_paperMany, .inl (cI, 3, .inl t_paperMany)), (a_t_papers, .inl (cI, 180, .inl t_papers)), (a_t_wantHouse, .inl (cI, 12, .inl t_wantHouse)), (a_t_wantNight, .inl (cI, 12, .inl t_wantNight)), (a_t_wantWeight, .inl (cI, 12, .inl t_wantWeight)), (a_t_whose, .inl (cI, 56, .inl g2))]) (fun _ => rfl) (fun g465 H locs eg465 hP hD hS => ?_)
        have hb13 := zz_nmE eg465 hb13
        obtain ⟨x466, ex466⟩ : ∃ z : Int32, z = x12 + 1 := ⟨_, rfl⟩
        have hb13 := zz_nmE ex466 hb13
        refine lv_iinc (v := x466) (lv' := [(2, .int x466), (0, .ref a_t), (1, .int p1)]) hx hb dX9_layBest_23 hl (k := 2) rfl (by rw [ex466]; rfl) (by decide) rfl (fun ls hl => ?_)
        refine lv_goto (tgt := 6) hx hb dX9_layBest_26 (by decide) ?_
        obtain rfl := Option.some.inj hb13
        exact ih13 x466 g465 _ _ ls hy13 hP hD hS (lv_sub hl [1, 2, 0] rfl)
  exact hL13 zz_fuel 0 t_ahead _ _ ls hit13 hP hD hS (lv_sub hl [1, 2, 0] rfl)
