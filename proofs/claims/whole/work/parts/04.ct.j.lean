theorem hd_X9_night : yX9_night.cls ≠ "java/lang/invoke/MethodHandle" ∧ yX9_night.cls ≠ "java/lang/invoke/VarHandle" ∧ (parseMethodDescriptor yX9_night.desc).map (fun d => d.parameters.length) = some 2 := by decide +kernel
set_option maxRecDepth 20000 in
theorem in_X9_night_X9 : ∀ w ∈ u_ws RX9 TX9 28, w ∈ wsX9_night := by decide +kernel
set_option maxRecDepth 20000 in
theorem lk_X9_night_0 : Cond.constantLong RX9 132 (3) ∈ wsX9_night := by decide +kernel
set_option maxRecDepth 20000 in
theorem lk_X9_night_1 : Cond.fieldLink RX9 22 "TwoHousesOneChildModel" "whose" "[I" ∈ wsX9_night := by decide +kernel
set_option maxHeartbeats 4000000 in
set_option maxRecDepth 100000 in
theorem ct_X9_night (l : Launch) (dC : Nat → ClassId) (dI : Nat → Nat → Nat) (cI cJ cB cZ : ClassId) (a_t a_t_paperMany a_t_papers a_t_whose a_t_read a_t_text a_t_plan a_t_wantNight a_t_wantHouse a_t_wantWeight a_t_ahead a_t_best a_t_fines a_t_times a_t_isKept a_t_keptPlan a_t_keptFines a_t_keptTimes : Nat) (t_readMany : Int32) (t_length : Int32) (t_at : Int32) (t_faultAt : Int32) (t_year : Int32) (t_wordsNow : Int32) (t_mendChanges : Int32) (t_most : Int32) (t_above : Int32) (t_handing : Int32) (t_wants : Int32) (t_paperMany : (Nat → Int32)) (t_papers : (Nat → Int32)) (t_whose : (Nat → Int32)) (p1 : Int32) (p2 : Int32) (rr : Int32) (o1 : Int32) (o2 : (Nat → Int32)) (h : fn_X9_night t_year t_wordsNow t_paperMany t_papers t_whose p1 p2 = some (rr, o1, o2)) : zz_M l yX9_night wsX9_night ({ frames := 4, cells := 0, slots := 0, locals := 104 }) (dC, dI) (zz_T cI cJ cB cZ) [.ref a_t, .int p1, .int p2] [(a_t, .inr (8, [.ref a_t_read, .int t_readMany, .ref a_t_papers, .ref a_t_paperMany, .ref a_t_text, .int t_length, .int t_at, .int t_faultAt, .int t_year, .int t_wordsNow, .ref a_t_whose, .int t_mendChanges, .ref a_t_plan, .int t_most, .int t_above, .int t_handing, .int t_wants, .ref a_t_wantNight, .ref a_t_wantHouse, .ref a_t_wantWeight, .ref a_t_ahead, .ref a_t_best, .ref a_t_fines, .ref a_t_times, .ref a_t_isKept, .ref a_t_keptPlan, .ref a_t_keptFines, .ref a_t_keptTimes])), (a_t_paperMany, .inl (cI, 3, .inl t_paperMany)), (a_t_papers, .inl (cI, 180, .inl t_papers)), (a_t_whose, .inl (cI, 56, .inl t_whose))] (zz_QI (dC, dI) (zz_T cI cJ cB cZ) (rr, o1, o2) (fun (u : Int32 × (Nat → Int32)) => [(a_t, .inr (8, [.ref a_t_read, .int t_readMany, .ref a_t_papers, .ref a_t_paperMany, .ref a_t_text, .int t_length, .int t_at, .int t_faultAt, .int t_year, .int u.1, .ref a_t_whose, .int t_mendChanges, .ref a_t_plan, .int t_most, .int t_above, .int t_handing, .int t_wants, .ref a_t_wantNight, .ref a_t_wantHouse, .ref a_t_wantWeight, .ref a_t_ahead, .ref a_t_best, .ref a_t_fines, .ref a_t_times, .ref a_t_isKept, .ref a_t_keptPlan, .ref a_t_keptFines, .ref a_t_keptTimes])), (a_t_paperMany, .inl (cI, 3, .inl t_paperMany)), (a_t_papers, .inl (cI, 180, .inl t_papers)), (a_t_whose, .inl (cI, 56, .inl u.2))])) := by
  unfold fn_X9_night at h
  refine zz_of (by decide) rfl (Nat.le_of_ble_eq_true rfl) ?_
  intro p e s m below meth c A ls hx hb hr hml hts hown hlocks hA hS hP hK hD hl
  have hown : s.vm.findClass RX9 = some m.cls := hown
  have hl : lv_has ls 5 [(0, .ref a_t), (1, .int p1), (2, .int p2)] := hl
  refine lv_iload_n hx hb dX9_night_0 rfl (lv_at hl 1 rfl) ?_
  refine lv_i2l (v := p1.toInt64) hx hb dX9_night_1 rfl ?_
  refine lv_lconst (v := 0) hx hb dX9_night_2 (by decide) ?_
  refine lv_ldc2 (v := 3) hx hb hown (hts _ lk_X9_night_0) dX9_night_3 ?_
  obtain ⟨x1, u2, he3, h⟩ := zz_b2E h
  refine zz_PI (As := [.long p1.toInt64, .long 0, .long 3]) (rest := []) ⟨hx, hb, hml, hown, hts⟩ (ct_X9_in l dC dI cI cJ cB cZ p1.toInt64 (0 : Int64) (3 : Int64) x1 u2 he3) gX9_night_X9_in hd_X9_in rfl rfl rfl ⟨Nat.le_of_ble_eq_true rfl, Nat.le_of_ble_eq_true rfl⟩ ⟨Nat.le_of_ble_eq_true rfl, Nat.le_of_ble_eq_true rfl⟩ rfl rfl (Nat.le_of_ble_eq_true rfl) dX9_night_6 hl.1 hP hK hS hA (fun H locs hP hS => ?_)
  refine lv_if_ne (tgt := 15) hx hb dX9_night_9 (by decide) (fun c4 => ?_) (fun c4 => ?_)
  · have h := zz_ifn c4 h
    refine lv_aload_n hx hb dX9_night_15 rfl (lv_at hl 0 rfl) ?_
    obtain ⟨x5, g6, he7, h⟩ := zz_b2E h
    refine zz_VV (q := (RX9, TX9, 28)) (As := []) (rest := []) (wr := []) (wm := [(a_t, .inr (8, [.ref a_t_read, .int t_readMany, .ref a_t_papers, .ref a_t_paperMany, .ref a_t_text, .int t_length, .int t_at, .int t_faultAt, .int t_year, .int x5, .ref a_t_whose, .int t_mendChanges, .ref a_t_plan, .int t_most, .int t_above, .int t_handing, .int t_wants, .ref a_t_wantNight, .ref a_t_wantHouse, .ref a_t_wantWeight, .ref a_t_ahead, .ref a_t_best, .ref a_t_fines, .ref a_t_times, .ref a_t_isKept, .ref a_t_keptPlan, .ref a_t_keptFines, .ref a_t_keptTimes])), (a_t_paperMany, .inl (cI, 3, .inl t_paperMany)), (a_t_papers, .inl (cI, 180, .inl t_papers)), (a_t_whose, .inl (cI, 56, .inl g6))]) ⟨hx, hb, hml, hown, hts⟩ (ct_X9_layWhose l dC dI cI cJ cB cZ a_t a_t_paperMany a_t_papers a_t_whose a_t_read a_t_text a_t_plan a_t_wantNight a_t_wantHouse a_t_wantWeight a_t_ahead a_t_best a_t_fines a_t_times a_t_isKept a_t_keptPlan a_t_keptFines a_t_keptTimes t_readMany t_length t_at t_faultAt t_year t_wordsNow t_mendChanges t_most t_above t_handing t_wants t_paperMany t_papers t_whose x5 g6 he7) gX9_night_X9_layWhose hd_X9_layWhose rfl rfl rfl ⟨Nat.le_of_ble_eq_true rfl, Nat.le_of_ble_eq_true rfl⟩ ⟨Nat.le_of_ble_eq_true rfl, Nat.le_of_ble_eq_true rfl⟩ rfl rfl (Nat.le_of_ble_eq_true rfl) dX9_night_16 hl.1 rfl (ci := 8) rfl (q0 := 0) rfl hP hK hD hS hA [0, 1, 2, 3] [] [0, 1, 2, 3] rfl rfl (by decide) (by decide) (by decide) (by decide) rfl (fun H locs hP hD hS => ?_)
    refine lv_iconst (v := 0) hx hb dX9_night_19 (by decide) ?_
    refine lv_istore_n (lv' := [(3, .int 0), (0, .ref a_t), (1, .int p1), (2, .int p2)]) hx hb dX9_night_20 rfl hl (by decide) rfl (fun ls hl => ?_)
    refine lv_iconst (v := 0) hx hb dX9_night_21 (by decide) ?_
    refine lv_istore (lv' := [(4, .int 0), (3, .int 0), (0, .ref a_t), (1, .int p1), (2, .int p2)]) hx hb dX9_night_22 hl (by decide) rfl (fun ls hl => ?_)
    obtain ⟨z23, hit23, hz23⟩ := zz_mtE h
    refine zz_cut (fun V => ∀  (H : Heap) (locs : List Loc) (ls : Array Slot), fk_X9_night_24 x5 g6  = some (rr, o1, o2) → va_P (dC, dI) vwCl [(a_t, .inr (8, [.ref a_t_read, .int t_readMany, .ref a_t_papers, .ref a_t_paperMany, .ref a_t_text, .int t_length, .int t_at, .int t_faultAt, .int t_year, .int x5, .ref a_t_whose, .int t_mendChanges, .ref a_t_plan, .int t_most, .int t_above, .int t_handing, .int t_wants, .ref a_t_wantNight, .ref a_t_wantHouse, .ref a_t_wantWeight, .ref a_t_ahead, .ref a_t_best, .ref a_t_fines, .ref a_t_times, .ref a_t_isKept, .ref a_t_keptPlan, .ref a_t_keptFines, .ref a_t_keptTimes])), (a_t_paperMany, .inl (cI, 3, .inl t_paperMany)), (a_t_papers, .inl (cI, 180, .inl t_papers)), (a_t_whose, .inl (cI, 56, .inl g6))] H → va_D A [(a_t, .inr (8, [.ref a_t_read, .int t_readMany, .ref a_t_papers, .ref a_t_paperMany, .ref a_t_text, .int t_length, .int t_at, .int t_faultAt, .int t_year, .int x5, .ref a_t_whose, .int t_mendChanges, .ref a_t_plan, .int t_most, .int t_above, .int t_handing, .int t_wants, .ref a_t_wantNight, .ref a_t_wantHouse, .ref a_t_wantWeight, .ref a_t_ahead, .ref a_t_best, .ref a_t_fines, .ref a_t_times, .ref a_t_isKept, .ref a_t_keptPlan, .ref a_t_keptFines, .ref a_t_keptTimes])), (a_t_paperMany, .inl (cI, 3, .inl t_paperMany)), (a_t_papers, .inl (cI, 180, .inl t_papers)), (a_t_whose, .inl (cI, 56, .inl g6))] → va_S A s.heap H locs → lv_has ls 5 [] → V H locs (F0 m 59 ls [])) ?_ (fun hE23 => ?_)
    · intro  H locs ls h hP hD hS hl
      unfold fk_X9_night_24 at h
      refine lv_bipush (v := (-9)) hx hb dX9_night_59 (by decide) ?_
      exact zz_iret (x5, g6) hx hb hr hlocks dX9_night_61 (Option.some.inj h) hP hK hD hS
    refine zz_cut (fun V => ∀ (n : Nat) (x22 : Int32) (x23 : Int32) (H : Heap) (locs : List Loc) (ls : Array Slot), zz_it (fun z => fb_X9_night_24 p1 p2 x5 g6 z.1 z.2) n (x22, x23) = some z23 → va_P (dC, dI) vwCl [(a_t, .inr (8, [.ref a_t_read, .int t_readMany, .ref a_t_papers, .ref a_t_paperMany, .ref a_t_text, .int t_length, .int t_at, .int t_faultAt, .int t_year, .int x5, .ref a_t_whose, .int t_mendChanges, .ref a_t_plan, .int t_most, .int t_above, .int t_handing, .int t_wants, .ref a_t_wantNight, .ref a_t_wantHouse, .ref a_t_wantWeight, .ref a_t_ahead, .ref a_t_best, .ref a_t_fines, .ref a_t_times, .ref a_t_isKept, .ref a_t_keptPlan, .ref a_t_keptFines, .ref a_t_keptTimes])), (a_t_paperMany, .inl (cI, 3, .inl t_paperMany)), (a_t_papers, .inl (cI, 180, .inl t_papers)), (a_t_whose, .inl (cI, 56, .inl g6))] H → va_D A [(a_t, .inr (8, [.ref a_t_read, .int t_readMany, .ref a_t_papers, .ref a_t_paperMany, .ref a_t_text, .int t_length, .int t_at, .int t_faultAt, .int t_year, .int x5, .ref a_t_whose, .int t_mendChanges, .ref a_t_plan, .int t_most, .int t_above, .int t_handing, .int t_wants, .ref a_t_wantNight, .ref a_t_wantHouse, .ref a_t_wantWeight, .ref a_t_ahead, .ref a_t_best, .ref a_t_fines, .ref a_t_times, .ref a_t_isKept, .ref a_t_keptPlan, .ref a_t_keptFines, .ref a_t_keptTimes])), (a_t_paperMany, .inl (cI, 3, .inl t_paperMany)), (a_t_papers, .inl (cI, 180, .inl t_papers)), (a_t_whose, .inl (cI, 56, .inl g6))] → va_S A s.heap H locs → lv_has ls 5 [(0, .ref a_t), (1, .int p1), (2, .int p2), (3, .int x22), (4, .int x23)] → V H locs (F0 m 24 ls [])) ?_ (fun hL23 => ?_)
    · intro n
      induction n with
      | zero => intro x22 x23 H locs ls hit23; exact (zz_it0 hit23).elim
      | succ n ih23 =>
        intro x22 x23 H locs ls hit23 hP hD hS hl
        obtain ⟨y23, hb23, hy23⟩ := zz_itE hit23
        have hb23 : fb_X9_night_24 p1 p2 x5 g6 x22 x23 = some y23 := hb23
        unfold fb_X9_night_24 at hb23
        refine lv_iload hx hb dX9_night_24 (lv_at hl 4 rfl) ?_
        refine lv_bipush (v := 56) hx hb dX9_night_26 (by decide) ?_
        refine lv_icmp_ge (tgt := 59) hx hb dX9_night_28 (by decide) (fun c24 => ?_) (fun c24 => ?_)
        · have hb23 := zz_if c24 hb23
          obtain rfl := Option.some.inj hb23
          obtain rfl := Option.some.inj hy23
          exact hE23  _ _ ls hz23 hP hD hS (lv_sub hl [] rfl)
        · have hb23 := zz_ifn c24 hb23
          refine lv_aload_n hx hb dX9_night_31 rfl (lv_at hl 0 rfl) ?_
          refine va_get (ci := 8) (v := .ref a_t_whose) (C := RX9) (T := TX9) (N := 28) hx hb hts in_X9_night_X9 hown hK hP 0 rfl rfl 10 (by decide) (hts _ lk_X9_night_1) (fun _ h9 => h9) rfl dX9_night_32 ?_
          refine lv_iload hx hb dX9_night_35 (lv_at hl 4 rfl) ?_
          obtain ⟨hi25, hb23⟩ := zz_chkE hb23
          refine va_iald hx hb hK hP 3 0 rfl rfl hi25 dX9_night_37 ?_
          refine lv_iload_n hx hb dX9_night_38 rfl (lv_at hl 1 rfl) ?_
          refine lv_icmp_ne (tgt := 53) hx hb dX9_night_39 (by decide) (fun c26 => ?_) (fun c26 => ?_)
          · have hb23 := zz_ifn c26 hb23
            obtain ⟨x27, ex27⟩ : ∃ z : Int32, z = x23 + 1 := ⟨_, rfl⟩
            have hb23 := zz_nmE ex27 hb23
            refine lv_iinc (v := x27) (lv' := [(4, .int x27), (0, .ref a_t), (1, .int p1), (2, .int p2), (3, .int x22)]) hx hb dX9_night_53 hl (k := 4) rfl (by rw [ex27]; rfl) (by decide) rfl (fun ls hl => ?_)
            refine lv_goto (tgt := 24) hx hb dX9_night_56 (by decide) ?_
            obtain rfl := Option.some.inj hb23
            exact ih23 x22 x27 _ _ ls hy23 hP hD hS (lv_sub hl [1, 2, 3, 4, 0] rfl)
          · have hb23 := zz_if c26 hb23
            refine lv_iload_n hx hb dX9_night_42 rfl (lv_at hl 3 rfl) ?_
            refine lv_iload_n hx hb dX9_night_43 rfl (lv_at hl 2 rfl) ?_
            refine lv_icmp_ne (tgt := 50) hx hb dX9_night_44 (by decide) (fun c28 => ?_) (fun c28 => ?_)
            · have hb23 := zz_ifn c28 hb23
              obtain ⟨x29, ex29⟩ : ∃ z : Int32, z = x22 + 1 := ⟨_, rfl⟩
              have hb23 := zz_nmE ex29 hb23
              refine lv_iinc (v := x29) (lv' := [(3, .int x29), (0, .ref a_t), (1, .int p1), (2, .int p2), (4, .int x23)]) hx hb dX9_night_50 hl (k := 3) rfl (by rw [ex29]; rfl) (by decide) rfl (fun ls hl => ?_)
              obtain ⟨x30, ex30⟩ : ∃ z : Int32, z = x23 + 1 := ⟨_, rfl⟩
              have hb23 := zz_nmE ex30 hb23
              refine lv_iinc (v := x30) (lv' := [(4, .int x30), (3, .int x29), (0, .ref a_t), (1, .int p1), (2, .int p2)]) hx hb dX9_night_53 hl (k := 4) rfl (by rw [ex30]; rfl) (by decide) rfl (fun ls hl => ?_)
              refine lv_goto (tgt := 24) hx hb dX9_night_56 (by decide) ?_
              obtain rfl := Option.some.inj hb23
              exact ih23 x29 x30 _ _ ls hy23 hP hD hS (lv_sub hl [2, 3, 4, 1, 0] rfl)
            · have hb23 := zz_if c28 hb23
              refine lv_iload hx hb dX9_night_47 (lv_at hl 4 rfl) ?_
              obtain rfl := Option.some.inj hb23
              obtain rfl := Option.some.inj hy23
              exact zz_iret (x5, g6) hx hb hr hlocks dX9_night_49 (Option.some.inj hz23) hP hK hD hS
    exact hL23 zz_fuel 0 0 _ _ ls hit23 hP hD hS (lv_sub hl [2, 3, 4, 1, 0] rfl)
  · have h := zz_if c4 h
    refine lv_bipush (v := (-2)) hx hb dX9_night_12 (by decide) ?_
    exact zz_iret (t_wordsNow, t_whose) hx hb hr hlocks dX9_night_14 (Option.some.inj h) hP hK hD hS
theorem hd_X9_ones : yX9_ones.cls ≠ "java/lang/invoke/MethodHandle" ∧ yX9_ones.cls ≠ "java/lang/invoke/VarHandle" ∧ (parseMethodDescriptor yX9_ones.desc).map (fun d => d.parameters.length) = some 1 := by decide +kernel
set_option maxHeartbeats 4000000 in
set_option maxRecDepth 100000 in
theorem ct_X9_ones (l : Launch) (dC : Nat → ClassId) (dI : Nat → Nat → Nat) (cI cJ cB cZ : ClassId) (p0 : Int32) (rr : Int32) (u0 : Unit) (h : fn_X9_ones p0 = some (rr, u0)) : zz_M l yX9_ones wsX9_ones ({ frames := 0, cells := 0, slots := 0, locals := 0 }) (dC, dI) (zz_T cI cJ cB cZ) [.int p0] [] (zz_QI (dC, dI) (zz_T cI cJ cB cZ) (rr, u0) (fun (u : Unit) => [])) := by
  unfold fn_X9_ones at h
  refine zz_of (by decide) rfl (Nat.le_of_ble_eq_true rfl) ?_
  intro p e s m below meth c A ls hx hb hr hml hts hown hlocks hA hS hP hK hD hl
  have hown : s.vm.findClass RX9 = some m.cls := hown
  have hl : lv_has ls 3 [(0, .int p0)] := hl
  refine lv_iconst (v := 0) hx hb dX9_ones_0 (by decide) ?_
  refine lv_istore_n (lv' := [(1, .int 0), (0, .int p0)]) hx hb dX9_ones_1 rfl hl (by decide) rfl (fun ls hl => ?_)
  refine lv_iconst (v := 0) hx hb dX9_ones_2 (by decide) ?_
  refine lv_istore_n (lv' := [(2, .int 0), (1, .int 0), (0, .int p0)]) hx hb dX9_ones_3 rfl hl (by decide) rfl (fun ls hl => ?_)
  obtain ⟨x9, hit8, h⟩ := zz_b1E h
  refine zz_cut (fun V => ∀ (H : Heap) (locs : List Loc) (ls : Array Slot), va_P (dC, dI) vwCl [] H → va_D A [] → va_S A s.heap H locs → lv_has ls 3 [(1, .int x9)] → V H locs (F0 m 24 ls [])) ?_ (fun hE8 => ?_)
  · intro H locs ls hP hD hS hl
    refine lv_iload_n hx hb dX9_ones_24 rfl (lv_at hl 0 rfl) ?_
    exact zz_iret () hx hb hr hlocks dX9_ones_25 (Option.some.inj h) hP hK hD hS
  refine zz_cut (fun V => ∀ (n : Nat) (x7 : Int32) (x8 : Int32) (H : Heap) (locs : List Loc) (ls : Array Slot), zz_it (fun z => fb_X9_ones_4 p0 z.1 z.2) n (x7, x8) = some x9 → va_P (dC, dI) vwCl [] H → va_D A [] → va_S A s.heap H locs → lv_has ls 3 [(0, .int p0), (1, .int x7), (2, .int x8)] → V H locs (F0 m 4 ls [])) ?_ (fun hL8 => ?_)
  · intro n
    induction n with
    | zero => intro x7 x8 H locs ls hit8; exact (zz_it0 hit8).elim
    | succ n ih8 =>
      intro x7 x8 H locs ls hit8 hP hD hS hl
      obtain ⟨y8, hb8, hy8⟩ := zz_itE hit8
      have hb8 : fb_X9_ones_4 p0 x7 x8 = some y8 := hb8
      unfold fb_X9_ones_4 at hb8
      refine lv_iload_n hx hb dX9_ones_4 rfl (lv_at hl 2 rfl) ?_
      refine lv_bipush (v := 10) hx hb dX9_ones_5 (by decide) ?_
      refine lv_icmp_ge (tgt := 24) hx hb dX9_ones_7 (by decide) (fun c10 => ?_) (fun c10 => ?_)
      · have hb8 := zz_if c10 hb8
        obtain rfl := Option.some.inj hb8
        have hy8 := Option.some.inj hy8
        cases hy8
        exact hE8 _ _ ls hP hD hS (lv_sub hl [1] rfl)
      · have hb8 := zz_ifn c10 hb8
        refine lv_iload_n hx hb dX9_ones_10 rfl (lv_at hl 1 rfl) ?_
        refine lv_iload_n hx hb dX9_ones_11 rfl (lv_at hl 0 rfl) ?_
        refine lv_iload_n hx hb dX9_ones_12 rfl (lv_at hl 2 rfl) ?_
        refine lv_ishr hx hb dX9_ones_13 ?_
        refine lv_iconst (v := 1) hx hb dX9_ones_14 (by decide) ?_
        refine lv_iand hx hb dX9_ones_15 ?_
        refine lv_iadd hx hb dX9_ones_16 ?_
        refine lv_topi (fun x11 ex11 => ?_)
        have hb8 := zz_nmE ex11 hb8
        refine lv_istore_n (lv' := [(1, .int x11), (0, .int p0), (2, .int x8)]) hx hb dX9_ones_17 rfl hl (by decide) rfl (fun ls hl => ?_)
        obtain ⟨x12, ex12⟩ : ∃ z : Int32, z = x8 + 1 := ⟨_, rfl⟩
        have hb8 := zz_nmE ex12 hb8
        refine lv_iinc (v := x12) (lv' := [(2, .int x12), (1, .int x11), (0, .int p0)]) hx hb dX9_ones_18 hl (k := 2) rfl (by rw [ex12]; rfl) (by decide) rfl (fun ls hl => ?_)
        refine lv_goto (tgt := 4) hx hb dX9_ones_21 (by decide) ?_
        obtain rfl := Option.some.inj hb8
        exact ih8 x11 x12 _ _ ls hy8 hP hD hS (lv_sub hl [2, 1, 0] rfl)
  exact hL8 zz_fuel 0 0 _ _ ls hit8 hP hD hS (lv_sub hl [2, 1, 0] rfl)
theorem hd_X9_layMend : yX9_layMend.cls ≠ "java/lang/invoke/MethodHandle" ∧ yX9_layMend.cls ≠ "java/lang/invoke/VarHandle" ∧ (parseMethodDescriptor yX9_layMend.desc).map (fun d => d.parameters.length) = some 0 := by decide +kernel
set_option maxRecDepth 20000 in
theorem in_X9_layMend_X9 : ∀ w ∈ u_ws RX9 TX9 28, w ∈ wsX9_layMend := by decide +kernel
set_option maxRecDepth 20000 in
theorem lk_X9_layMend_0 : Cond.fieldLink RX9 137 "TwoHousesOneChildModel" "mendChanges" "I" ∈ wsX9_layMend := by decide +kernel
set_option maxRecDepth 20000 in
theorem lk_X9_layMend_1 : Cond.fieldLink RX9 16 "TwoHousesOneChildModel" "paperMany" "[I" ∈ wsX9_layMend := by decide +kernel
set_option maxRecDepth 20000 in
theorem lk_X9_layMend_2 : Cond.fieldLink RX9 72 "TwoHousesOneChildModel" "year" "I" ∈ wsX9_layMend := by decide +kernel
set_option maxRecDepth 20000 in
theorem lk_X9_layMend_3 : Cond.fieldLink RX9 22 "TwoHousesOneChildModel" "whose" "[I" ∈ wsX9_layMend := by decide +kernel
set_option maxHeartbeats 4000000 in
set_option maxRecDepth 100000 in
theorem ct_X9_layMend (l : Launch) (dC : Nat → ClassId) (dI : Nat → Nat → Nat) (cI cJ cB cZ : ClassId) (a_t a_t_paperMany a_t_papers a_t_whose a_t_read a_t_text a_t_plan a_t_wantNight a_t_wantHouse a_t_wantWeight a_t_ahead a_t_best a_t_fines a_t_times a_t_isKept a_t_keptPlan a_t_keptFines a_t_keptTimes : Nat) (t_readMany : Int32) (t_length : Int32) (t_at : Int32) (t_faultAt : Int32) (t_year : Int32) (t_wordsNow : Int32) (t_mendChanges : Int32) (t_most : Int32) (t_above : Int32) (t_handing : Int32) (t_wants : Int32) (t_paperMany : (Nat → Int32)) (t_papers : (Nat → Int32)) (t_whose : (Nat → Int32)) (rr : Int32) (o1 : Int32) (o2 : Int32) (o3 : (Nat → Int32)) (h : fn_X9_layMend t_year t_wordsNow t_paperMany t_papers t_whose = some (rr, o1, o2, o3)) : zz_M l yX9_layMend wsX9_layMend ({ frames := 4, cells := 0, slots := 0, locals := 104 }) (dC, dI) (zz_T cI cJ cB cZ) [.ref a_t] [(a_t, .inr (8, [.ref a_t_read, .int t_readMany, .ref a_t_papers, .ref a_t_paperMany, .ref a_t_text, .int t_length, .int t_at, .int t_faultAt, .int t_year, .int t_wordsNow, .ref a_t_whose, .int t_mendChanges, .ref a_t_plan, .int t_most, .int t_above, .int t_handing, .int t_wants, .ref a_t_wantNight, .ref a_t_wantHouse, .ref a_t_wantWeight, .ref a_t_ahead, .ref a_t_best, .ref a_t_fines, .ref a_t_times, .ref a_t_isKept, .ref a_t_keptPlan, .ref a_t_keptFines, .ref a_t_keptTimes])), (a_t_paperMany, .inl (cI, 3, .inl t_paperMany)), (a_t_papers, .inl (cI, 180, .inl t_papers)), (a_t_whose, .inl (cI, 56, .inl t_whose))] (zz_QI (dC, dI) (zz_T cI cJ cB cZ) (rr, o1, o2, o3) (fun (u : Int32 × Int32 × (Nat → Int32)) => [(a_t, .inr (8, [.ref a_t_read, .int t_readMany, .ref a_t_papers, .ref a_t_paperMany, .ref a_t_text, .int t_length, .int t_at, .int t_faultAt, .int t_year, .int u.1, .ref a_t_whose, .int u.2.1, .ref a_t_plan, .int t_most, .int t_above, .int t_handing, .int t_wants, .ref a_t_wantNight, .ref a_t_wantHouse, .ref a_t_wantWeight, .ref a_t_ahead, .ref a_t_best, .ref a_t_fines, .ref a_t_times, .ref a_t_isKept, .ref a_t_keptPlan, .ref a_t_keptFines, .ref a_t_keptTimes])), (a_t_paperMany, .inl (cI, 3, .inl t_paperMany)), (a_t_papers, .inl (cI, 180, .inl t_papers)), (a_t_whose, .inl (cI, 56, .inl u.2.2))])) := by
  unfold fn_X9_layMend at h
  refine zz_of (by decide) rfl (Nat.le_of_ble_eq_true rfl) ?_
  intro p e s m below meth c A ls hx hb hr hml hts hown hlocks hA hS hP hK hD hl
  have hown : s.vm.findClass RX9 = some m.cls := hown
  have hl : lv_has ls 8 [(0, .ref a_t)] := hl
  refine lv_aload_n hx hb dX9_layMend_0 rfl (lv_at hl 0 rfl) ?_
  obtain ⟨x1, g2, he3, h⟩ := zz_b2E h
  refine zz_VV (q := (RX9, TX9, 28)) (As := []) (rest := []) (wr := []) (wm := [(a_t, .inr (8, [.ref a_t_read, .int t_readMany, .ref a_t_papers, .ref a_t_paperMany, .ref a_t_text, .int t_length, .int t_at, .int t_faultAt, .int t_year, .int x1, .ref a_t_whose, .int t_mendChanges, .ref a_t_plan, .int t_most, .int t_above, .int t_handing, .int t_wants, .ref a_t_wantNight, .ref a_t_wantHouse, .ref a_t_wantWeight, .ref a_t_ahead, .ref a_t_best, .ref a_t_fines, .ref a_t_times, .ref a_t_isKept, .ref a_t_keptPlan, .ref a_t_keptFines, .ref a_t_keptTimes])), (a_t_paperMany, .inl (cI, 3, .inl t_paperMany)), (a_t_papers, .inl (cI, 180, .inl t_papers)), (a_t_whose, .inl (cI, 56, .inl g2))]) ⟨hx, hb, hml, hown, hts⟩ (ct_X9_layWhose l dC dI cI cJ cB cZ a_t a_t_paperMany a_t_papers a_t_whose a_t_read a_t_text a_t_plan a_t_wantNight a_t_wantHouse a_t_wantWeight a_t_ahead a_t_best a_t_fines a_t_times a_t_isKept a_t_keptPlan a_t_keptFines a_t_keptTimes t_readMany t_length t_at t_faultAt t_year t_wordsNow t_mendChanges t_most t_above t_handing t_wants t_paperMany t_papers t_whose x1 g2 he3) gX9_layMend_X9_layWhose hd_X9_layWhose rfl rfl rfl ⟨Nat.le_of_ble_eq_true rfl, Nat.le_of_ble_eq_true rfl⟩ ⟨Nat.le_of_ble_eq_true rfl, Nat.le_of_ble_eq_true rfl⟩ rfl rfl (Nat.le_of_ble_eq_true rfl) dX9_layMend_1 hl.1 rfl (ci := 8) rfl (q0 := 0) rfl hP hK hD hS hA [0, 1, 2, 3] [] [0, 1, 2, 3] rfl rfl (by decide) (by decide) (by decide) (by decide) rfl (fun H locs hP hD hS => ?_)
  refine lv_iconst (v := 0) hx hb dX9_layMend_4 (by decide) ?_
  refine lv_istore_n (lv' := [(1, .int 0), (0, .ref a_t)]) hx hb dX9_layMend_5 rfl hl (by decide) rfl (fun ls hl => ?_)
  refine lv_bipush (v := 11) hx hb dX9_layMend_6 (by decide) ?_
  refine lv_istore_n (lv' := [(2, .int 11), (1, .int 0), (0, .ref a_t)]) hx hb dX9_layMend_8 rfl hl (by decide) rfl (fun ls hl => ?_)
  refine lv_aload_n hx hb dX9_layMend_9 rfl (lv_at hl 2 rfl) ?_
  refine lv_iconst (v := 0) hx hb dX9_layMend_10 (by decide) ?_
  refine va_put (ci := 8) (v := .int 0) (ty := .int) (C := RX9) (T := TX9) (N := 28) hx hb hts in_X9_layMend_X9 tyX9 tyX9_ok nmX9 hown hK hP hD hS 0 rfl rfl 11 (by decide) (hts _ lk_X9_layMend_0) (fun _ h9 => h9) rfl (by decide +kernel) rfl rfl (Nat.le_of_ble_eq_true rfl) dX9_layMend_11 (fun H locs hP hD hS => ?_)
  have hP : va_P (dC, dI) vwCl [(a_t, .inr (8, [.ref a_t_read, .int t_readMany, .ref a_t_papers, .ref a_t_paperMany, .ref a_t_text, .int t_length, .int t_at, .int t_faultAt, .int t_year, .int x1, .ref a_t_whose, .int 0, .ref a_t_plan, .int t_most, .int t_above, .int t_handing, .int t_wants, .ref a_t_wantNight, .ref a_t_wantHouse, .ref a_t_wantWeight, .ref a_t_ahead, .ref a_t_best, .ref a_t_fines, .ref a_t_times, .ref a_t_isKept, .ref a_t_keptPlan, .ref a_t_keptFines, .ref a_t_keptTimes])), (a_t_paperMany, .inl (cI, 3, .inl t_paperMany)), (a_t_papers, .inl (cI, 180, .inl t_papers)), (a_t_whose, .inl (cI, 56, .inl g2))] H := hP
  have hD : va_D A [(a_t, .inr (8, [.ref a_t_read, .int t_readMany, .ref a_t_papers, .ref a_t_paperMany, .ref a_t_text, .int t_length, .int t_at, .int t_faultAt, .int t_year, .int x1, .ref a_t_whose, .int 0, .ref a_t_plan, .int t_most, .int t_above, .int t_handing, .int t_wants, .ref a_t_wantNight, .ref a_t_wantHouse, .ref a_t_wantWeight, .ref a_t_ahead, .ref a_t_best, .ref a_t_fines, .ref a_t_times, .ref a_t_isKept, .ref a_t_keptPlan, .ref a_t_keptFines, .ref a_t_keptTimes])), (a_t_paperMany, .inl (cI, 3, .inl t_paperMany)), (a_t_papers, .inl (cI, 180, .inl t_papers)), (a_t_whose, .inl (cI, 56, .inl g2))] := hD
  refine lv_iconst (v := 0) hx hb dX9_layMend_14 (by decide) ?_
  refine lv_istore_n (lv' := [(3, .int 0), (2, .int 11), (1, .int 0), (0, .ref a_t)]) hx hb dX9_layMend_15 rfl hl (by decide) rfl (fun ls hl => ?_)
  obtain ⟨x346, x347, x348, hit345, h⟩ := zz_b3E h
  refine zz_cut (fun V => ∀ (H : Heap) (locs : List Loc) (ls : Array Slot), va_P (dC, dI) vwCl [(a_t, .inr (8, [.ref a_t_read, .int t_readMany, .ref a_t_papers, .ref a_t_paperMany, .ref a_t_text, .int t_length, .int t_at, .int t_faultAt, .int t_year, .int x347, .ref a_t_whose, .int x348, .ref a_t_plan, .int t_most, .int t_above, .int t_handing, .int t_wants, .ref a_t_wantNight, .ref a_t_wantHouse, .ref a_t_wantWeight, .ref a_t_ahead, .ref a_t_best, .ref a_t_fines, .ref a_t_times, .ref a_t_isKept, .ref a_t_keptPlan, .ref a_t_keptFines, .ref a_t_keptTimes])), (a_t_paperMany, .inl (cI, 3, .inl t_paperMany)), (a_t_papers, .inl (cI, 180, .inl t_papers)), (a_t_whose, .inl (cI, 56, .inl g2))] H → va_D A [(a_t, .inr (8, [.ref a_t_read, .int t_readMany, .ref a_t_papers, .ref a_t_paperMany, .ref a_t_text, .int t_length, .int t_at, .int t_faultAt, .int t_year, .int x347, .ref a_t_whose, .int x348, .ref a_t_plan, .int t_most, .int t_above, .int t_handing, .int t_wants, .ref a_t_wantNight, .ref a_t_wantHouse, .ref a_t_wantWeight, .ref a_t_ahead, .ref a_t_best, .ref a_t_fines, .ref a_t_times, .ref a_t_isKept, .ref a_t_keptPlan, .ref a_t_keptFines, .ref a_t_keptTimes])), (a_t_paperMany, .inl (cI, 3, .inl t_paperMany)), (a_t_papers, .inl (cI, 180, .inl t_papers)), (a_t_whose, .inl (cI, 56, .inl g2))] → va_S A s.heap H locs → lv_has ls 8 [(1, .int x346)] → V H locs (F0 m 178 ls [])) ?_ (fun hE345 => ?_)
  · intro H locs ls hP hD hS hl
    refine lv_iload_n hx hb dX9_layMend_178 rfl (lv_at hl 0 rfl) ?_
    exact zz_iret (x347, x348, g2) hx hb hr hlocks dX9_layMend_179 (Option.some.inj h) hP hK hD hS
  refine zz_cut (fun V => ∀ (n : Nat) (x341 : Int32) (x342 : Int32) (x343 : Int32) (x344 : Int32) (x345 : Int32) (H : Heap) (locs : List Loc) (ls : Array Slot), zz_it (fun z => fb_X9_layMend_16 t_year t_paperMany t_papers g2 z.1 z.2.1 z.2.2.1 z.2.2.2.1 z.2.2.2.2) n (x341, x342, x343, x344, x345) = some (x346, x347, x348) → va_P (dC, dI) vwCl [(a_t, .inr (8, [.ref a_t_read, .int t_readMany, .ref a_t_papers, .ref a_t_paperMany, .ref a_t_text, .int t_length, .int t_at, .int t_faultAt, .int t_year, .int x344, .ref a_t_whose, .int x345, .ref a_t_plan, .int t_most, .int t_above, .int t_handing, .int t_wants, .ref a_t_wantNight, .ref a_t_wantHouse, .ref a_t_wantWeight, .ref a_t_ahead, .ref a_t_best, .ref a_t_fines, .ref a_t_times, .ref a_t_isKept, .ref a_t_keptPlan, .ref a_t_keptFines, .ref a_t_keptTimes])), (a_t_paperMany, .inl (cI, 3, .inl t_paperMany)), (a_t_papers, .inl (cI, 180, .inl t_papers)), (a_t_whose, .inl (cI, 56, .inl g2))] H → va_D A [(a_t, .inr (8, [.ref a_t_read, .int t_readMany, .ref a_t_papers, .ref a_t_paperMany, .ref a_t_text, .int t_length, .int t_at, .int t_faultAt, .int t_year, .int x344, .ref a_t_whose, .int x345, .ref a_t_plan, .int t_most, .int t_above, .int t_handing, .int t_wants, .ref a_t_wantNight, .ref a_t_wantHouse, .ref a_t_wantWeight, .ref a_t_ahead, .ref a_t_best, .ref a_t_fines, .ref a_t_times, .ref a_t_isKept, .ref a_t_keptPlan, .ref a_t_keptFines, .ref a_t_keptTimes])), (a_t_paperMany, .inl (cI, 3, .inl t_paperMany)), (a_t_papers, .inl (cI, 180, .inl t_papers)), (a_t_whose, .inl (cI, 56, .inl g2))] → va_S A s.heap H locs → lv_has ls 8 [(0, .ref a_t), (1, .int x341), (2, .int x342), (3, .int x343)] → V H locs (F0 m 16 ls [])) ?_ (fun hL345 => ?_)
  · intro n
    induction n with
    | zero => intro x341 x342 x343 x344 x345 H locs ls hit345; exact (zz_it0 hit345).elim
    | succ n ih345 =>
      intro x341 x342 x343 x344 x345 H locs ls hit345 hP hD hS hl
      obtain ⟨y345, hb345, hy345⟩ := zz_itE hit345
      have hb345 : fb_X9_layMend_16 t_year t_paperMany t_papers g2 x341 x342 x343 x344 x345 = some y345 := hb345
      unfold fb_X9_layMend_16 at hb345
      refine lv_iload_n hx hb dX9_layMend_16 rfl (lv_at hl 3 rfl) ?_
      refine lv_iconst (v := 1) hx hb dX9_layMend_17 (by decide) ?_
      refine lv_aload_n hx hb dX9_layMend_18 rfl (lv_at hl 0 rfl) ?_
      refine va_get (ci := 8) (v := .ref a_t_paperMany) (C := RX9) (T := TX9) (N := 28) hx hb hts in_X9_layMend_X9 hown hK hP 0 rfl rfl 3 (by decide) (hts _ lk_X9_layMend_1) (fun _ h9 => h9) rfl dX9_layMend_19 ?_
      refine lv_iconst (v := 0) hx hb dX9_layMend_22 (by decide) ?_
      obtain ⟨hi349, hb345⟩ := zz_chkE hb345
      refine va_iald hx hb hK hP 1 0 rfl rfl hi349 dX9_layMend_23 ?_
      refine lv_ishl hx hb dX9_layMend_24 ?_
      refine lv_icmp_ge (tgt := 178) hx hb dX9_layMend_25 (by decide) (fun c350 => ?_) (fun c350 => ?_)
      · have hb345 := zz_if c350 hb345
        obtain rfl := Option.some.inj hb345
        have hy345 := Option.some.inj hy345
        cases hy345
        exact hE345 _ _ ls hP hD hS (lv_sub hl [1] rfl)
      · have hb345 := zz_ifn c350 hb345
        refine lv_iload_n hx hb dX9_layMend_28 rfl (lv_at hl 3 rfl) ?_
        obtain ⟨x351, u352, he353, hb345⟩ := zz_b2E hb345
        refine zz_PI (As := [.int x343]) (rest := []) ⟨hx, hb, hml, hown, hts⟩ (ct_X9_ones l dC dI cI cJ cB cZ x343 x351 u352 he353) gX9_layMend_X9_ones hd_X9_ones rfl rfl rfl ⟨Nat.le_of_ble_eq_true rfl, Nat.le_of_ble_eq_true rfl⟩ ⟨Nat.le_of_ble_eq_true rfl, Nat.le_of_ble_eq_true rfl⟩ rfl rfl (Nat.le_of_ble_eq_true rfl) dX9_layMend_29 hl.1 hP hK hS hA (fun H locs hP hS => ?_)
        refine lv_iload_n hx hb dX9_layMend_32 rfl (lv_at hl 2 rfl) ?_
        refine lv_icmp_gt (tgt := 172) hx hb dX9_layMend_33 (by decide) (fun c354 => ?_) (fun c354 => ?_)
        · have hb345 := zz_if c354 hb345
          obtain ⟨x355, ex355⟩ : ∃ z : Int32, z = x343 + 1 := ⟨_, rfl⟩
          have hb345 := zz_nmE ex355 hb345
          refine lv_iinc (v := x355) (lv' := [(3, .int x355), (0, .ref a_t), (1, .int x341), (2, .int x342)]) hx hb dX9_layMend_172 hl (k := 3) rfl (by rw [ex355]; rfl) (by decide) rfl (fun ls hl => ?_)
          refine lv_goto (tgt := 16) hx hb dX9_layMend_175 (by decide) ?_
          obtain rfl := Option.some.inj hb345
          exact ih345 x341 x342 x355 x344 x345 _ _ ls hy345 hP hD hS (lv_sub hl [1, 2, 3, 0] rfl)
        · have hb345 := zz_ifn c354 hb345
          refine lv_iconst (v := 0) hx hb dX9_layMend_36 (by decide) ?_
          refine lv_istore (lv' := [(4, .int 0), (0, .ref a_t), (1, .int x341), (2, .int x342), (3, .int x343)]) hx hb dX9_layMend_37 hl (by decide) rfl (fun ls hl => ?_)
          refine lv_iconst (v := 0) hx hb dX9_layMend_39 (by decide) ?_
          refine lv_istore (lv' := [(5, .int 0), (4, .int 0), (0, .ref a_t), (1, .int x341), (2, .int x342), (3, .int x343)]) hx hb dX9_layMend_40 hl (by decide) rfl (fun ls hl => ?_)
          refine lv_iconst (v := 0) hx hb dX9_layMend_42 (by decide) ?_
          refine lv_istore (lv' := [(6, .int 0), (5, .int 0), (4, .int 0), (0, .ref a_t), (1, .int x341), (2, .int x342), (3, .int x343)]) hx hb dX9_layMend_43 hl (by decide) rfl (fun ls hl => ?_)
          obtain ⟨x414, x415, x416, hit413, hb345⟩ := zz_b3E hb345
          refine zz_cut (fun V => ∀ (H : Heap) (locs : List Loc) (ls : Array Slot), va_P (dC, dI) vwCl [(a_t, .inr (8, [.ref a_t_read, .int t_readMany, .ref a_t_papers, .ref a_t_paperMany, .ref a_t_text, .int t_length, .int t_at, .int t_faultAt, .int t_year, .int x416, .ref a_t_whose, .int x345, .ref a_t_plan, .int t_most, .int t_above, .int t_handing, .int t_wants, .ref a_t_wantNight, .ref a_t_wantHouse, .ref a_t_wantWeight, .ref a_t_ahead, .ref a_t_best, .ref a_t_fines, .ref a_t_times, .ref a_t_isKept, .ref a_t_keptPlan, .ref a_t_keptFines, .ref a_t_keptTimes])), (a_t_paperMany, .inl (cI, 3, .inl t_paperMany)), (a_t_papers, .inl (cI, 180, .inl t_papers)), (a_t_whose, .inl (cI, 56, .inl g2))] H → va_D A [(a_t, .inr (8, [.ref a_t_read, .int t_readMany, .ref a_t_papers, .ref a_t_paperMany, .ref a_t_text, .int t_length, .int t_at, .int t_faultAt, .int t_year, .int x416, .ref a_t_whose, .int x345, .ref a_t_plan, .int t_most, .int t_above, .int t_handing, .int t_wants, .ref a_t_wantNight, .ref a_t_wantHouse, .ref a_t_wantWeight, .ref a_t_ahead, .ref a_t_best, .ref a_t_fines, .ref a_t_times, .ref a_t_isKept, .ref a_t_keptPlan, .ref a_t_keptFines, .ref a_t_keptTimes])), (a_t_paperMany, .inl (cI, 3, .inl t_paperMany)), (a_t_papers, .inl (cI, 180, .inl t_papers)), (a_t_whose, .inl (cI, 56, .inl g2))] → va_S A s.heap H locs → lv_has ls 8 [(0, .ref a_t), (1, .int x341), (2, .int x342), (3, .int x343), (4, .int x414), (5, .int x415)] → V H locs (F0 m 137 ls [])) ?_ (fun hE413 => ?_)
          · intro H locs ls hP hD hS hl
            refine lv_iload hx hb dX9_layMend_137 (lv_at hl 5 rfl) ?_
            refine lv_if_ne (tgt := 172) hx hb dX9_layMend_139 (by decide) (fun c417 => ?_) (fun c417 => ?_)
            · have hb345 := zz_ifn c417 hb345
              obtain ⟨x418, ex418⟩ : ∃ z : Int32, z = x343 + 1 := ⟨_, rfl⟩
              have hb345 := zz_nmE ex418 hb345
              refine lv_iinc (v := x418) (lv' := [(3, .int x418), (0, .ref a_t), (1, .int x341), (2, .int x342), (4, .int x414), (5, .int x415)]) hx hb dX9_layMend_172 hl (k := 3) rfl (by rw [ex418]; rfl) (by decide) rfl (fun ls hl => ?_)
              refine lv_goto (tgt := 16) hx hb dX9_layMend_175 (by decide) ?_
              obtain rfl := Option.some.inj hb345
              exact ih345 x341 x342 x418 x416 x345 _ _ ls hy345 hP hD hS (lv_sub hl [1, 2, 3, 0] rfl)
            · have hb345 := zz_if c417 hb345
              refine lv_iload_n hx hb dX9_layMend_142 rfl (lv_at hl 3 rfl) ?_
              obtain ⟨x419, u420, he421, hb345⟩ := zz_b2E hb345
              refine zz_PI (As := [.int x343]) (rest := []) ⟨hx, hb, hml, hown, hts⟩ (ct_X9_ones l dC dI cI cJ cB cZ x343 x419 u420 he421) gX9_layMend_X9_ones hd_X9_ones rfl rfl rfl ⟨Nat.le_of_ble_eq_true rfl, Nat.le_of_ble_eq_true rfl⟩ ⟨Nat.le_of_ble_eq_true rfl, Nat.le_of_ble_eq_true rfl⟩ rfl rfl (Nat.le_of_ble_eq_true rfl) dX9_layMend_143 hl.1 hP hK hS hA (fun H locs hP hS => ?_)
              refine lv_iload_n hx hb dX9_layMend_146 rfl (lv_at hl 2 rfl) ?_
              refine lv_icmp_lt (tgt := 159) hx hb dX9_layMend_147 (by decide) (fun c422 => ?_) (fun c422 => ?_)
              · have hb345 := zz_if c422 hb345
                refine lv_iload_n hx hb dX9_layMend_159 rfl (lv_at hl 3 rfl) ?_
                refine lv_istore_n (lv' := [(1, .int x343), (0, .ref a_t), (2, .int x342), (3, .int x343), (4, .int x414), (5, .int x415)]) hx hb dX9_layMend_160 rfl hl (by decide) rfl (fun ls hl => ?_)
                refine lv_iload_n hx hb dX9_layMend_161 rfl (lv_at hl 3 rfl) ?_
                obtain ⟨x423, u424, he425, hb345⟩ := zz_b2E hb345
                refine zz_PI (As := [.int x343]) (rest := []) ⟨hx, hb, hml, hown, hts⟩ (ct_X9_ones l dC dI cI cJ cB cZ x343 x423 u424 he425) gX9_layMend_X9_ones hd_X9_ones rfl rfl rfl ⟨Nat.le_of_ble_eq_true rfl, Nat.le_of_ble_eq_true rfl⟩ ⟨Nat.le_of_ble_eq_true rfl, Nat.le_of_ble_eq_true rfl⟩ rfl rfl (Nat.le_of_ble_eq_true rfl) dX9_layMend_162 hl.1 hP hK hS hA (fun H locs hP hS => ?_)
                refine lv_istore_n (lv' := [(2, .int x423), (1, .int x343), (0, .ref a_t), (3, .int x343), (4, .int x414), (5, .int x415)]) hx hb dX9_layMend_165 rfl hl (by decide) rfl (fun ls hl => ?_)
                refine lv_aload_n hx hb dX9_layMend_166 rfl (lv_at hl 2 rfl) ?_
                refine lv_iload hx hb dX9_layMend_167 (lv_at hl 4 rfl) ?_
                refine va_put (ci := 8) (v := .int x414) (ty := .int) (C := RX9) (T := TX9) (N := 28) hx hb hts in_X9_layMend_X9 tyX9 tyX9_ok nmX9 hown hK hP hD hS 0 rfl rfl 11 (by decide) (hts _ lk_X9_layMend_0) (fun _ h9 => h9) rfl (by decide +kernel) rfl rfl (Nat.le_of_ble_eq_true rfl) dX9_layMend_169 (fun H locs hP hD hS => ?_)
                have hP : va_P (dC, dI) vwCl [(a_t, .inr (8, [.ref a_t_read, .int t_readMany, .ref a_t_papers, .ref a_t_paperMany, .ref a_t_text, .int t_length, .int t_at, .int t_faultAt, .int t_year, .int x416, .ref a_t_whose, .int x414, .ref a_t_plan, .int t_most, .int t_above, .int t_handing, .int t_wants, .ref a_t_wantNight, .ref a_t_wantHouse, .ref a_t_wantWeight, .ref a_t_ahead, .ref a_t_best, .ref a_t_fines, .ref a_t_times, .ref a_t_isKept, .ref a_t_keptPlan, .ref a_t_keptFines, .ref a_t_keptTimes])), (a_t_paperMany, .inl (cI, 3, .inl t_paperMany)), (a_t_papers, .inl (cI, 180, .inl t_papers)), (a_t_whose, .inl (cI, 56, .inl g2))] H := hP
                have hD : va_D A [(a_t, .inr (8, [.ref a_t_read, .int t_readMany, .ref a_t_papers, .ref a_t_paperMany, .ref a_t_text, .int t_length, .int t_at, .int t_faultAt, .int t_year, .int x416, .ref a_t_whose, .int x414, .ref a_t_plan, .int t_most, .int t_above, .int t_handing, .int t_wants, .ref a_t_wantNight, .ref a_t_wantHouse, .ref a_t_wantWeight, .ref a_t_ahead, .ref a_t_best, .ref a_t_fines, .ref a_t_times, .ref a_t_isKept, .ref a_t_keptPlan, .ref a_t_keptFines, .ref a_t_keptTimes])), (a_t_paperMany, .inl (cI, 3, .inl t_paperMany)), (a_t_papers, .inl (cI, 180, .inl t_papers)), (a_t_whose, .inl (cI, 56, .inl g2))] := hD
                obtain ⟨x426, ex426⟩ : ∃ z : Int32, z = x343 + 1 := ⟨_, rfl⟩
                have hb345 := zz_nmE ex426 hb345
                refine lv_iinc (v := x426) (lv' := [(3, .int x426), (2, .int x423), (1, .int x343), (0, .ref a_t), (4, .int x414), (5, .int x415)]) hx hb dX9_layMend_172 hl (k := 3) rfl (by rw [ex426]; rfl) (by decide) rfl (fun ls hl => ?_)
                refine lv_goto (tgt := 16) hx hb dX9_layMend_175 (by decide) ?_
                obtain rfl := Option.some.inj hb345
                exact ih345 x343 x423 x426 x416 x414 _ _ ls hy345 hP hD hS (lv_sub hl [3, 2, 1, 0] rfl)
              · have hb345 := zz_ifn c422 hb345
                refine lv_iload hx hb dX9_layMend_150 (lv_at hl 4 rfl) ?_
                refine lv_aload_n hx hb dX9_layMend_152 rfl (lv_at hl 0 rfl) ?_
                refine va_get (ci := 8) (v := .int x345) (C := RX9) (T := TX9) (N := 28) hx hb hts in_X9_layMend_X9 hown hK hP 0 rfl rfl 11 (by decide) (hts _ lk_X9_layMend_0) (fun _ h9 => h9) rfl dX9_layMend_153 ?_
                refine lv_icmp_ge (tgt := 172) hx hb dX9_layMend_156 (by decide) (fun c427 => ?_) (fun c427 => ?_)
                · have hb345 := zz_if c427 hb345
                  obtain ⟨x428, ex428⟩ : ∃ z : Int32, z = x343 + 1 := ⟨_, rfl⟩
                  have hb345 := zz_nmE ex428 hb345
                  refine lv_iinc (v := x428) (lv' := [(3, .int x428), (0, .ref a_t), (1, .int x341), (2, .int x342), (4, .int x414), (5, .int x415)]) hx hb dX9_layMend_172 hl (k := 3) rfl (by rw [ex428]; rfl) (by decide) rfl (fun ls hl => ?_)
                  refine lv_goto (tgt := 16) hx hb dX9_layMend_175 (by decide) ?_
                  obtain rfl := Option.some.inj hb345
                  exact ih345 x341 x342 x428 x416 x345 _ _ ls hy345 hP hD hS (lv_sub hl [1, 2, 3, 0] rfl)
                · have hb345 := zz_ifn c427 hb345
                  refine lv_iload_n hx hb dX9_layMend_159 rfl (lv_at hl 3 rfl) ?_
                  refine lv_istore_n (lv' := [(1, .int x343), (0, .ref a_t), (2, .int x342), (3, .int x343), (4, .int x414), (5, .int x415)]) hx hb dX9_layMend_160 rfl hl (by decide) rfl (fun ls hl => ?_)
                  refine lv_iload_n hx hb dX9_layMend_161 rfl (lv_at hl 3 rfl) ?_
                  obtain ⟨x429, u430, he431, hb345⟩ := zz_b2E hb345
                  refine zz_PI (As := [.int x343]) (rest := []) ⟨hx, hb, hml, hown, hts⟩ (ct_X9_ones l dC dI cI cJ cB cZ x343 x429 u430 he431) gX9_layMend_X9_ones hd_X9_ones rfl rfl rfl ⟨Nat.le_of_ble_eq_true rfl, Nat.le_of_ble_eq_true rfl⟩ ⟨Nat.le_of_ble_eq_true rfl, Nat.le_of_ble_eq_true rfl⟩ rfl rfl (Nat.le_of_ble_eq_true rfl) dX9_layMend_162 hl.1 hP hK hS hA (fun H locs hP hS => ?_)
                  refine lv_istore_n (lv' := [(2, .int x429), (1, .int x343), (0, .ref a_t), (3, .int x343), (4, .int x414), (5, .int x415)]) hx hb dX9_layMend_165 rfl hl (by decide) rfl (fun ls hl => ?_)
                  refine lv_aload_n hx hb dX9_layMend_166 rfl (lv_at hl 2 rfl) ?_
                  refine lv_iload hx hb dX9_layMend_167 (lv_at hl 4 rfl) ?_
                  refine va_put (ci := 8) (v := .int x414) (ty := .int) (C := RX9) (T := TX9) (N := 28) hx hb hts in_X9_layMend_X9 tyX9 tyX9_ok nmX9 hown hK hP hD hS 0 rfl rfl 11 (by decide) (hts _ lk_X9_layMend_0) (fun _ h9 => h9) rfl (by decide +kernel) rfl rfl (Nat.le_of_ble_eq_true rfl) dX9_layMend_169 (fun H locs hP hD hS => ?_)
                  have hP : va_P (dC, dI) vwCl [(a_t, .inr (8, [.ref a_t_read, .int t_readMany, .ref a_t_papers, .ref a_t_paperMany, .ref a_t_text, .int t_length, .int t_at, .int t_faultAt, .int t_year, .int x416, .ref a_t_whose, .int x414, .ref a_t_plan, .int t_most, .int t_above, .int t_handing, .int t_wants, .ref a_t_wantNight, .ref a_t_wantHouse, .ref a_t_wantWeight, .ref a_t_ahead, .ref a_t_best, .ref a_t_fines, .ref a_t_times, .ref a_t_isKept, .ref a_t_keptPlan, .ref a_t_keptFines, .ref a_t_keptTimes])), (a_t_paperMany, .inl (cI, 3, .inl t_paperMany)), (a_t_papers, .inl (cI, 180, .inl t_papers)), (a_t_whose, .inl (cI, 56, .inl g2))] H := hP
                  have hD : va_D A [(a_t, .inr (8, [.ref a_t_read, .int t_readMany, .ref a_t_papers, .ref a_t_paperMany, .ref a_t_text, .int t_length, .int t_at, .int t_faultAt, .int t_year, .int x416, .ref a_t_whose, .int x414, .ref a_t_plan, .int t_most, .int t_above, .int t_handing, .int t_wants, .ref a_t_wantNight, .ref a_t_wantHouse, .ref a_t_wantWeight, .ref a_t_ahead, .ref a_t_best, .ref a_t_fines, .ref a_t_times, .ref a_t_isKept, .ref a_t_keptPlan, .ref a_t_keptFines, .ref a_t_keptTimes])), (a_t_paperMany, .inl (cI, 3, .inl t_paperMany)), (a_t_papers, .inl (cI, 180, .inl t_papers)), (a_t_whose, .inl (cI, 56, .inl g2))] := hD
                  obtain ⟨x432, ex432⟩ : ∃ z : Int32, z = x343 + 1 := ⟨_, rfl⟩
                  have hb345 := zz_nmE ex432 hb345
                  refine lv_iinc (v := x432) (lv' := [(3, .int x432), (2, .int x429), (1, .int x343), (0, .ref a_t), (4, .int x414), (5, .int x415)]) hx hb dX9_layMend_172 hl (k := 3) rfl (by rw [ex432]; rfl) (by decide) rfl (fun ls hl => ?_)
                  refine lv_goto (tgt := 16) hx hb dX9_layMend_175 (by decide) ?_
                  obtain rfl := Option.some.inj hb345
                  exact ih345 x343 x429 x432 x416 x414 _ _ ls hy345 hP hD hS (lv_sub hl [3, 2, 1, 0] rfl)
          refine zz_cut (fun V => ∀ (n : Nat) (x410 : Int32) (x411 : Int32) (x412 : Int32) (x413 : Int32) (H : Heap) (locs : List Loc) (ls : Array Slot), zz_it (fun z => fb_X9_layMend_45 t_year t_paperMany t_papers g2 x343 z.1 z.2.1 z.2.2.1 z.2.2.2) n (x410, x411, x412, x413) = some (x414, x415, x416) → va_P (dC, dI) vwCl [(a_t, .inr (8, [.ref a_t_read, .int t_readMany, .ref a_t_papers, .ref a_t_paperMany, .ref a_t_text, .int t_length, .int t_at, .int t_faultAt, .int t_year, .int x413, .ref a_t_whose, .int x345, .ref a_t_plan, .int t_most, .int t_above, .int t_handing, .int t_wants, .ref a_t_wantNight, .ref a_t_wantHouse, .ref a_t_wantWeight, .ref a_t_ahead, .ref a_t_best, .ref a_t_fines, .ref a_t_times, .ref a_t_isKept, .ref a_t_keptPlan, .ref a_t_keptFines, .ref a_t_keptTimes])), (a_t_paperMany, .inl (cI, 3, .inl t_paperMany)), (a_t_papers, .inl (cI, 180, .inl t_papers)), (a_t_whose, .inl (cI, 56, .inl g2))] H → va_D A [(a_t, .inr (8, [.ref a_t_read, .int t_readMany, .ref a_t_papers, .ref a_t_paperMany, .ref a_t_text, .int t_length, .int t_at, .int t_faultAt, .int t_year, .int x413, .ref a_t_whose, .int x345, .ref a_t_plan, .int t_most, .int t_above, .int t_handing, .int t_wants, .ref a_t_wantNight, .ref a_t_wantHouse, .ref a_t_wantWeight, .ref a_t_ahead, .ref a_t_best, .ref a_t_fines, .ref a_t_times, .ref a_t_isKept, .ref a_t_keptPlan, .ref a_t_keptFines, .ref a_t_keptTimes])), (a_t_paperMany, .inl (cI, 3, .inl t_paperMany)), (a_t_papers, .inl (cI, 180, .inl t_papers)), (a_t_whose, .inl (cI, 56, .inl g2))] → va_S A s.heap H locs → lv_has ls 8 [(0, .ref a_t), (1, .int x341), (2, .int x342), (3, .int x343), (4, .int x410), (5, .int x411), (6, .int x412)] → V H locs (F0 m 45 ls [])) ?_ (fun hL413 => ?_)
          · intro n
            induction n with
            | zero => intro x410 x411 x412 x413 H locs ls hit413; exact (zz_it0 hit413).elim
            | succ n ih413 =>
              intro x410 x411 x412 x413 H locs ls hit413 hP hD hS hl
              obtain ⟨y413, hb413, hy413⟩ := zz_itE hit413
              have hb413 : fb_X9_layMend_45 t_year t_paperMany t_papers g2 x343 x410 x411 x412 x413 = some y413 := hb413
              unfold fb_X9_layMend_45 at hb413
              refine lv_iload hx hb dX9_layMend_45 (lv_at hl 6 rfl) ?_
              refine lv_bipush (v := 56) hx hb dX9_layMend_47 (by decide) ?_
              refine lv_icmp_ge (tgt := 137) hx hb dX9_layMend_49 (by decide) (fun c433 => ?_) (fun c433 => ?_)
              · have hb413 := zz_if c433 hb413
                obtain rfl := Option.some.inj hb413
                have hy413 := Option.some.inj hy413
                cases hy413
                exact hE413 _ _ ls hP hD hS (lv_sub hl [0, 1, 2, 3, 4, 5] rfl)
              · have hb413 := zz_ifn c433 hb413
                refine lv_iload hx hb dX9_layMend_52 (lv_at hl 5 rfl) ?_
                refine lv_if_ne (tgt := 137) hx hb dX9_layMend_54 (by decide) (fun c434 => ?_) (fun c434 => ?_)
                · have hb413 := zz_ifn c434 hb413
                  obtain rfl := Option.some.inj hb413
                  have hy413 := Option.some.inj hy413
                  cases hy413
                  exact hE413 _ _ ls hP hD hS (lv_sub hl [0, 1, 2, 3, 4, 5] rfl)
                · have hb413 := zz_if c434 hb413
                  refine lv_iload_n hx hb dX9_layMend_57 rfl (lv_at hl 3 rfl) ?_
                  obtain ⟨x440, x441, hj442, hb413⟩ := zz_b2E hb413
                  refine zz_cut (fun V => ∀ (H : Heap) (locs : List Loc) (ls : Array Slot), va_P (dC, dI) vwCl [(a_t, .inr (8, [.ref a_t_read, .int t_readMany, .ref a_t_papers, .ref a_t_paperMany, .ref a_t_text, .int t_length, .int t_at, .int t_faultAt, .int t_year, .int x441, .ref a_t_whose, .int x345, .ref a_t_plan, .int t_most, .int t_above, .int t_handing, .int t_wants, .ref a_t_wantNight, .ref a_t_wantHouse, .ref a_t_wantWeight, .ref a_t_ahead, .ref a_t_best, .ref a_t_fines, .ref a_t_times, .ref a_t_isKept, .ref a_t_keptPlan, .ref a_t_keptFines, .ref a_t_keptTimes])), (a_t_paperMany, .inl (cI, 3, .inl t_paperMany)), (a_t_papers, .inl (cI, 180, .inl t_papers)), (a_t_whose, .inl (cI, 56, .inl g2))] H → va_D A [(a_t, .inr (8, [.ref a_t_read, .int t_readMany, .ref a_t_papers, .ref a_t_paperMany, .ref a_t_text, .int t_length, .int t_at, .int t_faultAt, .int t_year, .int x441, .ref a_t_whose, .int x345, .ref a_t_plan, .int t_most, .int t_above, .int t_handing, .int t_wants, .ref a_t_wantNight, .ref a_t_wantHouse, .ref a_t_wantWeight, .ref a_t_ahead, .ref a_t_best, .ref a_t_fines, .ref a_t_times, .ref a_t_isKept, .ref a_t_keptPlan, .ref a_t_keptFines, .ref a_t_keptTimes])), (a_t_paperMany, .inl (cI, 3, .inl t_paperMany)), (a_t_papers, .inl (cI, 180, .inl t_papers)), (a_t_whose, .inl (cI, 56, .inl g2))] → va_S A s.heap H locs → lv_has ls 8 [(0, .ref a_t), (1, .int x341), (2, .int x342), (3, .int x343), (4, .int x410), (6, .int x412)] → V H locs (F0 m 83 ls [.int x440])) ?_ (fun hJ442 => ?_)
                  · intro H locs ls hP hD hS hl
                    refine lv_istore (lv' := [(7, .int x440), (0, .ref a_t), (1, .int x341), (2, .int x342), (3, .int x343), (4, .int x410), (6, .int x412)]) hx hb dX9_layMend_83 hl (by decide) rfl (fun ls hl => ?_)
                    refine lv_iload hx hb dX9_layMend_85 (lv_at hl 0 rfl) ?_
                    refine lv_iconst (v := 3) hx hb dX9_layMend_87 (by decide) ?_
                    obtain ⟨x444, hj445, hb413⟩ := zz_b1E hb413
                    refine zz_cut (fun V => ∀ (H : Heap) (locs : List Loc) (ls : Array Slot), va_P (dC, dI) vwCl [(a_t, .inr (8, [.ref a_t_read, .int t_readMany, .ref a_t_papers, .ref a_t_paperMany, .ref a_t_text, .int t_length, .int t_at, .int t_faultAt, .int t_year, .int x441, .ref a_t_whose, .int x345, .ref a_t_plan, .int t_most, .int t_above, .int t_handing, .int t_wants, .ref a_t_wantNight, .ref a_t_wantHouse, .ref a_t_wantWeight, .ref a_t_ahead, .ref a_t_best, .ref a_t_fines, .ref a_t_times, .ref a_t_isKept, .ref a_t_keptPlan, .ref a_t_keptFines, .ref a_t_keptTimes])), (a_t_paperMany, .inl (cI, 3, .inl t_paperMany)), (a_t_papers, .inl (cI, 180, .inl t_papers)), (a_t_whose, .inl (cI, 56, .inl g2))] H → va_D A [(a_t, .inr (8, [.ref a_t_read, .int t_readMany, .ref a_t_papers, .ref a_t_paperMany, .ref a_t_text, .int t_length, .int t_at, .int t_faultAt, .int t_year, .int x441, .ref a_t_whose, .int x345, .ref a_t_plan, .int t_most, .int t_above, .int t_handing, .int t_wants, .ref a_t_wantNight, .ref a_t_wantHouse, .ref a_t_wantWeight, .ref a_t_ahead, .ref a_t_best, .ref a_t_fines, .ref a_t_times, .ref a_t_isKept, .ref a_t_keptPlan, .ref a_t_keptFines, .ref a_t_keptTimes])), (a_t_paperMany, .inl (cI, 3, .inl t_paperMany)), (a_t_papers, .inl (cI, 180, .inl t_papers)), (a_t_whose, .inl (cI, 56, .inl g2))] → va_S A s.heap H locs → lv_has ls 8 [(0, .ref a_t), (1, .int x341), (2, .int x342), (3, .int x343), (4, .int x410), (6, .int x412), (7, .int x440)] → V H locs (F0 m 96 ls [.int x444])) ?_ (fun hJ445 => ?_)
                    · intro H locs ls hP hD hS hl
                      refine lv_istore (lv' := [(5, .int x444), (0, .ref a_t), (1, .int x341), (2, .int x342), (3, .int x343), (4, .int x410), (6, .int x412), (7, .int x440)]) hx hb dX9_layMend_96 hl (by decide) rfl (fun ls hl => ?_)
                      refine lv_iload hx hb dX9_layMend_98 (lv_at hl 5 rfl) ?_
                      refine lv_aload_n hx hb dX9_layMend_100 rfl (lv_at hl 1 rfl) ?_
                      refine va_get (ci := 8) (v := .ref a_t_whose) (C := RX9) (T := TX9) (N := 28) hx hb hts in_X9_layMend_X9 hown hK hP 0 rfl rfl 10 (by decide) (hts _ lk_X9_layMend_3) (fun _ h9 => h9) rfl dX9_layMend_101 ?_
                      refine lv_iload hx hb dX9_layMend_104 (lv_at hl 6 rfl) ?_
                      obtain ⟨hi446, hb413⟩ := zz_chkE hb413
                      refine va_iald hx hb hK hP 3 0 rfl rfl hi446 dX9_layMend_106 ?_
                      refine lv_iconst (v := 3) hx hb dX9_layMend_107 (by decide) ?_
                      refine lv_icmp_eq (tgt := 127) hx hb dX9_layMend_108 (by decide) (fun c447 => ?_) (fun c447 => ?_)
                      · have hb413 := zz_if c447 hb413
                        refine lv_iconst (v := 0) hx hb dX9_layMend_127 (by decide) ?_
                        refine lv_iadd hx hb dX9_layMend_128 ?_
                        refine lv_topi (fun x448 ex448 => ?_)
                        have hb413 := zz_nmE ex448 hb413
                        refine lv_istore (lv' := [(4, .int x448), (5, .int x444), (0, .ref a_t), (1, .int x341), (2, .int x342), (3, .int x343), (6, .int x412), (7, .int x440)]) hx hb dX9_layMend_129 hl (by decide) rfl (fun ls hl => ?_)
                        obtain ⟨x449, ex449⟩ : ∃ z : Int32, z = x412 + 1 := ⟨_, rfl⟩
                        have hb413 := zz_nmE ex449 hb413
                        refine lv_iinc (v := x449) (lv' := [(6, .int x449), (4, .int x448), (5, .int x444), (0, .ref a_t), (1, .int x341), (2, .int x342), (3, .int x343), (7, .int x440)]) hx hb dX9_layMend_131 hl (k := 6) rfl (by rw [ex449]; rfl) (by decide) rfl (fun ls hl => ?_)
                        refine lv_goto (tgt := 45) hx hb dX9_layMend_134 (by decide) ?_
                        obtain rfl := Option.some.inj hb413
                        exact ih413 x448 x444 x449 x441 _ _ ls hy413 hP hD hS (lv_sub hl [3, 4, 5, 6, 1, 2, 0] rfl)
                      · have hb413 := zz_ifn c447 hb413
                        refine lv_iload hx hb dX9_layMend_111 (lv_at hl 7 rfl) ?_
                        refine lv_aload_n hx hb dX9_layMend_113 rfl (lv_at hl 1 rfl) ?_
                        refine va_get (ci := 8) (v := .ref a_t_whose) (C := RX9) (T := TX9) (N := 28) hx hb hts in_X9_layMend_X9 hown hK hP 0 rfl rfl 10 (by decide) (hts _ lk_X9_layMend_3) (fun _ h9 => h9) rfl dX9_layMend_114 ?_
                        refine lv_iload hx hb dX9_layMend_117 (lv_at hl 6 rfl) ?_
                        obtain ⟨hi450, hb413⟩ := zz_chkE hb413
                        refine va_iald hx hb hK hP 3 0 rfl rfl hi450 dX9_layMend_119 ?_
                        refine lv_icmp_eq (tgt := 127) hx hb dX9_layMend_120 (by decide) (fun c451 => ?_) (fun c451 => ?_)
                        · have hb413 := zz_if c451 hb413
                          refine lv_iconst (v := 0) hx hb dX9_layMend_127 (by decide) ?_
                          refine lv_iadd hx hb dX9_layMend_128 ?_
                          refine lv_topi (fun x452 ex452 => ?_)
                          have hb413 := zz_nmE ex452 hb413
                          refine lv_istore (lv' := [(4, .int x452), (5, .int x444), (0, .ref a_t), (1, .int x341), (2, .int x342), (3, .int x343), (6, .int x412), (7, .int x440)]) hx hb dX9_layMend_129 hl (by decide) rfl (fun ls hl => ?_)
                          obtain ⟨x453, ex453⟩ : ∃ z : Int32, z = x412 + 1 := ⟨_, rfl⟩
                          have hb413 := zz_nmE ex453 hb413
                          refine lv_iinc (v := x453) (lv' := [(6, .int x453), (4, .int x452), (5, .int x444), (0, .ref a_t), (1, .int x341), (2, .int x342), (3, .int x343), (7, .int x440)]) hx hb dX9_layMend_131 hl (k := 6) rfl (by rw [ex453]; rfl) (by decide) rfl (fun ls hl => ?_)
                          refine lv_goto (tgt := 45) hx hb dX9_layMend_134 (by decide) ?_
                          obtain rfl := Option.some.inj hb413
                          exact ih413 x452 x444 x453 x441 _ _ ls hy413 hP hD hS (lv_sub hl [3, 4, 5, 6, 1, 2, 0] rfl)
                        · have hb413 := zz_ifn c451 hb413
                          refine lv_iconst (v := 1) hx hb dX9_layMend_123 (by decide) ?_
                          refine lv_goto (tgt := 128) hx hb dX9_layMend_124 (by decide) ?_
                          refine lv_iadd hx hb dX9_layMend_128 ?_
                          refine lv_topi (fun x454 ex454 => ?_)
                          have hb413 := zz_nmE ex454 hb413
                          refine lv_istore (lv' := [(4, .int x454), (5, .int x444), (0, .ref a_t), (1, .int x341), (2, .int x342), (3, .int x343), (6, .int x412), (7, .int x440)]) hx hb dX9_layMend_129 hl (by decide) rfl (fun ls hl => ?_)
                          obtain ⟨x455, ex455⟩ : ∃ z : Int32, z = x412 + 1 := ⟨_, rfl⟩
                          have hb413 := zz_nmE ex455 hb413
                          refine lv_iinc (v := x455) (lv' := [(6, .int x455), (4, .int x454), (5, .int x444), (0, .ref a_t), (1, .int x341), (2, .int x342), (3, .int x343), (7, .int x440)]) hx hb dX9_layMend_131 hl (k := 6) rfl (by rw [ex455]; rfl) (by decide) rfl (fun ls hl => ?_)
                          refine lv_goto (tgt := 45) hx hb dX9_layMend_134 (by decide) ?_
                          obtain rfl := Option.some.inj hb413
                          exact ih413 x454 x444 x455 x441 _ _ ls hy413 hP hD hS (lv_sub hl [3, 4, 5, 6, 1, 2, 0] rfl)
                    refine lv_icmp_ne (tgt := 95) hx hb dX9_layMend_88 (by decide) (fun c443 => ?_) (fun c443 => ?_)
                    · have hj445 := zz_ifn c443 hj445
                      refine lv_iconst (v := 0) hx hb dX9_layMend_95 (by decide) ?_
                      cases hj445
                      exact hJ445 _ _ ls hP hD hS (lv_sub hl [1, 2, 3, 4, 5, 6, 0] rfl)
                    · have hj445 := zz_if c443 hj445
                      refine lv_iconst (v := 1) hx hb dX9_layMend_91 (by decide) ?_
                      refine lv_goto (tgt := 96) hx hb dX9_layMend_92 (by decide) ?_
                      cases hj445
                      exact hJ445 _ _ ls hP hD hS (lv_sub hl [1, 2, 3, 4, 5, 6, 0] rfl)
                  refine lv_if_ne (tgt := 71) hx hb dX9_layMend_58 (by decide) (fun c435 => ?_) (fun c435 => ?_)
                  · have hj442 := zz_ifn c435 hj442
                    refine lv_aload_n hx hb dX9_layMend_71 rfl (lv_at hl 0 rfl) ?_
                    refine lv_iconst (v := 0) hx hb dX9_layMend_72 (by decide) ?_
                    refine lv_iload hx hb dX9_layMend_73 (lv_at hl 6 rfl) ?_
                    refine lv_aload_n hx hb dX9_layMend_75 rfl (lv_at hl 0 rfl) ?_
                    refine va_get (ci := 8) (v := .int t_year) (C := RX9) (T := TX9) (N := 28) hx hb hts in_X9_layMend_X9 hown hK hP 0 rfl rfl 8 (by decide) (hts _ lk_X9_layMend_2) (fun _ h9 => h9) rfl dX9_layMend_76 ?_
                    refine lv_iload_n hx hb dX9_layMend_79 rfl (lv_at hl 3 rfl) ?_
                    obtain ⟨x456, x457, he458, hj442⟩ := zz_b2E hj442
                    refine zz_VI (q := (RX9, TX9, 28)) (As := [.int 0, .int x412, .int t_year, .int x343]) (rest := []) (wr := [(a_t_whose, .inl (cI, 56, .inl g2))]) (wm := [(a_t, .inr (8, [.ref a_t_read, .int t_readMany, .ref a_t_papers, .ref a_t_paperMany, .ref a_t_text, .int t_length, .int t_at, .int t_faultAt, .int t_year, .int x457, .ref a_t_whose, .int x345, .ref a_t_plan, .int t_most, .int t_above, .int t_handing, .int t_wants, .ref a_t_wantNight, .ref a_t_wantHouse, .ref a_t_wantWeight, .ref a_t_ahead, .ref a_t_best, .ref a_t_fines, .ref a_t_times, .ref a_t_isKept, .ref a_t_keptPlan, .ref a_t_keptFines, .ref a_t_keptTimes])), (a_t_paperMany, .inl (cI, 3, .inl t_paperMany)), (a_t_papers, .inl (cI, 180, .inl t_papers)), (a_t_whose, .inl (cI, 56, .inl g2))]) ⟨hx, hb, hml, hown, hts⟩ (ct_X9_whoseOf l dC dI cI cJ cB cZ a_t a_t_paperMany a_t_papers a_t_read a_t_text a_t_whose a_t_plan a_t_wantNight a_t_wantHouse a_t_wantWeight a_t_ahead a_t_best a_t_fines a_t_times a_t_isKept a_t_keptPlan a_t_keptFines a_t_keptTimes t_readMany t_length t_at t_faultAt t_year x413 x345 t_most t_above t_handing t_wants t_paperMany t_papers (0 : Int32) x412 t_year x343 x456 x457 he458) gX9_layMend_X9_whoseOf hd_X9_whoseOf rfl rfl rfl ⟨Nat.le_of_ble_eq_true rfl, Nat.le_of_ble_eq_true rfl⟩ ⟨Nat.le_of_ble_eq_true rfl, Nat.le_of_ble_eq_true rfl⟩ rfl rfl (Nat.le_of_ble_eq_true rfl) dX9_layMend_80 hl.1 rfl (ci := 8) rfl (q0 := 0) rfl hP hK hD hS hA [0, 1, 2] [3] [1, 2, 3, 0] rfl rfl (by decide) (by decide) (by decide) (by decide) rfl (fun H locs hP hD hS => ?_)
                    cases hj442
                    exact hJ442 _ _ ls hP hD hS (lv_sub hl [0, 1, 2, 3, 4, 6] rfl)
                  · have hj442 := zz_if c435 hj442
                    refine lv_aload_n hx hb dX9_layMend_61 rfl (lv_at hl 0 rfl) ?_
                    refine va_get (ci := 8) (v := .ref a_t_whose) (C := RX9) (T := TX9) (N := 28) hx hb hts in_X9_layMend_X9 hown hK hP 0 rfl rfl 10 (by decide) (hts _ lk_X9_layMend_3) (fun _ h9 => h9) rfl dX9_layMend_62 ?_
                    refine lv_iload hx hb dX9_layMend_65 (lv_at hl 6 rfl) ?_
                    obtain ⟨hi459, hj442⟩ := zz_chkE hj442
                    refine va_iald hx hb hK hP 3 0 rfl rfl hi459 dX9_layMend_67 ?_
                    refine lv_goto (tgt := 83) hx hb dX9_layMend_68 (by decide) ?_
                    cases hj442
                    exact hJ442 _ _ ls hP hD hS (lv_sub hl [0, 1, 2, 3, 4, 6] rfl)
          exact hL413 zz_fuel 0 0 0 x344 _ _ ls hit413 hP hD hS (lv_sub hl [3, 4, 5, 6, 2, 1, 0] rfl)
  exact hL345 zz_fuel 0 11 0 x1 0 _ _ ls hit345 hP hD hS (lv_sub hl [3, 2, 1, 0] rfl)
theorem hd_X9_mend : yX9_mend.cls ≠ "java/lang/invoke/MethodHandle" ∧ yX9_mend.cls ≠ "java/lang/invoke/VarHandle" ∧ (parseMethodDescriptor yX9_mend.desc).map (fun d => d.parameters.length) = some 0 := by decide +kernel
set_option maxHeartbeats 4000000 in
set_option maxRecDepth 100000 in
theorem ct_X9_mend (l : Launch) (dC : Nat → ClassId) (dI : Nat → Nat → Nat) (cI cJ cB cZ : ClassId) (a_t a_t_paperMany a_t_papers a_t_whose a_t_read a_t_text a_t_plan a_t_wantNight a_t_wantHouse a_t_wantWeight a_t_ahead a_t_best a_t_fines a_t_times a_t_isKept a_t_keptPlan a_t_keptFines a_t_keptTimes : Nat) (t_readMany : Int32) (t_length : Int32) (t_at : Int32) (t_faultAt : Int32) (t_year : Int32) (t_wordsNow : Int32) (t_mendChanges : Int32) (t_most : Int32) (t_above : Int32) (t_handing : Int32) (t_wants : Int32) (t_paperMany : (Nat → Int32)) (t_papers : (Nat → Int32)) (t_whose : (Nat → Int32)) (rr : Int32) (o1 : Int32) (o2 : Int32) (o3 : (Nat → Int32)) (h : fn_X9_mend t_year t_wordsNow t_paperMany t_papers t_whose = some (rr, o1, o2, o3)) : zz_M l yX9_mend wsX9_mend ({ frames := 5, cells := 0, slots := 0, locals := 131 }) (dC, dI) (zz_T cI cJ cB cZ) [.ref a_t] [(a_t, .inr (8, [.ref a_t_read, .int t_readMany, .ref a_t_papers, .ref a_t_paperMany, .ref a_t_text, .int t_length, .int t_at, .int t_faultAt, .int t_year, .int t_wordsNow, .ref a_t_whose, .int t_mendChanges, .ref a_t_plan, .int t_most, .int t_above, .int t_handing, .int t_wants, .ref a_t_wantNight, .ref a_t_wantHouse, .ref a_t_wantWeight, .ref a_t_ahead, .ref a_t_best, .ref a_t_fines, .ref a_t_times, .ref a_t_isKept, .ref a_t_keptPlan, .ref a_t_keptFines, .ref a_t_keptTimes])), (a_t_paperMany, .inl (cI, 3, .inl t_paperMany)), (a_t_papers, .inl (cI, 180, .inl t_papers)), (a_t_whose, .inl (cI, 56, .inl t_whose))] (zz_QI (dC, dI) (zz_T cI cJ cB cZ) (rr, o1, o2, o3) (fun (u : Int32 × Int32 × (Nat → Int32)) => [(a_t, .inr (8, [.ref a_t_read, .int t_readMany, .ref a_t_papers, .ref a_t_paperMany, .ref a_t_text, .int t_length, .int t_at, .int t_faultAt, .int t_year, .int u.1, .ref a_t_whose, .int u.2.1, .ref a_t_plan, .int t_most, .int t_above, .int t_handing, .int t_wants, .ref a_t_wantNight, .ref a_t_wantHouse, .ref a_t_wantWeight, .ref a_t_ahead, .ref a_t_best, .ref a_t_fines, .ref a_t_times, .ref a_t_isKept, .ref a_t_keptPlan, .ref a_t_keptFines, .ref a_t_keptTimes])), (a_t_paperMany, .inl (cI, 3, .inl t_paperMany)), (a_t_papers, .inl (cI, 180, .inl t_papers)), (a_t_whose, .inl (cI, 56, .inl u.2.2))])) := by
  unfold fn_X9_mend at h
  refine zz_of (by decide) rfl (Nat.le_of_ble_eq_true rfl) ?_
  intro p e s m below meth c A ls hx hb hr hml hts hown hlocks hA hS hP hK hD hl
  have hown : s.vm.findClass RX9 = some m.cls := hown
  have hl : lv_has ls 1 [(0, .ref a_t)] := hl
  refine lv_aload_n hx hb dX9_mend_0 rfl (lv_at hl 0 rfl) ?_
  obtain ⟨x1, x2, x3, g4, he5, h⟩ := zz_b4E h
  refine zz_VI (q := (RX9, TX9, 28)) (As := []) (rest := []) (wr := []) (wm := [(a_t, .inr (8, [.ref a_t_read, .int t_readMany, .ref a_t_papers, .ref a_t_paperMany, .ref a_t_text, .int t_length, .int t_at, .int t_faultAt, .int t_year, .int x2, .ref a_t_whose, .int x3, .ref a_t_plan, .int t_most, .int t_above, .int t_handing, .int t_wants, .ref a_t_wantNight, .ref a_t_wantHouse, .ref a_t_wantWeight, .ref a_t_ahead, .ref a_t_best, .ref a_t_fines, .ref a_t_times, .ref a_t_isKept, .ref a_t_keptPlan, .ref a_t_keptFines, .ref a_t_keptTimes])), (a_t_paperMany, .inl (cI, 3, .inl t_paperMany)), (a_t_papers, .inl (cI, 180, .inl t_papers)), (a_t_whose, .inl (cI, 56, .inl g4))]) ⟨hx, hb, hml, hown, hts⟩ (ct_X9_layMend l dC dI cI cJ cB cZ a_t a_t_paperMany a_t_papers a_t_whose a_t_read a_t_text a_t_plan a_t_wantNight a_t_wantHouse a_t_wantWeight a_t_ahead a_t_best a_t_fines a_t_times a_t_isKept a_t_keptPlan a_t_keptFines a_t_keptTimes t_readMany t_length t_at t_faultAt t_year t_wordsNow t_mendChanges t_most t_above t_handing t_wants t_paperMany t_papers t_whose x1 x2 x3 g4 he5) gX9_mend_X9_layMend hd_X9_layMend rfl rfl rfl ⟨Nat.le_of_ble_eq_true rfl, Nat.le_of_ble_eq_true rfl⟩ ⟨Nat.le_of_ble_eq_true rfl, Nat.le_of_ble_eq_true rfl⟩ rfl rfl (Nat.le_of_ble_eq_true rfl) dX9_mend_1 hl.1 rfl (ci := 8) rfl (q0 := 0) rfl hP hK hD hS hA [0, 1, 2, 3] [] [0, 1, 2, 3] rfl rfl (by decide) (by decide) (by decide) (by decide) rfl (fun H locs hP hD hS => ?_)
  exact zz_iret (x2, x3, g4) hx hb hr hlocks dX9_mend_4 (Option.some.inj h) hP hK hD hS
theorem hd_X9_changes : yX9_changes.cls ≠ "java/lang/invoke/MethodHandle" ∧ yX9_changes.cls ≠ "java/lang/invoke/VarHandle" ∧ (parseMethodDescriptor yX9_changes.desc).map (fun d => d.parameters.length) = some 0 := by decide +kernel
set_option maxRecDepth 20000 in
theorem in_X9_changes_X9 : ∀ w ∈ u_ws RX9 TX9 28, w ∈ wsX9_changes := by decide +kernel
set_option maxRecDepth 20000 in
theorem lk_X9_changes_0 : Cond.fieldLink RX9 137 "TwoHousesOneChildModel" "mendChanges" "I" ∈ wsX9_changes := by decide +kernel
set_option maxHeartbeats 4000000 in
set_option maxRecDepth 100000 in
theorem ct_X9_changes (l : Launch) (dC : Nat → ClassId) (dI : Nat → Nat → Nat) (cI cJ cB cZ : ClassId) (a_t a_t_paperMany a_t_papers a_t_whose a_t_read a_t_text a_t_plan a_t_wantNight a_t_wantHouse a_t_wantWeight a_t_ahead a_t_best a_t_fines a_t_times a_t_isKept a_t_keptPlan a_t_keptFines a_t_keptTimes : Nat) (t_readMany : Int32) (t_length : Int32) (t_at : Int32) (t_faultAt : Int32) (t_year : Int32) (t_wordsNow : Int32) (t_mendChanges : Int32) (t_most : Int32) (t_above : Int32) (t_handing : Int32) (t_wants : Int32) (t_paperMany : (Nat → Int32)) (t_papers : (Nat → Int32)) (t_whose : (Nat → Int32)) (rr : Int32) (o1 : Int32) (o2 : Int32) (o3 : (Nat → Int32)) (h : fn_X9_changes t_year t_wordsNow t_paperMany t_papers t_whose = some (rr, o1, o2, o3)) : zz_M l yX9_changes wsX9_changes ({ frames := 5, cells := 0, slots := 0, locals := 131 }) (dC, dI) (zz_T cI cJ cB cZ) [.ref a_t] [(a_t, .inr (8, [.ref a_t_read, .int t_readMany, .ref a_t_papers, .ref a_t_paperMany, .ref a_t_text, .int t_length, .int t_at, .int t_faultAt, .int t_year, .int t_wordsNow, .ref a_t_whose, .int t_mendChanges, .ref a_t_plan, .int t_most, .int t_above, .int t_handing, .int t_wants, .ref a_t_wantNight, .ref a_t_wantHouse, .ref a_t_wantWeight, .ref a_t_ahead, .ref a_t_best, .ref a_t_fines, .ref a_t_times, .ref a_t_isKept, .ref a_t_keptPlan, .ref a_t_keptFines, .ref a_t_keptTimes])), (a_t_paperMany, .inl (cI, 3, .inl t_paperMany)), (a_t_papers, .inl (cI, 180, .inl t_papers)), (a_t_whose, .inl (cI, 56, .inl t_whose))] (zz_QI (dC, dI) (zz_T cI cJ cB cZ) (rr, o1, o2, o3) (fun (u : Int32 × Int32 × (Nat → Int32)) => [(a_t, .inr (8, [.ref a_t_read, .int t_readMany, .ref a_t_papers, .ref a_t_paperMany, .ref a_t_text, .int t_length, .int t_at, .int t_faultAt, .int t_year, .int u.1, .ref a_t_whose, .int u.2.1, .ref a_t_plan, .int t_most, .int t_above, .int t_handing, .int t_wants, .ref a_t_wantNight, .ref a_t_wantHouse, .ref a_t_wantWeight, .ref a_t_ahead, .ref a_t_best, .ref a_t_fines, .ref a_t_times, .ref a_t_isKept, .ref a_t_keptPlan, .ref a_t_keptFines, .ref a_t_keptTimes])), (a_t_paperMany, .inl (cI, 3, .inl t_paperMany)), (a_t_papers, .inl (cI, 180, .inl t_papers)), (a_t_whose, .inl (cI, 56, .inl u.2.2))])) := by
  unfold fn_X9_changes at h
  refine zz_of (by decide) rfl (Nat.le_of_ble_eq_true rfl) ?_
  intro p e s m below meth c A ls hx hb hr hml hts hown hlocks hA hS hP hK hD hl
  have hown : s.vm.findClass RX9 = some m.cls := hown
  have hl : lv_has ls 1 [(0, .ref a_t)] := hl
  refine lv_aload_n hx hb dX9_changes_0 rfl (lv_at hl 0 rfl) ?_
  obtain ⟨x1, x2, x3, g4, he5, h⟩ := zz_b4E h
  refine zz_VI (q := (RX9, TX9, 28)) (As := []) (rest := []) (wr := []) (wm := [(a_t, .inr (8, [.ref a_t_read, .int t_readMany, .ref a_t_papers, .ref a_t_paperMany, .ref a_t_text, .int t_length, .int t_at, .int t_faultAt, .int t_year, .int x2, .ref a_t_whose, .int x3, .ref a_t_plan, .int t_most, .int t_above, .int t_handing, .int t_wants, .ref a_t_wantNight, .ref a_t_wantHouse, .ref a_t_wantWeight, .ref a_t_ahead, .ref a_t_best, .ref a_t_fines, .ref a_t_times, .ref a_t_isKept, .ref a_t_keptPlan, .ref a_t_keptFines, .ref a_t_keptTimes])), (a_t_paperMany, .inl (cI, 3, .inl t_paperMany)), (a_t_papers, .inl (cI, 180, .inl t_papers)), (a_t_whose, .inl (cI, 56, .inl g4))]) ⟨hx, hb, hml, hown, hts⟩ (ct_X9_layMend l dC dI cI cJ cB cZ a_t a_t_paperMany a_t_papers a_t_whose a_t_read a_t_text a_t_plan a_t_wantNight a_t_wantHouse a_t_wantWeight a_t_ahead a_t_best a_t_fines a_t_times a_t_isKept a_t_keptPlan a_t_keptFines a_t_keptTimes t_readMany t_length t_at t_faultAt t_year t_wordsNow t_mendChanges t_most t_above t_handing t_wants t_paperMany t_papers t_whose x1 x2 x3 g4 he5) gX9_changes_X9_layMend hd_X9_layMend rfl rfl rfl ⟨Nat.le_of_ble_eq_true rfl, Nat.le_of_ble_eq_true rfl⟩ ⟨Nat.le_of_ble_eq_true rfl, Nat.le_of_ble_eq_true rfl⟩ rfl rfl (Nat.le_of_ble_eq_true rfl) dX9_changes_1 hl.1 rfl (ci := 8) rfl (q0 := 0) rfl hP hK hD hS hA [0, 1, 2, 3] [] [0, 1, 2, 3] rfl rfl (by decide) (by decide) (by decide) (by decide) rfl (fun H locs hP hD hS => ?_)
  refine lv_pop hx hb dX9_changes_4 rfl ?_
  refine lv_aload_n hx hb dX9_changes_5 rfl (lv_at hl 0 rfl) ?_
  refine va_get (ci := 8) (v := .int x3) (C := RX9) (T := TX9) (N := 28) hx hb hts in_X9_changes_X9 hown hK hP 0 rfl rfl 11 (by decide) (hts _ lk_X9_changes_0) (fun _ h9 => h9) rfl dX9_changes_6 ?_
  exact zz_iret (x2, x3, g4) hx hb hr hlocks dX9_changes_9 (Option.some.inj h) hP hK hD hS
theorem hd_X9_put : yX9_put.cls ≠ "java/lang/invoke/MethodHandle" ∧ yX9_put.cls ≠ "java/lang/invoke/VarHandle" ∧ (parseMethodDescriptor yX9_put.desc).map (fun d => d.parameters.length) = some 2 := by decide +kernel
set_option maxRecDepth 20000 in
theorem in_X9_put_X9 : ∀ w ∈ u_ws RX9 TX9 28, w ∈ wsX9_put := by decide +kernel
set_option maxRecDepth 20000 in
theorem lk_X9_put_0 : Cond.fieldLink RX9 25 "TwoHousesOneChildModel" "plan" "[I" ∈ wsX9_put := by decide +kernel
set_option maxHeartbeats 4000000 in
set_option maxRecDepth 100000 in
theorem ct_X9_put (l : Launch) (dC : Nat → ClassId) (dI : Nat → Nat → Nat) (cI cJ cB cZ : ClassId) (a_t a_t_plan a_t_read a_t_papers a_t_paperMany a_t_text a_t_whose a_t_wantNight a_t_wantHouse a_t_wantWeight a_t_ahead a_t_best a_t_fines a_t_times a_t_isKept a_t_keptPlan a_t_keptFines a_t_keptTimes : Nat) (t_readMany : Int32) (t_length : Int32) (t_at : Int32) (t_faultAt : Int32) (t_year : Int32) (t_wordsNow : Int32) (t_mendChanges : Int32) (t_most : Int32) (t_above : Int32) (t_handing : Int32) (t_wants : Int32) (t_plan : (Nat → Int32)) (p1 : Int32) (p2 : Int32) (rr : Int32) (o1 : (Nat → Int32)) (h : fn_X9_put t_plan p1 p2 = some (rr, o1)) : zz_M l yX9_put wsX9_put ({ frames := 2, cells := 0, slots := 0, locals := 45 }) (dC, dI) (zz_T cI cJ cB cZ) [.ref a_t, .int p1, .int p2] [(a_t, .inr (8, [.ref a_t_read, .int t_readMany, .ref a_t_papers, .ref a_t_paperMany, .ref a_t_text, .int t_length, .int t_at, .int t_faultAt, .int t_year, .int t_wordsNow, .ref a_t_whose, .int t_mendChanges, .ref a_t_plan, .int t_most, .int t_above, .int t_handing, .int t_wants, .ref a_t_wantNight, .ref a_t_wantHouse, .ref a_t_wantWeight, .ref a_t_ahead, .ref a_t_best, .ref a_t_fines, .ref a_t_times, .ref a_t_isKept, .ref a_t_keptPlan, .ref a_t_keptFines, .ref a_t_keptTimes])), (a_t_plan, .inl (cI, 56, .inl t_plan))] (zz_QI (dC, dI) (zz_T cI cJ cB cZ) (rr, o1) (fun (u : (Nat → Int32)) => [(a_t, .inr (8, [.ref a_t_read, .int t_readMany, .ref a_t_papers, .ref a_t_paperMany, .ref a_t_text, .int t_length, .int t_at, .int t_faultAt, .int t_year, .int t_wordsNow, .ref a_t_whose, .int t_mendChanges, .ref a_t_plan, .int t_most, .int t_above, .int t_handing, .int t_wants, .ref a_t_wantNight, .ref a_t_wantHouse, .ref a_t_wantWeight, .ref a_t_ahead, .ref a_t_best, .ref a_t_fines, .ref a_t_times, .ref a_t_isKept, .ref a_t_keptPlan, .ref a_t_keptFines, .ref a_t_keptTimes])), (a_t_plan, .inl (cI, 56, .inl u))])) := by
  unfold fn_X9_put at h
  refine zz_of (by decide) rfl (Nat.le_of_ble_eq_true rfl) ?_
  intro p e s m below meth c A ls hx hb hr hml hts hown hlocks hA hS hP hK hD hl
  have hown : s.vm.findClass RX9 = some m.cls := hown
  have hl : lv_has ls 4 [(0, .ref a_t), (1, .int p1), (2, .int p2)] := hl
  refine lv_iload_n hx hb dX9_put_0 rfl (lv_at hl 1 rfl) ?_
  obtain ⟨x1, u2, he3, h⟩ := zz_b2E h
  refine zz_PI (As := [.int p1]) (rest := []) ⟨hx, hb, hml, hown, hts⟩ (ct_X9_isNight l dC dI cI cJ cB cZ p1 x1 u2 he3) gX9_put_X9_isNight hd_X9_isNight rfl rfl rfl ⟨Nat.le_of_ble_eq_true rfl, Nat.le_of_ble_eq_true rfl⟩ ⟨Nat.le_of_ble_eq_true rfl, Nat.le_of_ble_eq_true rfl⟩ rfl rfl (Nat.le_of_ble_eq_true rfl) dX9_put_1 hl.1 hP hK hS hA (fun H locs hP hS => ?_)
  refine lv_if_eq (tgt := 14) hx hb dX9_put_4 (by decide) (fun c4 => ?_) (fun c4 => ?_)
  · have h := zz_if c4 h
    refine lv_iconst (v := (-1)) hx hb dX9_put_14 (by decide) ?_
    exact zz_iret t_plan hx hb hr hlocks dX9_put_15 (Option.some.inj h) hP hK hD hS
  · have h := zz_ifn c4 h
    refine lv_iload_n hx hb dX9_put_7 rfl (lv_at hl 2 rfl) ?_
    obtain ⟨x5, u6, he7, h⟩ := zz_b2E h
    refine zz_PI (As := [.int p2]) (rest := []) ⟨hx, hb, hml, hown, hts⟩ (ct_X9_isHouse l dC dI cI cJ cB cZ p2 x5 u6 he7) gX9_put_X9_isHouse hd_X9_isHouse rfl rfl rfl ⟨Nat.le_of_ble_eq_true rfl, Nat.le_of_ble_eq_true rfl⟩ ⟨Nat.le_of_ble_eq_true rfl, Nat.le_of_ble_eq_true rfl⟩ rfl rfl (Nat.le_of_ble_eq_true rfl) dX9_put_8 hl.1 hP hK hS hA (fun H locs hP hS => ?_)
    refine lv_if_ne (tgt := 16) hx hb dX9_put_11 (by decide) (fun c8 => ?_) (fun c8 => ?_)
    · have h := zz_ifn c8 h
      refine lv_aload_n hx hb dX9_put_16 rfl (lv_at hl 0 rfl) ?_
      refine va_get (ci := 8) (v := .ref a_t_plan) (C := RX9) (T := TX9) (N := 28) hx hb hts in_X9_put_X9 hown hK hP 0 rfl rfl 12 (by decide) (hts _ lk_X9_put_0) (fun _ h9 => h9) rfl dX9_put_17 ?_
      refine lv_iload_n hx hb dX9_put_20 rfl (lv_at hl 1 rfl) ?_
      obtain ⟨hi9, h⟩ := zz_chkE h
      refine va_iald hx hb hK hP 1 0 rfl rfl hi9 dX9_put_21 ?_
      refine lv_topi (fun x10 ex10 => ?_)
      have h := zz_nmE ex10 h
      refine lv_istore_n (lv' := [(3, .int x10), (0, .ref a_t), (1, .int p1), (2, .int p2)]) hx hb dX9_put_22 rfl hl (by decide) rfl (fun ls hl => ?_)
      refine lv_aload_n hx hb dX9_put_23 rfl (lv_at hl 1 rfl) ?_
      refine va_get (ci := 8) (v := .ref a_t_plan) (C := RX9) (T := TX9) (N := 28) hx hb hts in_X9_put_X9 hown hK hP 0 rfl rfl 12 (by decide) (hts _ lk_X9_put_0) (fun _ h9 => h9) rfl dX9_put_24 ?_
      refine lv_iload_n hx hb dX9_put_27 rfl (lv_at hl 2 rfl) ?_
      refine lv_iload_n hx hb dX9_put_28 rfl (lv_at hl 3 rfl) ?_
      obtain ⟨hi11, h⟩ := zz_chkE h
      refine zz_iast hx hb hK hP hD hS 1 0 rfl rfl hi11 dX9_put_29 (fun g12 => [(a_t, .inr (8, [.ref a_t_read, .int t_readMany, .ref a_t_papers, .ref a_t_paperMany, .ref a_t_text, .int t_length, .int t_at, .int t_faultAt, .int t_year, .int t_wordsNow, .ref a_t_whose, .int t_mendChanges, .ref a_t_plan, .int t_most, .int t_above, .int t_handing, .int t_wants, .ref a_t_wantNight, .ref a_t_wantHouse, .ref a_t_wantWeight, .ref a_t_ahead, .ref a_t_best, .ref a_t_fines, .ref a_t_times, .ref a_t_isKept, .ref a_t_keptPlan, .ref a_t_keptFines, .ref a_t_keptTimes])), (a_t_plan, .inl (cI, 56, .inl g12))]) (fun _ => rfl) (fun g12 H locs eg12 hP hD hS => ?_)
      have h := zz_nmE eg12 h
      refine lv_iload_n hx hb dX9_put_30 rfl (lv_at hl 0 rfl) ?_
      exact zz_iret g12 hx hb hr hlocks dX9_put_31 (Option.some.inj h) hP hK hD hS
    · have h := zz_if c8 h
      refine lv_iconst (v := (-1)) hx hb dX9_put_14 (by decide) ?_
      exact zz_iret t_plan hx hb hr hlocks dX9_put_15 (Option.some.inj h) hP hK hD hS
theorem hd_X9_at : yX9_at.cls ≠ "java/lang/invoke/MethodHandle" ∧ yX9_at.cls ≠ "java/lang/invoke/VarHandle" ∧ (parseMethodDescriptor yX9_at.desc).map (fun d => d.parameters.length) = some 1 := by decide +kernel
set_option maxRecDepth 20000 in
theorem in_X9_at_X9 : ∀ w ∈ u_ws RX9 TX9 28, w ∈ wsX9_at := by decide +kernel
set_option maxRecDepth 20000 in
theorem lk_X9_at_0 : Cond.fieldLink RX9 25 "TwoHousesOneChildModel" "plan" "[I" ∈ wsX9_at := by decide +kernel
set_option maxHeartbeats 4000000 in
set_option maxRecDepth 100000 in
theorem ct_X9_at (l : Launch) (dC : Nat → ClassId) (dI : Nat → Nat → Nat) (cI cJ cB cZ : ClassId) (a_t a_t_plan a_t_read a_t_papers a_t_paperMany a_t_text a_t_whose a_t_wantNight a_t_wantHouse a_t_wantWeight a_t_ahead a_t_best a_t_fines a_t_times a_t_isKept a_t_keptPlan a_t_keptFines a_t_keptTimes : Nat) (t_readMany : Int32) (t_length : Int32) (t_at : Int32) (t_faultAt : Int32) (t_year : Int32) (t_wordsNow : Int32) (t_mendChanges : Int32) (t_most : Int32) (t_above : Int32) (t_handing : Int32) (t_wants : Int32) (t_plan : (Nat → Int32)) (p1 : Int32) (rr : Int32) (u0 : Unit) (h : fn_X9_at t_plan p1 = some (rr, u0)) : zz_M l yX9_at wsX9_at ({ frames := 2, cells := 0, slots := 0, locals := 45 }) (dC, dI) (zz_T cI cJ cB cZ) [.ref a_t, .int p1] [(a_t, .inr (8, [.ref a_t_read, .int t_readMany, .ref a_t_papers, .ref a_t_paperMany, .ref a_t_text, .int t_length, .int t_at, .int t_faultAt, .int t_year, .int t_wordsNow, .ref a_t_whose, .int t_mendChanges, .ref a_t_plan, .int t_most, .int t_above, .int t_handing, .int t_wants, .ref a_t_wantNight, .ref a_t_wantHouse, .ref a_t_wantWeight, .ref a_t_ahead, .ref a_t_best, .ref a_t_fines, .ref a_t_times, .ref a_t_isKept, .ref a_t_keptPlan, .ref a_t_keptFines, .ref a_t_keptTimes])), (a_t_plan, .inl (cI, 56, .inl t_plan))] (zz_QI (dC, dI) (zz_T cI cJ cB cZ) (rr, u0) (fun (u : Unit) => [(a_t, .inr (8, [.ref a_t_read, .int t_readMany, .ref a_t_papers, .ref a_t_paperMany, .ref a_t_text, .int t_length, .int t_at, .int t_faultAt, .int t_year, .int t_wordsNow, .ref a_t_whose, .int t_mendChanges, .ref a_t_plan, .int t_most, .int t_above, .int t_handing, .int t_wants, .ref a_t_wantNight, .ref a_t_wantHouse, .ref a_t_wantWeight, .ref a_t_ahead, .ref a_t_best, .ref a_t_fines, .ref a_t_times, .ref a_t_isKept, .ref a_t_keptPlan, .ref a_t_keptFines, .ref a_t_keptTimes])), (a_t_plan, .inl (cI, 56, .inl t_plan))])) := by
  unfold fn_X9_at at h
  refine zz_of (by decide) rfl (Nat.le_of_ble_eq_true rfl) ?_
  intro p e s m below meth c A ls hx hb hr hml hts hown hlocks hA hS hP hK hD hl
  have hown : s.vm.findClass RX9 = some m.cls := hown
  have hl : lv_has ls 2 [(0, .ref a_t), (1, .int p1)] := hl
  refine lv_iload_n hx hb dX9_at_0 rfl (lv_at hl 1 rfl) ?_
  obtain ⟨x1, u2, he3, h⟩ := zz_b2E h
  refine zz_PI (As := [.int p1]) (rest := []) ⟨hx, hb, hml, hown, hts⟩ (ct_X9_isNight l dC dI cI cJ cB cZ p1 x1 u2 he3) gX9_at_X9_isNight hd_X9_isNight rfl rfl rfl ⟨Nat.le_of_ble_eq_true rfl, Nat.le_of_ble_eq_true rfl⟩ ⟨Nat.le_of_ble_eq_true rfl, Nat.le_of_ble_eq_true rfl⟩ rfl rfl (Nat.le_of_ble_eq_true rfl) dX9_at_1 hl.1 hP hK hS hA (fun H locs hP hS => ?_)
  refine lv_if_eq (tgt := 16) hx hb dX9_at_4 (by decide) (fun c4 => ?_) (fun c4 => ?_)
  · have h := zz_if c4 h
    refine lv_iconst (v := (-1)) hx hb dX9_at_16 (by decide) ?_
    exact zz_iret () hx hb hr hlocks dX9_at_17 (Option.some.inj h) hP hK hD hS
  · have h := zz_ifn c4 h
    refine lv_aload_n hx hb dX9_at_7 rfl (lv_at hl 0 rfl) ?_
    refine va_get (ci := 8) (v := .ref a_t_plan) (C := RX9) (T := TX9) (N := 28) hx hb hts in_X9_at_X9 hown hK hP 0 rfl rfl 12 (by decide) (hts _ lk_X9_at_0) (fun _ h9 => h9) rfl dX9_at_8 ?_
    refine lv_iload_n hx hb dX9_at_11 rfl (lv_at hl 1 rfl) ?_
    obtain ⟨hi5, h⟩ := zz_chkE h
    refine va_iald hx hb hK hP 1 0 rfl rfl hi5 dX9_at_12 ?_
    refine lv_goto (tgt := 17) hx hb dX9_at_13 (by decide) ?_
    exact zz_iret () hx hb hr hlocks dX9_at_17 (Option.some.inj h) hP hK hD hS
theorem hd_X9_judge : yX9_judge.cls ≠ "java/lang/invoke/MethodHandle" ∧ yX9_judge.cls ≠ "java/lang/invoke/VarHandle" ∧ (parseMethodDescriptor yX9_judge.desc).map (fun d => d.parameters.length) = some 0 := by decide +kernel
set_option maxRecDepth 20000 in
theorem in_X9_judge_X9 : ∀ w ∈ u_ws RX9 TX9 28, w ∈ wsX9_judge := by decide +kernel
set_option maxRecDepth 20000 in
theorem lk_X9_judge_0 : Cond.fieldLink RX9 22 "TwoHousesOneChildModel" "whose" "[I" ∈ wsX9_judge := by decide +kernel
set_option maxRecDepth 20000 in
theorem lk_X9_judge_1 : Cond.fieldLink RX9 25 "TwoHousesOneChildModel" "plan" "[I" ∈ wsX9_judge := by decide +kernel
set_option maxHeartbeats 4000000 in
set_option maxRecDepth 100000 in
theorem ct_X9_judge (l : Launch) (dC : Nat → ClassId) (dI : Nat → Nat → Nat) (cI cJ cB cZ : ClassId) (a_t a_t_paperMany a_t_papers a_t_plan a_t_whose a_t_read a_t_text a_t_wantNight a_t_wantHouse a_t_wantWeight a_t_ahead a_t_best a_t_fines a_t_times a_t_isKept a_t_keptPlan a_t_keptFines a_t_keptTimes : Nat) (t_readMany : Int32) (t_length : Int32) (t_at : Int32) (t_faultAt : Int32) (t_year : Int32) (t_wordsNow : Int32) (t_mendChanges : Int32) (t_most : Int32) (t_above : Int32) (t_handing : Int32) (t_wants : Int32) (t_paperMany : (Nat → Int32)) (t_papers : (Nat → Int32)) (t_plan : (Nat → Int32)) (t_whose : (Nat → Int32)) (rr : Int32) (o1 : Int32) (o2 : (Nat → Int32)) (h : fn_X9_judge t_year t_wordsNow t_paperMany t_papers t_plan t_whose = some (rr, o1, o2)) : zz_M l yX9_judge wsX9_judge ({ frames := 4, cells := 0, slots := 0, locals := 104 }) (dC, dI) (zz_T cI cJ cB cZ) [.ref a_t] [(a_t, .inr (8, [.ref a_t_read, .int t_readMany, .ref a_t_papers, .ref a_t_paperMany, .ref a_t_text, .int t_length, .int t_at, .int t_faultAt, .int t_year, .int t_wordsNow, .ref a_t_whose, .int t_mendChanges, .ref a_t_plan, .int t_most, .int t_above, .int t_handing, .int t_wants, .ref a_t_wantNight, .ref a_t_wantHouse, .ref a_t_wantWeight, .ref a_t_ahead, .ref a_t_best, .ref a_t_fines, .ref a_t_times, .ref a_t_isKept, .ref a_t_keptPlan, .ref a_t_keptFines, .ref a_t_keptTimes])), (a_t_paperMany, .inl (cI, 3, .inl t_paperMany)), (a_t_papers, .inl (cI, 180, .inl t_papers)), (a_t_plan, .inl (cI, 56, .inl t_plan)), (a_t_whose, .inl (cI, 56, .inl t_whose))] (zz_QI (dC, dI) (zz_T cI cJ cB cZ) (rr, o1, o2) (fun (u : Int32 × (Nat → Int32)) => [(a_t, .inr (8, [.ref a_t_read, .int t_readMany, .ref a_t_papers, .ref a_t_paperMany, .ref a_t_text, .int t_length, .int t_at, .int t_faultAt, .int t_year, .int u.1, .ref a_t_whose, .int t_mendChanges, .ref a_t_plan, .int t_most, .int t_above, .int t_handing, .int t_wants, .ref a_t_wantNight, .ref a_t_wantHouse, .ref a_t_wantWeight, .ref a_t_ahead, .ref a_t_best, .ref a_t_fines, .ref a_t_times, .ref a_t_isKept, .ref a_t_keptPlan, .ref a_t_keptFines, .ref a_t_keptTimes])), (a_t_paperMany, .inl (cI, 3, .inl t_paperMany)), (a_t_papers, .inl (cI, 180, .inl t_papers)), (a_t_plan, .inl (cI, 56, .inl t_plan)), (a_t_whose, .inl (cI, 56, .inl u.2))])) := by
  unfold fn_X9_judge at h
  refine zz_of (by decide) rfl (Nat.le_of_ble_eq_true rfl) ?_
  intro p e s m below meth c A ls hx hb hr hml hts hown hlocks hA hS hP hK hD hl
  have hown : s.vm.findClass RX9 = some m.cls := hown
  have hl : lv_has ls 2 [(0, .ref a_t)] := hl
  refine lv_aload_n hx hb dX9_judge_0 rfl (lv_at hl 0 rfl) ?_
  obtain ⟨x1, g2, he3, h⟩ := zz_b2E h
  refine zz_VV (q := (RX9, TX9, 28)) (As := []) (rest := []) (wr := [(a_t_plan, .inl (cI, 56, .inl t_plan))]) (wm := [(a_t, .inr (8, [.ref a_t_read, .int t_readMany, .ref a_t_papers, .ref a_t_paperMany, .ref a_t_text, .int t_length, .int t_at, .int t_faultAt, .int t_year, .int x1, .ref a_t_whose, .int t_mendChanges, .ref a_t_plan, .int t_most, .int t_above, .int t_handing, .int t_wants, .ref a_t_wantNight, .ref a_t_wantHouse, .ref a_t_wantWeight, .ref a_t_ahead, .ref a_t_best, .ref a_t_fines, .ref a_t_times, .ref a_t_isKept, .ref a_t_keptPlan, .ref a_t_keptFines, .ref a_t_keptTimes])), (a_t_paperMany, .inl (cI, 3, .inl t_paperMany)), (a_t_papers, .inl (cI, 180, .inl t_papers)), (a_t_plan, .inl (cI, 56, .inl t_plan)), (a_t_whose, .inl (cI, 56, .inl g2))]) ⟨hx, hb, hml, hown, hts⟩ (ct_X9_layWhose l dC dI cI cJ cB cZ a_t a_t_paperMany a_t_papers a_t_whose a_t_read a_t_text a_t_plan a_t_wantNight a_t_wantHouse a_t_wantWeight a_t_ahead a_t_best a_t_fines a_t_times a_t_isKept a_t_keptPlan a_t_keptFines a_t_keptTimes t_readMany t_length t_at t_faultAt t_year t_wordsNow t_mendChanges t_most t_above t_handing t_wants t_paperMany t_papers t_whose x1 g2 he3) gX9_judge_X9_layWhose hd_X9_layWhose rfl rfl rfl ⟨Nat.le_of_ble_eq_true rfl, Nat.le_of_ble_eq_true rfl⟩ ⟨Nat.le_of_ble_eq_true rfl, Nat.le_of_ble_eq_true rfl⟩ rfl rfl (Nat.le_of_ble_eq_true rfl) dX9_judge_1 hl.1 rfl (ci := 8) rfl (q0 := 0) rfl hP hK hD hS hA [0, 1, 2, 4] [3] [1, 2, 3, 0, 4] rfl rfl (by decide) (by decide) (by decide) (by decide) rfl (fun H locs hP hD hS => ?_)
  refine lv_iconst (v := 0) hx hb dX9_judge_4 (by decide) ?_
  refine lv_istore_n (lv' := [(1, .int 0), (0, .ref a_t)]) hx hb dX9_judge_5 rfl hl (by decide) rfl (fun ls hl => ?_)
  obtain ⟨z20, hit20, hz20⟩ := zz_mtE h
  refine zz_cut (fun V => ∀  (H : Heap) (locs : List Loc) (ls : Array Slot), fk_X9_judge_6 x1 g2  = some (rr, o1, o2) → va_P (dC, dI) vwCl [(a_t, .inr (8, [.ref a_t_read, .int t_readMany, .ref a_t_papers, .ref a_t_paperMany, .ref a_t_text, .int t_length, .int t_at, .int t_faultAt, .int t_year, .int x1, .ref a_t_whose, .int t_mendChanges, .ref a_t_plan, .int t_most, .int t_above, .int t_handing, .int t_wants, .ref a_t_wantNight, .ref a_t_wantHouse, .ref a_t_wantWeight, .ref a_t_ahead, .ref a_t_best, .ref a_t_fines, .ref a_t_times, .ref a_t_isKept, .ref a_t_keptPlan, .ref a_t_keptFines, .ref a_t_keptTimes])), (a_t_paperMany, .inl (cI, 3, .inl t_paperMany)), (a_t_papers, .inl (cI, 180, .inl t_papers)), (a_t_plan, .inl (cI, 56, .inl t_plan)), (a_t_whose, .inl (cI, 56, .inl g2))] H → va_D A [(a_t, .inr (8, [.ref a_t_read, .int t_readMany, .ref a_t_papers, .ref a_t_paperMany, .ref a_t_text, .int t_length, .int t_at, .int t_faultAt, .int t_year, .int x1, .ref a_t_whose, .int t_mendChanges, .ref a_t_plan, .int t_most, .int t_above, .int t_handing, .int t_wants, .ref a_t_wantNight, .ref a_t_wantHouse, .ref a_t_wantWeight, .ref a_t_ahead, .ref a_t_best, .ref a_t_fines, .ref a_t_times, .ref a_t_isKept, .ref a_t_keptPlan, .ref a_t_keptFines, .ref a_t_keptTimes])), (a_t_paperMany, .inl (cI, 3, .inl t_paperMany)), (a_t_papers, .inl (cI, 180, .inl t_papers)), (a_t_plan, .inl (cI, 56, .inl t_plan)), (a_t_whose, .inl (cI, 56, .inl g2))] → va_S A s.heap H locs → lv_has ls 2 [] → V H locs (F0 m 45 ls [])) ?_ (fun hE20 => ?_)
  · intro  H locs ls h hP hD hS hl
    unfold fk_X9_judge_6 at h
    refine lv_bipush (v := (-9)) hx hb dX9_judge_45 (by decide) ?_
    exact zz_iret (x1, g2) hx hb hr hlocks dX9_judge_47 (Option.some.inj h) hP hK hD hS
  refine zz_cut (fun V => ∀ (n : Nat) (x20 : Int32) (H : Heap) (locs : List Loc) (ls : Array Slot), zz_it (fun z => fb_X9_judge_6 x1 g2 t_plan z) n x20 = some z20 → va_P (dC, dI) vwCl [(a_t, .inr (8, [.ref a_t_read, .int t_readMany, .ref a_t_papers, .ref a_t_paperMany, .ref a_t_text, .int t_length, .int t_at, .int t_faultAt, .int t_year, .int x1, .ref a_t_whose, .int t_mendChanges, .ref a_t_plan, .int t_most, .int t_above, .int t_handing, .int t_wants, .ref a_t_wantNight, .ref a_t_wantHouse, .ref a_t_wantWeight, .ref a_t_ahead, .ref a_t_best, .ref a_t_fines, .ref a_t_times, .ref a_t_isKept, .ref a_t_keptPlan, .ref a_t_keptFines, .ref a_t_keptTimes])), (a_t_paperMany, .inl (cI, 3, .inl t_paperMany)), (a_t_papers, .inl (cI, 180, .inl t_papers)), (a_t_plan, .inl (cI, 56, .inl t_plan)), (a_t_whose, .inl (cI, 56, .inl g2))] H → va_D A [(a_t, .inr (8, [.ref a_t_read, .int t_readMany, .ref a_t_papers, .ref a_t_paperMany, .ref a_t_text, .int t_length, .int t_at, .int t_faultAt, .int t_year, .int x1, .ref a_t_whose, .int t_mendChanges, .ref a_t_plan, .int t_most, .int t_above, .int t_handing, .int t_wants, .ref a_t_wantNight, .ref a_t_wantHouse, .ref a_t_wantWeight, .ref a_t_ahead, .ref a_t_best, .ref a_t_fines, .ref a_t_times, .ref a_t_isKept, .ref a_t_keptPlan, .ref a_t_keptFines, .ref a_t_keptTimes])), (a_t_paperMany, .inl (cI, 3, .inl t_paperMany)), (a_t_papers, .inl (cI, 180, .inl t_papers)), (a_t_plan, .inl (cI, 56, .inl t_plan)), (a_t_whose, .inl (cI, 56, .inl g2))] → va_S A s.heap H locs → lv_has ls 2 [(0, .ref a_t), (1, .int x20)] → V H locs (F0 m 6 ls [])) ?_ (fun hL20 => ?_)
  · intro n
    induction n with
    | zero => intro x20 H locs ls hit20; exact (zz_it0 hit20).elim
    | succ n ih20 =>
      intro x20 H locs ls hit20 hP hD hS hl
      obtain ⟨y20, hb20, hy20⟩ := zz_itE hit20
      have hb20 : fb_X9_judge_6 x1 g2 t_plan x20 = some y20 := hb20
      unfold fb_X9_judge_6 at hb20
      refine lv_iload_n hx hb dX9_judge_6 rfl (lv_at hl 1 rfl) ?_
      refine lv_bipush (v := 56) hx hb dX9_judge_7 (by decide) ?_
      refine lv_icmp_ge (tgt := 45) hx hb dX9_judge_9 (by decide) (fun c21 => ?_) (fun c21 => ?_)
      · have hb20 := zz_if c21 hb20
        obtain rfl := Option.some.inj hb20
        obtain rfl := Option.some.inj hy20
        exact hE20  _ _ ls hz20 hP hD hS (lv_sub hl [] rfl)
      · have hb20 := zz_ifn c21 hb20
        refine lv_aload_n hx hb dX9_judge_12 rfl (lv_at hl 0 rfl) ?_
        refine va_get (ci := 8) (v := .ref a_t_whose) (C := RX9) (T := TX9) (N := 28) hx hb hts in_X9_judge_X9 hown hK hP 0 rfl rfl 10 (by decide) (hts _ lk_X9_judge_0) (fun _ h9 => h9) rfl dX9_judge_13 ?_
        refine lv_iload_n hx hb dX9_judge_16 rfl (lv_at hl 1 rfl) ?_
        obtain ⟨hi22, hb20⟩ := zz_chkE hb20
        refine va_iald hx hb hK hP 4 0 rfl rfl hi22 dX9_judge_17 ?_
        refine lv_iconst (v := 2) hx hb dX9_judge_18 (by decide) ?_
        refine lv_icmp_ge (tgt := 39) hx hb dX9_judge_19 (by decide) (fun c23 => ?_) (fun c23 => ?_)
        · have hb20 := zz_if c23 hb20
          obtain ⟨x24, ex24⟩ : ∃ z : Int32, z = x20 + 1 := ⟨_, rfl⟩
          have hb20 := zz_nmE ex24 hb20
          refine lv_iinc (v := x24) (lv' := [(1, .int x24), (0, .ref a_t)]) hx hb dX9_judge_39 hl (k := 1) rfl (by rw [ex24]; rfl) (by decide) rfl (fun ls hl => ?_)
          refine lv_goto (tgt := 6) hx hb dX9_judge_42 (by decide) ?_
          obtain rfl := Option.some.inj hb20
          exact ih20 x24 _ _ ls hy20 hP hD hS (lv_sub hl [1, 0] rfl)
        · have hb20 := zz_ifn c23 hb20
          refine lv_aload_n hx hb dX9_judge_22 rfl (lv_at hl 0 rfl) ?_
          refine va_get (ci := 8) (v := .ref a_t_whose) (C := RX9) (T := TX9) (N := 28) hx hb hts in_X9_judge_X9 hown hK hP 0 rfl rfl 10 (by decide) (hts _ lk_X9_judge_0) (fun _ h9 => h9) rfl dX9_judge_23 ?_
          refine lv_iload_n hx hb dX9_judge_26 rfl (lv_at hl 1 rfl) ?_
          obtain ⟨hi25, hb20⟩ := zz_chkE hb20
          refine va_iald hx hb hK hP 4 0 rfl rfl hi25 dX9_judge_27 ?_
          refine lv_aload_n hx hb dX9_judge_28 rfl (lv_at hl 0 rfl) ?_
          refine va_get (ci := 8) (v := .ref a_t_plan) (C := RX9) (T := TX9) (N := 28) hx hb hts in_X9_judge_X9 hown hK hP 0 rfl rfl 12 (by decide) (hts _ lk_X9_judge_1) (fun _ h9 => h9) rfl dX9_judge_29 ?_
          refine lv_iload_n hx hb dX9_judge_32 rfl (lv_at hl 1 rfl) ?_
          obtain ⟨hi26, hb20⟩ := zz_chkE hb20
          refine va_iald hx hb hK hP 3 0 rfl rfl hi26 dX9_judge_33 ?_
          refine lv_icmp_eq (tgt := 39) hx hb dX9_judge_34 (by decide) (fun c27 => ?_) (fun c27 => ?_)
          · have hb20 := zz_if c27 hb20
            obtain ⟨x28, ex28⟩ : ∃ z : Int32, z = x20 + 1 := ⟨_, rfl⟩
            have hb20 := zz_nmE ex28 hb20
            refine lv_iinc (v := x28) (lv' := [(1, .int x28), (0, .ref a_t)]) hx hb dX9_judge_39 hl (k := 1) rfl (by rw [ex28]; rfl) (by decide) rfl (fun ls hl => ?_)
            refine lv_goto (tgt := 6) hx hb dX9_judge_42 (by decide) ?_
            obtain rfl := Option.some.inj hb20
            exact ih20 x28 _ _ ls hy20 hP hD hS (lv_sub hl [1, 0] rfl)
          · have hb20 := zz_ifn c27 hb20
            refine lv_iload_n hx hb dX9_judge_37 rfl (lv_at hl 1 rfl) ?_
            obtain rfl := Option.some.inj hb20
            obtain rfl := Option.some.inj hy20
            exact zz_iret (x1, g2) hx hb hr hlocks dX9_judge_38 (Option.some.inj hz20) hP hK hD hS
  exact hL20 zz_fuel 0 _ _ ls hit20 hP hD hS (lv_sub hl [1, 0] rfl)
theorem hd_X9_counts : yX9_counts.cls ≠ "java/lang/invoke/MethodHandle" ∧ yX9_counts.cls ≠ "java/lang/invoke/VarHandle" ∧ (parseMethodDescriptor yX9_counts.desc).map (fun d => d.parameters.length) = some 1 := by decide +kernel
set_option maxRecDepth 20000 in
theorem in_X9_counts_X9 : ∀ w ∈ u_ws RX9 TX9 28, w ∈ wsX9_counts := by decide +kernel
set_option maxRecDepth 20000 in
theorem lk_X9_counts_0 : Cond.fieldLink RX9 25 "TwoHousesOneChildModel" "plan" "[I" ∈ wsX9_counts := by decide +kernel
set_option maxHeartbeats 4000000 in
set_option maxRecDepth 100000 in
theorem ct_X9_counts (l : Launch) (dC : Nat → ClassId) (dI : Nat → Nat → Nat) (cI cJ cB cZ : ClassId) (a_t a_t_plan a_t_read a_t_papers a_t_paperMany a_t_text a_t_whose a_t_wantNight a_t_wantHouse a_t_wantWeight a_t_ahead a_t_best a_t_fines a_t_times a_t_isKept a_t_keptPlan a_t_keptFines a_t_keptTimes : Nat) (t_readMany : Int32) (t_length : Int32) (t_at : Int32) (t_faultAt : Int32) (t_year : Int32) (t_wordsNow : Int32) (t_mendChanges : Int32) (t_most : Int32) (t_above : Int32) (t_handing : Int32) (t_wants : Int32) (t_plan : (Nat → Int32)) (p1 : Int32) (rr : Int32) (u0 : Unit) (h : fn_X9_counts t_plan p1 = some (rr, u0)) : zz_M l yX9_counts wsX9_counts ({ frames := 0, cells := 0, slots := 0, locals := 0 }) (dC, dI) (zz_T cI cJ cB cZ) [.ref a_t, .int p1] [(a_t, .inr (8, [.ref a_t_read, .int t_readMany, .ref a_t_papers, .ref a_t_paperMany, .ref a_t_text, .int t_length, .int t_at, .int t_faultAt, .int t_year, .int t_wordsNow, .ref a_t_whose, .int t_mendChanges, .ref a_t_plan, .int t_most, .int t_above, .int t_handing, .int t_wants, .ref a_t_wantNight, .ref a_t_wantHouse, .ref a_t_wantWeight, .ref a_t_ahead, .ref a_t_best, .ref a_t_fines, .ref a_t_times, .ref a_t_isKept, .ref a_t_keptPlan, .ref a_t_keptFines, .ref a_t_keptTimes])), (a_t_plan, .inl (cI, 56, .inl t_plan))] (zz_QI (dC, dI) (zz_T cI cJ cB cZ) (rr, u0) (fun (u : Unit) => [(a_t, .inr (8, [.ref a_t_read, .int t_readMany, .ref a_t_papers, .ref a_t_paperMany, .ref a_t_text, .int t_length, .int t_at, .int t_faultAt, .int t_year, .int t_wordsNow, .ref a_t_whose, .int t_mendChanges, .ref a_t_plan, .int t_most, .int t_above, .int t_handing, .int t_wants, .ref a_t_wantNight, .ref a_t_wantHouse, .ref a_t_wantWeight, .ref a_t_ahead, .ref a_t_best, .ref a_t_fines, .ref a_t_times, .ref a_t_isKept, .ref a_t_keptPlan, .ref a_t_keptFines, .ref a_t_keptTimes])), (a_t_plan, .inl (cI, 56, .inl t_plan))])) := by
  unfold fn_X9_counts at h
  refine zz_of (by decide) rfl (Nat.le_of_ble_eq_true rfl) ?_
  intro p e s m below meth c A ls hx hb hr hml hts hown hlocks hA hS hP hK hD hl
  have hown : s.vm.findClass RX9 = some m.cls := hown
  have hl : lv_has ls 9 [(0, .ref a_t), (1, .int p1)] := hl
  refine lv_iconst (v := 0) hx hb dX9_counts_0 (by decide) ?_
  refine lv_istore_n (lv' := [(2, .int 0), (0, .ref a_t), (1, .int p1)]) hx hb dX9_counts_1 rfl hl (by decide) rfl (fun ls hl => ?_)
  refine lv_iconst (v := 0) hx hb dX9_counts_2 (by decide) ?_
  refine lv_istore_n (lv' := [(3, .int 0), (2, .int 0), (0, .ref a_t), (1, .int p1)]) hx hb dX9_counts_3 rfl hl (by decide) rfl (fun ls hl => ?_)
  refine lv_iconst (v := 0) hx hb dX9_counts_4 (by decide) ?_
  refine lv_istore (lv' := [(4, .int 0), (3, .int 0), (2, .int 0), (0, .ref a_t), (1, .int p1)]) hx hb dX9_counts_5 hl (by decide) rfl (fun ls hl => ?_)
  refine lv_iconst (v := 0) hx hb dX9_counts_7 (by decide) ?_
  refine lv_istore (lv' := [(5, .int 0), (4, .int 0), (3, .int 0), (2, .int 0), (0, .ref a_t), (1, .int p1)]) hx hb dX9_counts_8 hl (by decide) rfl (fun ls hl => ?_)
  refine lv_iconst (v := 0) hx hb dX9_counts_10 (by decide) ?_
  refine lv_istore (lv' := [(6, .int 0), (5, .int 0), (4, .int 0), (3, .int 0), (2, .int 0), (0, .ref a_t), (1, .int p1)]) hx hb dX9_counts_11 hl (by decide) rfl (fun ls hl => ?_)
  refine lv_iconst (v := 0) hx hb dX9_counts_13 (by decide) ?_
  refine lv_istore (lv' := [(7, .int 0), (6, .int 0), (5, .int 0), (4, .int 0), (3, .int 0), (2, .int 0), (0, .ref a_t), (1, .int p1)]) hx hb dX9_counts_14 hl (by decide) rfl (fun ls hl => ?_)
  obtain ⟨x71, x72, x73, x74, hit70, h⟩ := zz_b4E h
  refine zz_cut (fun V => ∀ (H : Heap) (locs : List Loc) (ls : Array Slot), va_P (dC, dI) vwCl [(a_t, .inr (8, [.ref a_t_read, .int t_readMany, .ref a_t_papers, .ref a_t_paperMany, .ref a_t_text, .int t_length, .int t_at, .int t_faultAt, .int t_year, .int t_wordsNow, .ref a_t_whose, .int t_mendChanges, .ref a_t_plan, .int t_most, .int t_above, .int t_handing, .int t_wants, .ref a_t_wantNight, .ref a_t_wantHouse, .ref a_t_wantWeight, .ref a_t_ahead, .ref a_t_best, .ref a_t_fines, .ref a_t_times, .ref a_t_isKept, .ref a_t_keptPlan, .ref a_t_keptFines, .ref a_t_keptTimes])), (a_t_plan, .inl (cI, 56, .inl t_plan))] H → va_D A [(a_t, .inr (8, [.ref a_t_read, .int t_readMany, .ref a_t_papers, .ref a_t_paperMany, .ref a_t_text, .int t_length, .int t_at, .int t_faultAt, .int t_year, .int t_wordsNow, .ref a_t_whose, .int t_mendChanges, .ref a_t_plan, .int t_most, .int t_above, .int t_handing, .int t_wants, .ref a_t_wantNight, .ref a_t_wantHouse, .ref a_t_wantWeight, .ref a_t_ahead, .ref a_t_best, .ref a_t_fines, .ref a_t_times, .ref a_t_isKept, .ref a_t_keptPlan, .ref a_t_keptFines, .ref a_t_keptTimes])), (a_t_plan, .inl (cI, 56, .inl t_plan))] → va_S A s.heap H locs → lv_has ls 9 [(1, .int p1), (2, .int x71), (3, .int x72), (5, .int x73), (6, .int x74)] → V H locs (F0 m 151 ls [])) ?_ (fun hE70 => ?_)
  · intro H locs ls hP hD hS hl
    refine lv_iload_n hx hb dX9_counts_151 rfl (lv_at hl 0 rfl) ?_
    by_cases c75_0 : p1 = 0
    · have h := zz_if c75_0 h
      refine lv_tableIn (tgt := 188) hx hb dX9_counts_152 (by rw [c75_0]; decide) (by rw [c75_0]; decide) (off := 36) (by rw [c75_0]; rfl) (by decide) ?_
      refine lv_bipush (v := 56) hx hb dX9_counts_188 (by decide) ?_
      refine lv_iload_n hx hb dX9_counts_190 rfl (lv_at hl 1 rfl) ?_
      refine lv_isub hx hb dX9_counts_191 ?_
      exact zz_iret () hx hb hr hlocks dX9_counts_192 (Option.some.inj h) hP hK hD hS
    have h := zz_ifn c75_0 h
    by_cases c75_1 : p1 = 1
    · have h := zz_if c75_1 h
      refine lv_tableIn (tgt := 193) hx hb dX9_counts_152 (by rw [c75_1]; decide) (by rw [c75_1]; decide) (off := 41) (by rw [c75_1]; rfl) (by decide) ?_
      refine lv_iload_n hx hb dX9_counts_193 rfl (lv_at hl 1 rfl) ?_
      exact zz_iret () hx hb hr hlocks dX9_counts_194 (Option.some.inj h) hP hK hD hS
    have h := zz_ifn c75_1 h
    by_cases c75_2 : p1 = 2
    · have h := zz_if c75_2 h
      refine lv_tableIn (tgt := 195) hx hb dX9_counts_152 (by rw [c75_2]; decide) (by rw [c75_2]; decide) (off := 43) (by rw [c75_2]; rfl) (by decide) ?_
      refine lv_iload_n hx hb dX9_counts_195 rfl (lv_at hl 2 rfl) ?_
      exact zz_iret () hx hb hr hlocks dX9_counts_196 (Option.some.inj h) hP hK hD hS
    have h := zz_ifn c75_2 h
    by_cases c75_3 : p1 = 3
    · have h := zz_if c75_3 h
      refine lv_tableIn (tgt := 197) hx hb dX9_counts_152 (by rw [c75_3]; decide) (by rw [c75_3]; decide) (off := 45) (by rw [c75_3]; rfl) (by decide) ?_
      refine lv_iload hx hb dX9_counts_197 (lv_at hl 3 rfl) ?_
      exact zz_iret () hx hb hr hlocks dX9_counts_199 (Option.some.inj h) hP hK hD hS
    have h := zz_ifn c75_3 h
    by_cases c75_4 : p1 = 4
    · have h := zz_if c75_4 h
      refine lv_tableIn (tgt := 200) hx hb dX9_counts_152 (by rw [c75_4]; decide) (by rw [c75_4]; decide) (off := 48) (by rw [c75_4]; rfl) (by decide) ?_
      refine lv_iload hx hb dX9_counts_200 (lv_at hl 4 rfl) ?_
      exact zz_iret () hx hb hr hlocks dX9_counts_202 (Option.some.inj h) hP hK hD hS
    have h := zz_ifn c75_4 h
    have nc75_0 := zz_ne (k := 0) rfl c75_0
    have nc75_1 := zz_ne (k := 1) rfl c75_1
    have nc75_2 := zz_ne (k := 2) rfl c75_2
    have nc75_3 := zz_ne (k := 3) rfl c75_3
    have nc75_4 := zz_ne (k := 4) rfl c75_4
    refine lv_tableOut (tgt := 203) hx hb dX9_counts_152 (by omega) (by decide) ?_
    refine lv_bipush (v := (-2)) hx hb dX9_counts_203 (by decide) ?_
    exact zz_iret () hx hb hr hlocks dX9_counts_205 (Option.some.inj h) hP hK hD hS
  refine zz_cut (fun V => ∀ (n : Nat) (x65 : Int32) (x66 : Int32) (x67 : Int32) (x68 : Int32) (x69 : Int32) (x70 : Int32) (H : Heap) (locs : List Loc) (ls : Array Slot), zz_it (fun z => fb_X9_counts_16 t_plan z.1 z.2.1 z.2.2.1 z.2.2.2.1 z.2.2.2.2.1 z.2.2.2.2.2) n (x65, x66, x67, x68, x69, x70) = some (x71, x72, x73, x74) → va_P (dC, dI) vwCl [(a_t, .inr (8, [.ref a_t_read, .int t_readMany, .ref a_t_papers, .ref a_t_paperMany, .ref a_t_text, .int t_length, .int t_at, .int t_faultAt, .int t_year, .int t_wordsNow, .ref a_t_whose, .int t_mendChanges, .ref a_t_plan, .int t_most, .int t_above, .int t_handing, .int t_wants, .ref a_t_wantNight, .ref a_t_wantHouse, .ref a_t_wantWeight, .ref a_t_ahead, .ref a_t_best, .ref a_t_fines, .ref a_t_times, .ref a_t_isKept, .ref a_t_keptPlan, .ref a_t_keptFines, .ref a_t_keptTimes])), (a_t_plan, .inl (cI, 56, .inl t_plan))] H → va_D A [(a_t, .inr (8, [.ref a_t_read, .int t_readMany, .ref a_t_papers, .ref a_t_paperMany, .ref a_t_text, .int t_length, .int t_at, .int t_faultAt, .int t_year, .int t_wordsNow, .ref a_t_whose, .int t_mendChanges, .ref a_t_plan, .int t_most, .int t_above, .int t_handing, .int t_wants, .ref a_t_wantNight, .ref a_t_wantHouse, .ref a_t_wantWeight, .ref a_t_ahead, .ref a_t_best, .ref a_t_fines, .ref a_t_times, .ref a_t_isKept, .ref a_t_keptPlan, .ref a_t_keptFines, .ref a_t_keptTimes])), (a_t_plan, .inl (cI, 56, .inl t_plan))] → va_S A s.heap H locs → lv_has ls 9 [(0, .ref a_t), (1, .int p1), (2, .int x65), (3, .int x66), (4, .int x67), (5, .int x68), (6, .int x69), (7, .int x70)] → V H locs (F0 m 16 ls [])) ?_ (fun hL70 => ?_)
  · intro n
    induction n with
    | zero => intro x65 x66 x67 x68 x69 x70 H locs ls hit70; exact (zz_it0 hit70).elim
    | succ n ih70 =>
      intro x65 x66 x67 x68 x69 x70 H locs ls hit70 hP hD hS hl
      obtain ⟨y70, hb70, hy70⟩ := zz_itE hit70
      have hb70 : fb_X9_counts_16 t_plan x65 x66 x67 x68 x69 x70 = some y70 := hb70
      unfold fb_X9_counts_16 at hb70
      refine lv_iload hx hb dX9_counts_16 (lv_at hl 7 rfl) ?_
      refine lv_bipush (v := 56) hx hb dX9_counts_18 (by decide) ?_
      refine lv_icmp_ge (tgt := 151) hx hb dX9_counts_20 (by decide) (fun c76 => ?_) (fun c76 => ?_)
      · have hb70 := zz_if c76 hb70
        obtain rfl := Option.some.inj hb70
        have hy70 := Option.some.inj hy70
        cases hy70
        exact hE70 _ _ ls hP hD hS (lv_sub hl [1, 2, 3, 5, 6] rfl)
      · have hb70 := zz_ifn c76 hb70
        refine lv_iload_n hx hb dX9_counts_23 rfl (lv_at hl 2 rfl) ?_
        refine lv_aload_n hx hb dX9_counts_24 rfl (lv_at hl 0 rfl) ?_
        refine va_get (ci := 8) (v := .ref a_t_plan) (C := RX9) (T := TX9) (N := 28) hx hb hts in_X9_counts_X9 hown hK hP 0 rfl rfl 12 (by decide) (hts _ lk_X9_counts_0) (fun _ h9 => h9) rfl dX9_counts_25 ?_
        refine lv_iload hx hb dX9_counts_28 (lv_at hl 7 rfl) ?_
        obtain ⟨hi77, hb70⟩ := zz_chkE hb70
        refine va_iald hx hb hK hP 1 0 rfl rfl hi77 dX9_counts_30 ?_
        refine lv_iadd hx hb dX9_counts_31 ?_
        refine lv_topi (fun x78 ex78 => ?_)
        have hb70 := zz_nmE ex78 hb70
        refine lv_istore_n (lv' := [(2, .int x78), (0, .ref a_t), (1, .int p1), (3, .int x66), (4, .int x67), (5, .int x68), (6, .int x69), (7, .int x70)]) hx hb dX9_counts_32 rfl hl (by decide) rfl (fun ls hl => ?_)
        refine lv_iload hx hb dX9_counts_33 (lv_at hl 7 rfl) ?_
        obtain ⟨x83, hj84, hb70⟩ := zz_b1E hb70
        refine zz_cut (fun V => ∀ (H : Heap) (locs : List Loc) (ls : Array Slot), va_P (dC, dI) vwCl [(a_t, .inr (8, [.ref a_t_read, .int t_readMany, .ref a_t_papers, .ref a_t_paperMany, .ref a_t_text, .int t_length, .int t_at, .int t_faultAt, .int t_year, .int t_wordsNow, .ref a_t_whose, .int t_mendChanges, .ref a_t_plan, .int t_most, .int t_above, .int t_handing, .int t_wants, .ref a_t_wantNight, .ref a_t_wantHouse, .ref a_t_wantWeight, .ref a_t_ahead, .ref a_t_best, .ref a_t_fines, .ref a_t_times, .ref a_t_isKept, .ref a_t_keptPlan, .ref a_t_keptFines, .ref a_t_keptTimes])), (a_t_plan, .inl (cI, 56, .inl t_plan))] H → va_D A [(a_t, .inr (8, [.ref a_t_read, .int t_readMany, .ref a_t_papers, .ref a_t_paperMany, .ref a_t_text, .int t_length, .int t_at, .int t_faultAt, .int t_year, .int t_wordsNow, .ref a_t_whose, .int t_mendChanges, .ref a_t_plan, .int t_most, .int t_above, .int t_handing, .int t_wants, .ref a_t_wantNight, .ref a_t_wantHouse, .ref a_t_wantWeight, .ref a_t_ahead, .ref a_t_best, .ref a_t_fines, .ref a_t_times, .ref a_t_isKept, .ref a_t_keptPlan, .ref a_t_keptFines, .ref a_t_keptTimes])), (a_t_plan, .inl (cI, 56, .inl t_plan))] → va_S A s.heap H locs → lv_has ls 9 [(0, .ref a_t), (1, .int p1), (2, .int x78), (3, .int x66), (4, .int x67), (5, .int x68), (6, .int x69), (7, .int x70)] → V H locs (F0 m 62 ls [.int x83])) ?_ (fun hJ84 => ?_)
        · intro H locs ls hP hD hS hl
          refine lv_istore (lv' := [(8, .int x83), (0, .ref a_t), (1, .int p1), (2, .int x78), (3, .int x66), (4, .int x67), (5, .int x68), (6, .int x69), (7, .int x70)]) hx hb dX9_counts_62 hl (by decide) rfl (fun ls hl => ?_)
          refine lv_iload_n hx hb dX9_counts_64 rfl (lv_at hl 4 rfl) ?_
          refine lv_iload hx hb dX9_counts_65 (lv_at hl 0 rfl) ?_
          obtain ⟨x86, hj87, hb70⟩ := zz_b1E hb70
          refine zz_cut (fun V => ∀ (H : Heap) (locs : List Loc) (ls : Array Slot), va_P (dC, dI) vwCl [(a_t, .inr (8, [.ref a_t_read, .int t_readMany, .ref a_t_papers, .ref a_t_paperMany, .ref a_t_text, .int t_length, .int t_at, .int t_faultAt, .int t_year, .int t_wordsNow, .ref a_t_whose, .int t_mendChanges, .ref a_t_plan, .int t_most, .int t_above, .int t_handing, .int t_wants, .ref a_t_wantNight, .ref a_t_wantHouse, .ref a_t_wantWeight, .ref a_t_ahead, .ref a_t_best, .ref a_t_fines, .ref a_t_times, .ref a_t_isKept, .ref a_t_keptPlan, .ref a_t_keptFines, .ref a_t_keptTimes])), (a_t_plan, .inl (cI, 56, .inl t_plan))] H → va_D A [(a_t, .inr (8, [.ref a_t_read, .int t_readMany, .ref a_t_papers, .ref a_t_paperMany, .ref a_t_text, .int t_length, .int t_at, .int t_faultAt, .int t_year, .int t_wordsNow, .ref a_t_whose, .int t_mendChanges, .ref a_t_plan, .int t_most, .int t_above, .int t_handing, .int t_wants, .ref a_t_wantNight, .ref a_t_wantHouse, .ref a_t_wantWeight, .ref a_t_ahead, .ref a_t_best, .ref a_t_fines, .ref a_t_times, .ref a_t_isKept, .ref a_t_keptPlan, .ref a_t_keptFines, .ref a_t_keptTimes])), (a_t_plan, .inl (cI, 56, .inl t_plan))] → va_S A s.heap H locs → lv_has ls 9 [(0, .ref a_t), (1, .int p1), (2, .int x78), (4, .int x67), (5, .int x68), (6, .int x69), (7, .int x70), (8, .int x83)] → V H locs (F0 m 75 ls [.int x86, .int x66])) ?_ (fun hJ87 => ?_)
          · intro H locs ls hP hD hS hl
            refine lv_iadd hx hb dX9_counts_75 ?_
            refine lv_topi (fun x88 ex88 => ?_)
            have hb70 := zz_nmE ex88 hb70
            refine lv_istore_n (lv' := [(3, .int x88), (0, .ref a_t), (1, .int p1), (2, .int x78), (4, .int x67), (5, .int x68), (6, .int x69), (7, .int x70), (8, .int x83)]) hx hb dX9_counts_76 rfl hl (by decide) rfl (fun ls hl => ?_)
            refine lv_iload hx hb dX9_counts_77 (lv_at hl 8 rfl) ?_
            obtain ⟨x90, hj91, hb70⟩ := zz_b1E hb70
            refine zz_cut (fun V => ∀ (H : Heap) (locs : List Loc) (ls : Array Slot), va_P (dC, dI) vwCl [(a_t, .inr (8, [.ref a_t_read, .int t_readMany, .ref a_t_papers, .ref a_t_paperMany, .ref a_t_text, .int t_length, .int t_at, .int t_faultAt, .int t_year, .int t_wordsNow, .ref a_t_whose, .int t_mendChanges, .ref a_t_plan, .int t_most, .int t_above, .int t_handing, .int t_wants, .ref a_t_wantNight, .ref a_t_wantHouse, .ref a_t_wantWeight, .ref a_t_ahead, .ref a_t_best, .ref a_t_fines, .ref a_t_times, .ref a_t_isKept, .ref a_t_keptPlan, .ref a_t_keptFines, .ref a_t_keptTimes])), (a_t_plan, .inl (cI, 56, .inl t_plan))] H → va_D A [(a_t, .inr (8, [.ref a_t_read, .int t_readMany, .ref a_t_papers, .ref a_t_paperMany, .ref a_t_text, .int t_length, .int t_at, .int t_faultAt, .int t_year, .int t_wordsNow, .ref a_t_whose, .int t_mendChanges, .ref a_t_plan, .int t_most, .int t_above, .int t_handing, .int t_wants, .ref a_t_wantNight, .ref a_t_wantHouse, .ref a_t_wantWeight, .ref a_t_ahead, .ref a_t_best, .ref a_t_fines, .ref a_t_times, .ref a_t_isKept, .ref a_t_keptPlan, .ref a_t_keptFines, .ref a_t_keptTimes])), (a_t_plan, .inl (cI, 56, .inl t_plan))] → va_S A s.heap H locs → lv_has ls 9 [(0, .ref a_t), (1, .int p1), (2, .int x78), (3, .int x88), (5, .int x68), (6, .int x69), (7, .int x70)] → V H locs (F0 m 90 ls [.int x90])) ?_ (fun hJ91 => ?_)
            · intro H locs ls hP hD hS hl
              refine lv_istore (lv' := [(4, .int x90), (0, .ref a_t), (1, .int p1), (2, .int x78), (3, .int x88), (5, .int x68), (6, .int x69), (7, .int x70)]) hx hb dX9_counts_90 hl (by decide) rfl (fun ls hl => ?_)
              refine lv_aload_n hx hb dX9_counts_92 rfl (lv_at hl 1 rfl) ?_
              refine va_get (ci := 8) (v := .ref a_t_plan) (C := RX9) (T := TX9) (N := 28) hx hb hts in_X9_counts_X9 hown hK hP 0 rfl rfl 12 (by decide) (hts _ lk_X9_counts_0) (fun _ h9 => h9) rfl dX9_counts_93 ?_
              refine lv_iload hx hb dX9_counts_96 (lv_at hl 7 rfl) ?_
              obtain ⟨hi92, hb70⟩ := zz_chkE hb70
              refine va_iald hx hb hK hP 1 0 rfl rfl hi92 dX9_counts_98 ?_
              obtain ⟨x95, hj96, hb70⟩ := zz_b1E hb70
              refine zz_cut (fun V => ∀ (H : Heap) (locs : List Loc) (ls : Array Slot), va_P (dC, dI) vwCl [(a_t, .inr (8, [.ref a_t_read, .int t_readMany, .ref a_t_papers, .ref a_t_paperMany, .ref a_t_text, .int t_length, .int t_at, .int t_faultAt, .int t_year, .int t_wordsNow, .ref a_t_whose, .int t_mendChanges, .ref a_t_plan, .int t_most, .int t_above, .int t_handing, .int t_wants, .ref a_t_wantNight, .ref a_t_wantHouse, .ref a_t_wantWeight, .ref a_t_ahead, .ref a_t_best, .ref a_t_fines, .ref a_t_times, .ref a_t_isKept, .ref a_t_keptPlan, .ref a_t_keptFines, .ref a_t_keptTimes])), (a_t_plan, .inl (cI, 56, .inl t_plan))] H → va_D A [(a_t, .inr (8, [.ref a_t_read, .int t_readMany, .ref a_t_papers, .ref a_t_paperMany, .ref a_t_text, .int t_length, .int t_at, .int t_faultAt, .int t_year, .int t_wordsNow, .ref a_t_whose, .int t_mendChanges, .ref a_t_plan, .int t_most, .int t_above, .int t_handing, .int t_wants, .ref a_t_wantNight, .ref a_t_wantHouse, .ref a_t_wantWeight, .ref a_t_ahead, .ref a_t_best, .ref a_t_fines, .ref a_t_times, .ref a_t_isKept, .ref a_t_keptPlan, .ref a_t_keptFines, .ref a_t_keptTimes])), (a_t_plan, .inl (cI, 56, .inl t_plan))] → va_S A s.heap H locs → lv_has ls 9 [(0, .ref a_t), (1, .int p1), (2, .int x78), (3, .int x88), (4, .int x90), (6, .int x69), (7, .int x70)] → V H locs (F0 m 116 ls [.int x95])) ?_ (fun hJ96 => ?_)
              · intro H locs ls hP hD hS hl
                refine lv_istore (lv' := [(5, .int x95), (0, .ref a_t), (1, .int p1), (2, .int x78), (3, .int x88), (4, .int x90), (6, .int x69), (7, .int x70)]) hx hb dX9_counts_116 hl (by decide) rfl (fun ls hl => ?_)
                refine lv_aload_n hx hb dX9_counts_118 rfl (lv_at hl 1 rfl) ?_
                refine va_get (ci := 8) (v := .ref a_t_plan) (C := RX9) (T := TX9) (N := 28) hx hb hts in_X9_counts_X9 hown hK hP 0 rfl rfl 12 (by decide) (hts _ lk_X9_counts_0) (fun _ h9 => h9) rfl dX9_counts_119 ?_
                refine lv_iload hx hb dX9_counts_122 (lv_at hl 7 rfl) ?_
                obtain ⟨hi97, hb70⟩ := zz_chkE hb70
                refine va_iald hx hb hK hP 1 0 rfl rfl hi97 dX9_counts_124 ?_
                refine lv_iconst (v := 1) hx hb dX9_counts_125 (by decide) ?_
                refine lv_icmp_ne (tgt := 141) hx hb dX9_counts_126 (by decide) (fun c98 => ?_) (fun c98 => ?_)
                · have hb70 := zz_ifn c98 hb70
                  refine lv_iload hx hb dX9_counts_141 (lv_at hl 6 rfl) ?_
                  refine lv_istore (lv' := [(6, .int x69), (5, .int x95), (0, .ref a_t), (1, .int p1), (2, .int x78), (3, .int x88), (4, .int x90), (7, .int x70)]) hx hb dX9_counts_143 hl (by decide) rfl (fun ls hl => ?_)
                  obtain ⟨x99, ex99⟩ : ∃ z : Int32, z = x70 + 1 := ⟨_, rfl⟩
                  have hb70 := zz_nmE ex99 hb70
                  refine lv_iinc (v := x99) (lv' := [(7, .int x99), (6, .int x69), (5, .int x95), (0, .ref a_t), (1, .int p1), (2, .int x78), (3, .int x88), (4, .int x90)]) hx hb dX9_counts_145 hl (k := 7) rfl (by rw [ex99]; rfl) (by decide) rfl (fun ls hl => ?_)
                  refine lv_goto (tgt := 16) hx hb dX9_counts_148 (by decide) ?_
                  obtain rfl := Option.some.inj hb70
                  exact ih70 x78 x88 x90 x95 x69 x99 _ _ ls hy70 hP hD hS (lv_sub hl [3, 4, 5, 6, 7, 2, 1, 0] rfl)
                · have hb70 := zz_if c98 hb70
                  refine lv_iload hx hb dX9_counts_129 (lv_at hl 5 rfl) ?_
                  refine lv_iload hx hb dX9_counts_131 (lv_at hl 6 rfl) ?_
                  refine lv_icmp_le (tgt := 141) hx hb dX9_counts_133 (by decide) (fun c100 => ?_) (fun c100 => ?_)
                  · have hb70 := zz_if c100 hb70
                    refine lv_iload hx hb dX9_counts_141 (lv_at hl 6 rfl) ?_
                    refine lv_istore (lv' := [(6, .int x69), (5, .int x95), (0, .ref a_t), (1, .int p1), (2, .int x78), (3, .int x88), (4, .int x90), (7, .int x70)]) hx hb dX9_counts_143 hl (by decide) rfl (fun ls hl => ?_)
                    obtain ⟨x101, ex101⟩ : ∃ z : Int32, z = x70 + 1 := ⟨_, rfl⟩
                    have hb70 := zz_nmE ex101 hb70
                    refine lv_iinc (v := x101) (lv' := [(7, .int x101), (6, .int x69), (5, .int x95), (0, .ref a_t), (1, .int p1), (2, .int x78), (3, .int x88), (4, .int x90)]) hx hb dX9_counts_145 hl (k := 7) rfl (by rw [ex101]; rfl) (by decide) rfl (fun ls hl => ?_)
                    refine lv_goto (tgt := 16) hx hb dX9_counts_148 (by decide) ?_
                    obtain rfl := Option.some.inj hb70
                    exact ih70 x78 x88 x90 x95 x69 x101 _ _ ls hy70 hP hD hS (lv_sub hl [3, 4, 5, 6, 7, 2, 1, 0] rfl)
                  · have hb70 := zz_ifn c100 hb70
                    refine lv_iload hx hb dX9_counts_136 (lv_at hl 5 rfl) ?_
                    refine lv_goto (tgt := 143) hx hb dX9_counts_138 (by decide) ?_
                    refine lv_istore (lv' := [(6, .int x90), (5, .int x95), (0, .ref a_t), (1, .int p1), (2, .int x78), (3, .int x88), (4, .int x90), (7, .int x70)]) hx hb dX9_counts_143 hl (by decide) rfl (fun ls hl => ?_)
                    obtain ⟨x102, ex102⟩ : ∃ z : Int32, z = x70 + 1 := ⟨_, rfl⟩
                    have hb70 := zz_nmE ex102 hb70
                    refine lv_iinc (v := x102) (lv' := [(7, .int x102), (6, .int x90), (5, .int x95), (0, .ref a_t), (1, .int p1), (2, .int x78), (3, .int x88), (4, .int x90)]) hx hb dX9_counts_145 hl (k := 7) rfl (by rw [ex102]; rfl) (by decide) rfl (fun ls hl => ?_)
                    refine lv_goto (tgt := 16) hx hb dX9_counts_148 (by decide) ?_
                    obtain rfl := Option.some.inj hb70
                    exact ih70 x78 x88 x90 x95 x90 x102 _ _ ls hy70 hP hD hS (lv_sub hl [3, 4, 5, 6, 7, 2, 1, 0] rfl)
              refine lv_if_ne (tgt := 114) hx hb dX9_counts_99 (by decide) (fun c93 => ?_) (fun c93 => ?_)
              · have hj96 := zz_ifn c93 hj96
                refine lv_iload hx hb dX9_counts_114 (lv_at hl 5 rfl) ?_
                cases hj96
                exact hJ96 _ _ ls hP hD hS (lv_sub hl [1, 2, 3, 4, 0, 6, 7] rfl)
              · have hj96 := zz_if c93 hj96
                refine lv_iload hx hb dX9_counts_102 (lv_at hl 0 rfl) ?_
                refine lv_iload hx hb dX9_counts_104 (lv_at hl 5 rfl) ?_
                refine lv_icmp_le (tgt := 114) hx hb dX9_counts_106 (by decide) (fun c103 => ?_) (fun c103 => ?_)
                · have hj96 := zz_if c103 hj96
                  refine lv_iload hx hb dX9_counts_114 (lv_at hl 5 rfl) ?_
                  cases hj96
                  exact hJ96 _ _ ls hP hD hS (lv_sub hl [1, 2, 3, 4, 0, 6, 7] rfl)
                · have hj96 := zz_ifn c103 hj96
                  refine lv_iload hx hb dX9_counts_109 (lv_at hl 0 rfl) ?_
                  refine lv_goto (tgt := 116) hx hb dX9_counts_111 (by decide) ?_
                  cases hj96
                  exact hJ96 _ _ ls hP hD hS (lv_sub hl [1, 2, 3, 4, 0, 6, 7] rfl)
            refine lv_if_eq (tgt := 86) hx hb dX9_counts_79 (by decide) (fun c89 => ?_) (fun c89 => ?_)
            · have hj91 := zz_if c89 hj91
              refine lv_iload hx hb dX9_counts_86 (lv_at hl 4 rfl) ?_
              refine lv_iconst (v := 1) hx hb dX9_counts_88 (by decide) ?_
              refine lv_iadd hx hb dX9_counts_89 ?_
              cases hj91
              exact hJ91 _ _ ls hP hD hS (lv_sub hl [1, 2, 3, 0, 5, 6, 7] rfl)
            · have hj91 := zz_ifn c89 hj91
              refine lv_iconst (v := 1) hx hb dX9_counts_82 (by decide) ?_
              refine lv_goto (tgt := 90) hx hb dX9_counts_83 (by decide) ?_
              cases hj91
              exact hJ91 _ _ ls hP hD hS (lv_sub hl [1, 2, 3, 0, 5, 6, 7] rfl)
          refine lv_if_eq (tgt := 74) hx hb dX9_counts_67 (by decide) (fun c85 => ?_) (fun c85 => ?_)
          · have hj87 := zz_if c85 hj87
            refine lv_iconst (v := 0) hx hb dX9_counts_74 (by decide) ?_
            cases hj87
            exact hJ87 _ _ ls hP hD hS (lv_sub hl [1, 2, 3, 5, 6, 7, 8, 0] rfl)
          · have hj87 := zz_ifn c85 hj87
            refine lv_iconst (v := 1) hx hb dX9_counts_70 (by decide) ?_
            refine lv_goto (tgt := 75) hx hb dX9_counts_71 (by decide) ?_
            cases hj87
            exact hJ87 _ _ ls hP hD hS (lv_sub hl [1, 2, 3, 5, 6, 7, 8, 0] rfl)
        refine lv_if_le (tgt := 61) hx hb dX9_counts_35 (by decide) (fun c79 => ?_) (fun c79 => ?_)
        · have hj84 := zz_if c79 hj84
          refine lv_iconst (v := 0) hx hb dX9_counts_61 (by decide) ?_
          cases hj84
          exact hJ84 _ _ ls hP hD hS (lv_sub hl [1, 2, 0, 3, 4, 5, 6, 7] rfl)
        · have hj84 := zz_ifn c79 hj84
          refine lv_aload_n hx hb dX9_counts_38 rfl (lv_at hl 1 rfl) ?_
          refine va_get (ci := 8) (v := .ref a_t_plan) (C := RX9) (T := TX9) (N := 28) hx hb hts in_X9_counts_X9 hown hK hP 0 rfl rfl 12 (by decide) (hts _ lk_X9_counts_0) (fun _ h9 => h9) rfl dX9_counts_39 ?_
          refine lv_iload hx hb dX9_counts_42 (lv_at hl 7 rfl) ?_
          obtain ⟨hi104, hj84⟩ := zz_chkE hj84
          refine va_iald hx hb hK hP 1 0 rfl rfl hi104 dX9_counts_44 ?_
          refine lv_aload_n hx hb dX9_counts_45 rfl (lv_at hl 1 rfl) ?_
          refine va_get (ci := 8) (v := .ref a_t_plan) (C := RX9) (T := TX9) (N := 28) hx hb hts in_X9_counts_X9 hown hK hP 0 rfl rfl 12 (by decide) (hts _ lk_X9_counts_0) (fun _ h9 => h9) rfl dX9_counts_46 ?_
          refine lv_iload hx hb dX9_counts_49 (lv_at hl 7 rfl) ?_
          refine lv_iconst (v := 1) hx hb dX9_counts_51 (by decide) ?_
          refine lv_isub hx hb dX9_counts_52 ?_
          obtain ⟨hi105, hj84⟩ := zz_chkE hj84
          refine va_iald hx hb hK hP 1 0 rfl rfl hi105 dX9_counts_53 ?_
          refine lv_icmp_eq (tgt := 61) hx hb dX9_counts_54 (by decide) (fun c106 => ?_) (fun c106 => ?_)
          · have hj84 := zz_if c106 hj84
            refine lv_iconst (v := 0) hx hb dX9_counts_61 (by decide) ?_
            cases hj84
            exact hJ84 _ _ ls hP hD hS (lv_sub hl [1, 2, 0, 3, 4, 5, 6, 7] rfl)
          · have hj84 := zz_ifn c106 hj84
            refine lv_iconst (v := 1) hx hb dX9_counts_57 (by decide) ?_
            refine lv_goto (tgt := 62) hx hb dX9_counts_58 (by decide) ?_
            cases hj84
            exact hJ84 _ _ ls hP hD hS (lv_sub hl [1, 2, 0, 3, 4, 5, 6, 7] rfl)
  exact hL70 zz_fuel 0 0 0 0 0 0 _ _ ls hit70 hP hD hS (lv_sub hl [6, 7, 5, 4, 3, 2, 1, 0] rfl)
theorem hd_X9_wish : yX9_wish.cls ≠ "java/lang/invoke/MethodHandle" ∧ yX9_wish.cls ≠ "java/lang/invoke/VarHandle" ∧ (parseMethodDescriptor yX9_wish.desc).map (fun d => d.parameters.length) = some 3 := by decide +kernel
set_option maxRecDepth 20000 in
theorem in_X9_wish_X9 : ∀ w ∈ u_ws RX9 TX9 28, w ∈ wsX9_wish := by decide +kernel
set_option maxRecDepth 20000 in
theorem lk_X9_wish_0 : Cond.constantLong RX9 149 (14) ∈ wsX9_wish := by decide +kernel
set_option maxRecDepth 20000 in
theorem lk_X9_wish_1 : Cond.constantLong RX9 151 (9) ∈ wsX9_wish := by decide +kernel
set_option maxRecDepth 20000 in
theorem lk_X9_wish_2 : Cond.fieldLink RX9 62 "TwoHousesOneChildModel" "most" "I" ∈ wsX9_wish := by decide +kernel
set_option maxRecDepth 20000 in
theorem lk_X9_wish_3 : Cond.fieldLink RX9 66 "TwoHousesOneChildModel" "above" "I" ∈ wsX9_wish := by decide +kernel
set_option maxRecDepth 20000 in
theorem lk_X9_wish_4 : Cond.fieldLink RX9 69 "TwoHousesOneChildModel" "handing" "I" ∈ wsX9_wish := by decide +kernel
set_option maxHeartbeats 4000000 in
set_option maxRecDepth 100000 in
theorem ct_X9_wish (l : Launch) (dC : Nat → ClassId) (dI : Nat → Nat → Nat) (cI cJ cB cZ : ClassId) (a_t a_t_read a_t_papers a_t_paperMany a_t_text a_t_whose a_t_plan a_t_wantNight a_t_wantHouse a_t_wantWeight a_t_ahead a_t_best a_t_fines a_t_times a_t_isKept a_t_keptPlan a_t_keptFines a_t_keptTimes : Nat) (t_readMany : Int32) (t_length : Int32) (t_at : Int32) (t_faultAt : Int32) (t_year : Int32) (t_wordsNow : Int32) (t_mendChanges : Int32) (t_most : Int32) (t_above : Int32) (t_handing : Int32) (t_wants : Int32) (p1 : Int32) (p2 : Int32) (p3 : Int32) (rr : Int32) (o1 : Int32) (o2 : Int32) (o3 : Int32) (h : fn_X9_wish t_most t_above t_handing p1 p2 p3 = some (rr, o1, o2, o3)) : zz_M l yX9_wish wsX9_wish ({ frames := 1, cells := 0, slots := 0, locals := 25 }) (dC, dI) (zz_T cI cJ cB cZ) [.ref a_t, .int p1, .int p2, .int p3] [(a_t, .inr (8, [.ref a_t_read, .int t_readMany, .ref a_t_papers, .ref a_t_paperMany, .ref a_t_text, .int t_length, .int t_at, .int t_faultAt, .int t_year, .int t_wordsNow, .ref a_t_whose, .int t_mendChanges, .ref a_t_plan, .int t_most, .int t_above, .int t_handing, .int t_wants, .ref a_t_wantNight, .ref a_t_wantHouse, .ref a_t_wantWeight, .ref a_t_ahead, .ref a_t_best, .ref a_t_fines, .ref a_t_times, .ref a_t_isKept, .ref a_t_keptPlan, .ref a_t_keptFines, .ref a_t_keptTimes]))] (zz_QI (dC, dI) (zz_T cI cJ cB cZ) (rr, o1, o2, o3) (fun (u : Int32 × Int32 × Int32) => [(a_t, .inr (8, [.ref a_t_read, .int t_readMany, .ref a_t_papers, .ref a_t_paperMany, .ref a_t_text, .int t_length, .int t_at, .int t_faultAt, .int t_year, .int t_wordsNow, .ref a_t_whose, .int t_mendChanges, .ref a_t_plan, .int u.1, .int u.2.1, .int u.2.2, .int t_wants, .ref a_t_wantNight, .ref a_t_wantHouse, .ref a_t_wantWeight, .ref a_t_ahead, .ref a_t_best, .ref a_t_fines, .ref a_t_times, .ref a_t_isKept, .ref a_t_keptPlan, .ref a_t_keptFines, .ref a_t_keptTimes]))])) := by
  unfold fn_X9_wish at h
  refine zz_of (by decide) rfl (Nat.le_of_ble_eq_true rfl) ?_
  intro p e s m below meth c A ls hx hb hr hml hts hown hlocks hA hS hP hK hD hl
  have hown : s.vm.findClass RX9 = some m.cls := hown
  have hl : lv_has ls 5 [(0, .ref a_t), (1, .int p1), (2, .int p2), (3, .int p3)] := hl
  refine lv_iload_n hx hb dX9_wish_0 rfl (lv_at hl 1 rfl) ?_
  refine lv_i2l (v := p1.toInt64) hx hb dX9_wish_1 rfl ?_
  refine lv_lconst (v := 1) hx hb dX9_wish_2 (by decide) ?_
  refine lv_ldc2 (v := 14) hx hb hown (hts _ lk_X9_wish_0) dX9_wish_3 ?_
  obtain ⟨x1, u2, he3, h⟩ := zz_b2E h
  refine zz_PI (As := [.long p1.toInt64, .long 1, .long 14]) (rest := []) ⟨hx, hb, hml, hown, hts⟩ (ct_X9_in l dC dI cI cJ cB cZ p1.toInt64 (1 : Int64) (14 : Int64) x1 u2 he3) gX9_wish_X9_in hd_X9_in rfl rfl rfl ⟨Nat.le_of_ble_eq_true rfl, Nat.le_of_ble_eq_true rfl⟩ ⟨Nat.le_of_ble_eq_true rfl, Nat.le_of_ble_eq_true rfl⟩ rfl rfl (Nat.le_of_ble_eq_true rfl) dX9_wish_6 hl.1 hP hK hS hA (fun H locs hP hS => ?_)
  refine lv_if_eq (tgt := 36) hx hb dX9_wish_9 (by decide) (fun c4 => ?_) (fun c4 => ?_)
  · have h := zz_if c4 h
    refine lv_bipush (v := (-2)) hx hb dX9_wish_36 (by decide) ?_
    exact zz_iret (t_most, t_above, t_handing) hx hb hr hlocks dX9_wish_38 (Option.some.inj h) hP hK hD hS
  · have h := zz_ifn c4 h
    refine lv_iload_n hx hb dX9_wish_12 rfl (lv_at hl 2 rfl) ?_
    refine lv_i2l (v := p2.toInt64) hx hb dX9_wish_13 rfl ?_
    refine lv_lconst (v := 0) hx hb dX9_wish_14 (by decide) ?_
    refine lv_ldc2 (v := 9) hx hb hown (hts _ lk_X9_wish_1) dX9_wish_15 ?_
    obtain ⟨x5, u6, he7, h⟩ := zz_b2E h
    refine zz_PI (As := [.long p2.toInt64, .long 0, .long 9]) (rest := []) ⟨hx, hb, hml, hown, hts⟩ (ct_X9_in l dC dI cI cJ cB cZ p2.toInt64 (0 : Int64) (9 : Int64) x5 u6 he7) gX9_wish_X9_in hd_X9_in rfl rfl rfl ⟨Nat.le_of_ble_eq_true rfl, Nat.le_of_ble_eq_true rfl⟩ ⟨Nat.le_of_ble_eq_true rfl, Nat.le_of_ble_eq_true rfl⟩ rfl rfl (Nat.le_of_ble_eq_true rfl) dX9_wish_18 hl.1 hP hK hS hA (fun H locs hP hS => ?_)
    refine lv_if_eq (tgt := 36) hx hb dX9_wish_21 (by decide) (fun c8 => ?_) (fun c8 => ?_)
    · have h := zz_if c8 h
      refine lv_bipush (v := (-2)) hx hb dX9_wish_36 (by decide) ?_
      exact zz_iret (t_most, t_above, t_handing) hx hb hr hlocks dX9_wish_38 (Option.some.inj h) hP hK hD hS
    · have h := zz_ifn c8 h
      refine lv_iload_n hx hb dX9_wish_24 rfl (lv_at hl 3 rfl) ?_
      refine lv_i2l (v := p3.toInt64) hx hb dX9_wish_25 rfl ?_
      refine lv_lconst (v := 0) hx hb dX9_wish_26 (by decide) ?_
      refine lv_ldc2 (v := 9) hx hb hown (hts _ lk_X9_wish_1) dX9_wish_27 ?_
      obtain ⟨x9, u10, he11, h⟩ := zz_b2E h
      refine zz_PI (As := [.long p3.toInt64, .long 0, .long 9]) (rest := []) ⟨hx, hb, hml, hown, hts⟩ (ct_X9_in l dC dI cI cJ cB cZ p3.toInt64 (0 : Int64) (9 : Int64) x9 u10 he11) gX9_wish_X9_in hd_X9_in rfl rfl rfl ⟨Nat.le_of_ble_eq_true rfl, Nat.le_of_ble_eq_true rfl⟩ ⟨Nat.le_of_ble_eq_true rfl, Nat.le_of_ble_eq_true rfl⟩ rfl rfl (Nat.le_of_ble_eq_true rfl) dX9_wish_30 hl.1 hP hK hS hA (fun H locs hP hS => ?_)
      refine lv_if_ne (tgt := 39) hx hb dX9_wish_33 (by decide) (fun c12 => ?_) (fun c12 => ?_)
      · have h := zz_ifn c12 h
        refine lv_sipush (v := 1000) hx hb dX9_wish_39 (by decide) ?_
        refine lv_aload_n hx hb dX9_wish_42 rfl (lv_at hl 0 rfl) ?_
        refine va_get (ci := 8) (v := .int t_most) (C := RX9) (T := TX9) (N := 28) hx hb hts in_X9_wish_X9 hown hK hP 0 rfl rfl 13 (by decide) (hts _ lk_X9_wish_2) (fun _ h9 => h9) rfl dX9_wish_43 ?_
        refine lv_imul hx hb dX9_wish_46 ?_
        refine lv_bipush (v := 10) hx hb dX9_wish_47 (by decide) ?_
        refine lv_aload_n hx hb dX9_wish_49 rfl (lv_at hl 0 rfl) ?_
        refine va_get (ci := 8) (v := .int t_above) (C := RX9) (T := TX9) (N := 28) hx hb hts in_X9_wish_X9 hown hK hP 0 rfl rfl 14 (by decide) (hts _ lk_X9_wish_3) (fun _ h9 => h9) rfl dX9_wish_50 ?_
        refine lv_imul hx hb dX9_wish_53 ?_
        refine lv_iadd hx hb dX9_wish_54 ?_
        refine lv_aload_n hx hb dX9_wish_55 rfl (lv_at hl 0 rfl) ?_
        refine va_get (ci := 8) (v := .int t_handing) (C := RX9) (T := TX9) (N := 28) hx hb hts in_X9_wish_X9 hown hK hP 0 rfl rfl 15 (by decide) (hts _ lk_X9_wish_4) (fun _ h9 => h9) rfl dX9_wish_56 ?_
        refine lv_iadd hx hb dX9_wish_59 ?_
        refine lv_topi (fun x13 ex13 => ?_)
        have h := zz_nmE ex13 h
        refine lv_istore (lv' := [(4, .int x13), (0, .ref a_t), (1, .int p1), (2, .int p2), (3, .int p3)]) hx hb dX9_wish_60 hl (by decide) rfl (fun ls hl => ?_)
        refine lv_aload_n hx hb dX9_wish_62 rfl (lv_at hl 1 rfl) ?_
        refine lv_iload_n hx hb dX9_wish_63 rfl (lv_at hl 2 rfl) ?_
        refine va_put (ci := 8) (v := .int p1) (ty := .int) (C := RX9) (T := TX9) (N := 28) hx hb hts in_X9_wish_X9 tyX9 tyX9_ok nmX9 hown hK hP hD hS 0 rfl rfl 13 (by decide) (hts _ lk_X9_wish_2) (fun _ h9 => h9) rfl (by decide +kernel) rfl rfl (Nat.le_of_ble_eq_true rfl) dX9_wish_64 (fun H locs hP hD hS => ?_)
        have hP : va_P (dC, dI) vwCl [(a_t, .inr (8, [.ref a_t_read, .int t_readMany, .ref a_t_papers, .ref a_t_paperMany, .ref a_t_text, .int t_length, .int t_at, .int t_faultAt, .int t_year, .int t_wordsNow, .ref a_t_whose, .int t_mendChanges, .ref a_t_plan, .int p1, .int t_above, .int t_handing, .int t_wants, .ref a_t_wantNight, .ref a_t_wantHouse, .ref a_t_wantWeight, .ref a_t_ahead, .ref a_t_best, .ref a_t_fines, .ref a_t_times, .ref a_t_isKept, .ref a_t_keptPlan, .ref a_t_keptFines, .ref a_t_keptTimes]))] H := hP
        have hD : va_D A [(a_t, .inr (8, [.ref a_t_read, .int t_readMany, .ref a_t_papers, .ref a_t_paperMany, .ref a_t_text, .int t_length, .int t_at, .int t_faultAt, .int t_year, .int t_wordsNow, .ref a_t_whose, .int t_mendChanges, .ref a_t_plan, .int p1, .int t_above, .int t_handing, .int t_wants, .ref a_t_wantNight, .ref a_t_wantHouse, .ref a_t_wantWeight, .ref a_t_ahead, .ref a_t_best, .ref a_t_fines, .ref a_t_times, .ref a_t_isKept, .ref a_t_keptPlan, .ref a_t_keptFines, .ref a_t_keptTimes]))] := hD
        refine lv_aload_n hx hb dX9_wish_67 rfl (lv_at hl 1 rfl) ?_
        refine lv_iload_n hx hb dX9_wish_68 rfl (lv_at hl 3 rfl) ?_
        refine va_put (ci := 8) (v := .int p2) (ty := .int) (C := RX9) (T := TX9) (N := 28) hx hb hts in_X9_wish_X9 tyX9 tyX9_ok nmX9 hown hK hP hD hS 0 rfl rfl 14 (by decide) (hts _ lk_X9_wish_3) (fun _ h9 => h9) rfl (by decide +kernel) rfl rfl (Nat.le_of_ble_eq_true rfl) dX9_wish_69 (fun H locs hP hD hS => ?_)
        have hP : va_P (dC, dI) vwCl [(a_t, .inr (8, [.ref a_t_read, .int t_readMany, .ref a_t_papers, .ref a_t_paperMany, .ref a_t_text, .int t_length, .int t_at, .int t_faultAt, .int t_year, .int t_wordsNow, .ref a_t_whose, .int t_mendChanges, .ref a_t_plan, .int p1, .int p2, .int t_handing, .int t_wants, .ref a_t_wantNight, .ref a_t_wantHouse, .ref a_t_wantWeight, .ref a_t_ahead, .ref a_t_best, .ref a_t_fines, .ref a_t_times, .ref a_t_isKept, .ref a_t_keptPlan, .ref a_t_keptFines, .ref a_t_keptTimes]))] H := hP
        have hD : va_D A [(a_t, .inr (8, [.ref a_t_read, .int t_readMany, .ref a_t_papers, .ref a_t_paperMany, .ref a_t_text, .int t_length, .int t_at, .int t_faultAt, .int t_year, .int t_wordsNow, .ref a_t_whose, .int t_mendChanges, .ref a_t_plan, .int p1, .int p2, .int t_handing, .int t_wants, .ref a_t_wantNight, .ref a_t_wantHouse, .ref a_t_wantWeight, .ref a_t_ahead, .ref a_t_best, .ref a_t_fines, .ref a_t_times, .ref a_t_isKept, .ref a_t_keptPlan, .ref a_t_keptFines, .ref a_t_keptTimes]))] := hD
        refine lv_aload_n hx hb dX9_wish_72 rfl (lv_at hl 1 rfl) ?_
        refine lv_iload_n hx hb dX9_wish_73 rfl (lv_at hl 4 rfl) ?_
        refine va_put (ci := 8) (v := .int p3) (ty := .int) (C := RX9) (T := TX9) (N := 28) hx hb hts in_X9_wish_X9 tyX9 tyX9_ok nmX9 hown hK hP hD hS 0 rfl rfl 15 (by decide) (hts _ lk_X9_wish_4) (fun _ h9 => h9) rfl (by decide +kernel) rfl rfl (Nat.le_of_ble_eq_true rfl) dX9_wish_74 (fun H locs hP hD hS => ?_)
        have hP : va_P (dC, dI) vwCl [(a_t, .inr (8, [.ref a_t_read, .int t_readMany, .ref a_t_papers, .ref a_t_paperMany, .ref a_t_text, .int t_length, .int t_at, .int t_faultAt, .int t_year, .int t_wordsNow, .ref a_t_whose, .int t_mendChanges, .ref a_t_plan, .int p1, .int p2, .int p3, .int t_wants, .ref a_t_wantNight, .ref a_t_wantHouse, .ref a_t_wantWeight, .ref a_t_ahead, .ref a_t_best, .ref a_t_fines, .ref a_t_times, .ref a_t_isKept, .ref a_t_keptPlan, .ref a_t_keptFines, .ref a_t_keptTimes]))] H := hP
        have hD : va_D A [(a_t, .inr (8, [.ref a_t_read, .int t_readMany, .ref a_t_papers, .ref a_t_paperMany, .ref a_t_text, .int t_length, .int t_at, .int t_faultAt, .int t_year, .int t_wordsNow, .ref a_t_whose, .int t_mendChanges, .ref a_t_plan, .int p1, .int p2, .int p3, .int t_wants, .ref a_t_wantNight, .ref a_t_wantHouse, .ref a_t_wantWeight, .ref a_t_ahead, .ref a_t_best, .ref a_t_fines, .ref a_t_times, .ref a_t_isKept, .ref a_t_keptPlan, .ref a_t_keptFines, .ref a_t_keptTimes]))] := hD
        refine lv_iload hx hb dX9_wish_77 (lv_at hl 0 rfl) ?_
        exact zz_iret (p1, p2, p3) hx hb hr hlocks dX9_wish_79 (Option.some.inj h) hP hK hD hS
      · have h := zz_if c12 h
        refine lv_bipush (v := (-2)) hx hb dX9_wish_36 (by decide) ?_
        exact zz_iret (t_most, t_above, t_handing) hx hb hr hlocks dX9_wish_38 (Option.some.inj h) hP hK hD hS
theorem hd_X9_want : yX9_want.cls ≠ "java/lang/invoke/MethodHandle" ∧ yX9_want.cls ≠ "java/lang/invoke/VarHandle" ∧ (parseMethodDescriptor yX9_want.desc).map (fun d => d.parameters.length) = some 3 := by decide +kernel
set_option maxRecDepth 20000 in
theorem in_X9_want_X9 : ∀ w ∈ u_ws RX9 TX9 28, w ∈ wsX9_want := by decide +kernel
set_option maxRecDepth 20000 in
theorem lk_X9_want_0 : Cond.constantLong RX9 151 (9) ∈ wsX9_want := by decide +kernel
set_option maxRecDepth 20000 in
theorem lk_X9_want_1 : Cond.fieldLink RX9 153 "TwoHousesOneChildModel" "wants" "I" ∈ wsX9_want := by decide +kernel
set_option maxRecDepth 20000 in
theorem lk_X9_want_2 : Cond.fieldLink RX9 28 "TwoHousesOneChildModel" "wantNight" "[I" ∈ wsX9_want := by decide +kernel
set_option maxRecDepth 20000 in
theorem lk_X9_want_3 : Cond.fieldLink RX9 31 "TwoHousesOneChildModel" "wantHouse" "[I" ∈ wsX9_want := by decide +kernel
set_option maxRecDepth 20000 in
theorem lk_X9_want_4 : Cond.fieldLink RX9 34 "TwoHousesOneChildModel" "wantWeight" "[I" ∈ wsX9_want := by decide +kernel
set_option maxHeartbeats 4000000 in
set_option maxRecDepth 100000 in
theorem ct_X9_want (l : Launch) (dC : Nat → ClassId) (dI : Nat → Nat → Nat) (cI cJ cB cZ : ClassId) (a_t a_t_wantHouse a_t_wantNight a_t_wantWeight a_t_read a_t_papers a_t_paperMany a_t_text a_t_whose a_t_plan a_t_ahead a_t_best a_t_fines a_t_times a_t_isKept a_t_keptPlan a_t_keptFines a_t_keptTimes : Nat) (t_readMany : Int32) (t_length : Int32) (t_at : Int32) (t_faultAt : Int32) (t_year : Int32) (t_wordsNow : Int32) (t_mendChanges : Int32) (t_most : Int32) (t_above : Int32) (t_handing : Int32) (t_wants : Int32) (t_wantHouse : (Nat → Int32)) (t_wantNight : (Nat → Int32)) (t_wantWeight : (Nat → Int32)) (p1 : Int32) (p2 : Int32) (p3 : Int32) (rr : Int32) (o1 : Int32) (o2 : (Nat → Int32)) (o3 : (Nat → Int32)) (o4 : (Nat → Int32)) (h : fn_X9_want t_wants t_wantHouse t_wantNight t_wantWeight p1 p2 p3 = some (rr, o1, o2, o3, o4)) : zz_M l yX9_want wsX9_want ({ frames := 2, cells := 0, slots := 0, locals := 45 }) (dC, dI) (zz_T cI cJ cB cZ) [.ref a_t, .int p1, .int p2, .int p3] [(a_t, .inr (8, [.ref a_t_read, .int t_readMany, .ref a_t_papers, .ref a_t_paperMany, .ref a_t_text, .int t_length, .int t_at, .int t_faultAt, .int t_year, .int t_wordsNow, .ref a_t_whose, .int t_mendChanges, .ref a_t_plan, .int t_most, .int t_above, .int t_handing, .int t_wants, .ref a_t_wantNight, .ref a_t_wantHouse, .ref a_t_wantWeight, .ref a_t_ahead, .ref a_t_best, .ref a_t_fines, .ref a_t_times, .ref a_t_isKept, .ref a_t_keptPlan, .ref a_t_keptFines, .ref a_t_keptTimes])), (a_t_wantHouse, .inl (cI, 12, .inl t_wantHouse)), (a_t_wantNight, .inl (cI, 12, .inl t_wantNight)), (a_t_wantWeight, .inl (cI, 12, .inl t_wantWeight))] (zz_QI (dC, dI) (zz_T cI cJ cB cZ) (rr, o1, o2, o3, o4) (fun (u : Int32 × (Nat → Int32) × (Nat → Int32) × (Nat → Int32)) => [(a_t, .inr (8, [.ref a_t_read, .int t_readMany, .ref a_t_papers, .ref a_t_paperMany, .ref a_t_text, .int t_length, .int t_at, .int t_faultAt, .int t_year, .int t_wordsNow, .ref a_t_whose, .int t_mendChanges, .ref a_t_plan, .int t_most, .int t_above, .int t_handing, .int u.1, .ref a_t_wantNight, .ref a_t_wantHouse, .ref a_t_wantWeight, .ref a_t_ahead, .ref a_t_best, .ref a_t_fines, .ref a_t_times, .ref a_t_isKept, .ref a_t_keptPlan, .ref a_t_keptFines, .ref a_t_keptTimes])), (a_t_wantHouse, .inl (cI, 12, .inl u.2.1)), (a_t_wantNight, .inl (cI, 12, .inl u.2.2.1)), (a_t_wantWeight, .inl (cI, 12, .inl u.2.2.2))])) := by
  unfold fn_X9_want at h
  refine zz_of (by decide) rfl (Nat.le_of_ble_eq_true rfl) ?_
  intro p e s m below meth c A ls hx hb hr hml hts hown hlocks hA hS hP hK hD hl
  have hown : s.vm.findClass RX9 = some m.cls := hown
  have hl : lv_has ls 4 [(0, .ref a_t), (1, .int p1), (2, .int p2), (3, .int p3)] := hl
  refine lv_iload_n hx hb dX9_want_0 rfl (lv_at hl 1 rfl) ?_
  obtain ⟨x1, u2, he3, h⟩ := zz_b2E h
  refine zz_PI (As := [.int p1]) (rest := []) ⟨hx, hb, hml, hown, hts⟩ (ct_X9_isNight l dC dI cI cJ cB cZ p1 x1 u2 he3) gX9_want_X9_isNight hd_X9_isNight rfl rfl rfl ⟨Nat.le_of_ble_eq_true rfl, Nat.le_of_ble_eq_true rfl⟩ ⟨Nat.le_of_ble_eq_true rfl, Nat.le_of_ble_eq_true rfl⟩ rfl rfl (Nat.le_of_ble_eq_true rfl) dX9_want_1 hl.1 hP hK hS hA (fun H locs hP hS => ?_)
  refine lv_if_eq (tgt := 14) hx hb dX9_want_4 (by decide) (fun c4 => ?_) (fun c4 => ?_)
  · have h := zz_if c4 h
    refine lv_iconst (v := (-1)) hx hb dX9_want_14 (by decide) ?_
    exact zz_iret (t_wants, t_wantHouse, t_wantNight, t_wantWeight) hx hb hr hlocks dX9_want_15 (Option.some.inj h) hP hK hD hS
  · have h := zz_ifn c4 h
    refine lv_iload_n hx hb dX9_want_7 rfl (lv_at hl 2 rfl) ?_
    obtain ⟨x5, u6, he7, h⟩ := zz_b2E h
    refine zz_PI (As := [.int p2]) (rest := []) ⟨hx, hb, hml, hown, hts⟩ (ct_X9_isHouse l dC dI cI cJ cB cZ p2 x5 u6 he7) gX9_want_X9_isHouse hd_X9_isHouse rfl rfl rfl ⟨Nat.le_of_ble_eq_true rfl, Nat.le_of_ble_eq_true rfl⟩ ⟨Nat.le_of_ble_eq_true rfl, Nat.le_of_ble_eq_true rfl⟩ rfl rfl (Nat.le_of_ble_eq_true rfl) dX9_want_8 hl.1 hP hK hS hA (fun H locs hP hS => ?_)
    refine lv_if_ne (tgt := 16) hx hb dX9_want_11 (by decide) (fun c8 => ?_) (fun c8 => ?_)
    · have h := zz_ifn c8 h
      refine lv_iload_n hx hb dX9_want_16 rfl (lv_at hl 3 rfl) ?_
      refine lv_i2l (v := p3.toInt64) hx hb dX9_want_17 rfl ?_
      refine lv_lconst (v := 1) hx hb dX9_want_18 (by decide) ?_
      refine lv_ldc2 (v := 9) hx hb hown (hts _ lk_X9_want_0) dX9_want_19 ?_
      obtain ⟨x9, u10, he11, h⟩ := zz_b2E h
      refine zz_PI (As := [.long p3.toInt64, .long 1, .long 9]) (rest := []) ⟨hx, hb, hml, hown, hts⟩ (ct_X9_in l dC dI cI cJ cB cZ p3.toInt64 (1 : Int64) (9 : Int64) x9 u10 he11) gX9_want_X9_in hd_X9_in rfl rfl rfl ⟨Nat.le_of_ble_eq_true rfl, Nat.le_of_ble_eq_true rfl⟩ ⟨Nat.le_of_ble_eq_true rfl, Nat.le_of_ble_eq_true rfl⟩ rfl rfl (Nat.le_of_ble_eq_true rfl) dX9_want_22 hl.1 hP hK hS hA (fun H locs hP hS => ?_)
      refine lv_if_ne (tgt := 31) hx hb dX9_want_25 (by decide) (fun c12 => ?_) (fun c12 => ?_)
      · have h := zz_ifn c12 h
        refine lv_aload_n hx hb dX9_want_31 rfl (lv_at hl 0 rfl) ?_
        refine va_get (ci := 8) (v := .int t_wants) (C := RX9) (T := TX9) (N := 28) hx hb hts in_X9_want_X9 hown hK hP 0 rfl rfl 16 (by decide) (hts _ lk_X9_want_1) (fun _ h9 => h9) rfl dX9_want_32 ?_
        refine lv_bipush (v := 12) hx hb dX9_want_35 (by decide) ?_
        refine lv_icmp_ne (tgt := 43) hx hb dX9_want_37 (by decide) (fun c13 => ?_) (fun c13 => ?_)
        · have h := zz_ifn c13 h
          refine lv_aload_n hx hb dX9_want_43 rfl (lv_at hl 0 rfl) ?_
          refine va_get (ci := 8) (v := .ref a_t_wantNight) (C := RX9) (T := TX9) (N := 28) hx hb hts in_X9_want_X9 hown hK hP 0 rfl rfl 17 (by decide) (hts _ lk_X9_want_2) (fun _ h9 => h9) rfl dX9_want_44 ?_
          refine lv_aload_n hx hb dX9_want_47 rfl (lv_at hl 0 rfl) ?_
          refine va_get (ci := 8) (v := .int t_wants) (C := RX9) (T := TX9) (N := 28) hx hb hts in_X9_want_X9 hown hK hP 0 rfl rfl 16 (by decide) (hts _ lk_X9_want_1) (fun _ h9 => h9) rfl dX9_want_48 ?_
          refine lv_iload_n hx hb dX9_want_51 rfl (lv_at hl 1 rfl) ?_
          obtain ⟨hi14, h⟩ := zz_chkE h
          refine zz_iast hx hb hK hP hD hS 2 0 rfl rfl hi14 dX9_want_52 (fun g15 => [(a_t, .inr (8, [.ref a_t_read, .int t_readMany, .ref a_t_papers, .ref a_t_paperMany, .ref a_t_text, .int t_length, .int t_at, .int t_faultAt, .int t_year, .int t_wordsNow, .ref a_t_whose, .int t_mendChanges, .ref a_t_plan, .int t_most, .int t_above, .int t_handing, .int t_wants, .ref a_t_wantNight, .ref a_t_wantHouse, .ref a_t_wantWeight, .ref a_t_ahead, .ref a_t_best, .ref a_t_fines, .ref a_t_times, .ref a_t_isKept, .ref a_t_keptPlan, .ref a_t_keptFines, .ref a_t_keptTimes])), (a_t_wantHouse, .inl (cI, 12, .inl t_wantHouse)), (a_t_wantNight, .inl (cI, 12, .inl g15)), (a_t_wantWeight, .inl (cI, 12, .inl t_wantWeight))]) (fun _ => rfl) (fun g15 H locs eg15 hP hD hS => ?_)
          have h := zz_nmE eg15 h
          refine lv_aload_n hx hb dX9_want_53 rfl (lv_at hl 0 rfl) ?_
          refine va_get (ci := 8) (v := .ref a_t_wantHouse) (C := RX9) (T := TX9) (N := 28) hx hb hts in_X9_want_X9 hown hK hP 0 rfl rfl 18 (by decide) (hts _ lk_X9_want_3) (fun _ h9 => h9) rfl dX9_want_54 ?_
          refine lv_aload_n hx hb dX9_want_57 rfl (lv_at hl 0 rfl) ?_
          refine va_get (ci := 8) (v := .int t_wants) (C := RX9) (T := TX9) (N := 28) hx hb hts in_X9_want_X9 hown hK hP 0 rfl rfl 16 (by decide) (hts _ lk_X9_want_1) (fun _ h9 => h9) rfl dX9_want_58 ?_
          refine lv_iload_n hx hb dX9_want_61 rfl (lv_at hl 2 rfl) ?_
          obtain ⟨hi16, h⟩ := zz_chkE h
          refine zz_iast hx hb hK hP hD hS 1 0 rfl rfl hi16 dX9_want_62 (fun g17 => [(a_t, .inr (8, [.ref a_t_read, .int t_readMany, .ref a_t_papers, .ref a_t_paperMany, .ref a_t_text, .int t_length, .int t_at, .int t_faultAt, .int t_year, .int t_wordsNow, .ref a_t_whose, .int t_mendChanges, .ref a_t_plan, .int t_most, .int t_above, .int t_handing, .int t_wants, .ref a_t_wantNight, .ref a_t_wantHouse, .ref a_t_wantWeight, .ref a_t_ahead, .ref a_t_best, .ref a_t_fines, .ref a_t_times, .ref a_t_isKept, .ref a_t_keptPlan, .ref a_t_keptFines, .ref a_t_keptTimes])), (a_t_wantHouse, .inl (cI, 12, .inl g17)), (a_t_wantNight, .inl (cI, 12, .inl g15)), (a_t_wantWeight, .inl (cI, 12, .inl t_wantWeight))]) (fun _ => rfl) (fun g17 H locs eg17 hP hD hS => ?_)
          have h := zz_nmE eg17 h
          refine lv_aload_n hx hb dX9_want_63 rfl (lv_at hl 0 rfl) ?_
          refine va_get (ci := 8) (v := .ref a_t_wantWeight) (C := RX9) (T := TX9) (N := 28) hx hb hts in_X9_want_X9 hown hK hP 0 rfl rfl 19 (by decide) (hts _ lk_X9_want_4) (fun _ h9 => h9) rfl dX9_want_64 ?_
          refine lv_aload_n hx hb dX9_want_67 rfl (lv_at hl 0 rfl) ?_
          refine va_get (ci := 8) (v := .int t_wants) (C := RX9) (T := TX9) (N := 28) hx hb hts in_X9_want_X9 hown hK hP 0 rfl rfl 16 (by decide) (hts _ lk_X9_want_1) (fun _ h9 => h9) rfl dX9_want_68 ?_
          refine lv_iload_n hx hb dX9_want_71 rfl (lv_at hl 3 rfl) ?_
          obtain ⟨hi18, h⟩ := zz_chkE h
          refine zz_iast hx hb hK hP hD hS 3 0 rfl rfl hi18 dX9_want_72 (fun g19 => [(a_t, .inr (8, [.ref a_t_read, .int t_readMany, .ref a_t_papers, .ref a_t_paperMany, .ref a_t_text, .int t_length, .int t_at, .int t_faultAt, .int t_year, .int t_wordsNow, .ref a_t_whose, .int t_mendChanges, .ref a_t_plan, .int t_most, .int t_above, .int t_handing, .int t_wants, .ref a_t_wantNight, .ref a_t_wantHouse, .ref a_t_wantWeight, .ref a_t_ahead, .ref a_t_best, .ref a_t_fines, .ref a_t_times, .ref a_t_isKept, .ref a_t_keptPlan, .ref a_t_keptFines, .ref a_t_keptTimes])), (a_t_wantHouse, .inl (cI, 12, .inl g17)), (a_t_wantNight, .inl (cI, 12, .inl g15)), (a_t_wantWeight, .inl (cI, 12, .inl g19))]) (fun _ => rfl) (fun g19 H locs eg19 hP hD hS => ?_)
          have h := zz_nmE eg19 h
          refine lv_aload_n hx hb dX9_want_73 rfl (lv_at hl 0 rfl) ?_
          refine lv_dup hx hb dX9_want_74 rfl ?_
          refine va_get (ci := 8) (v := .int t_wants) (C := RX9) (T := TX9) (N := 28) hx hb hts in_X9_want_X9 hown hK hP 0 rfl rfl 16 (by decide) (hts _ lk_X9_want_1) (fun _ h9 => h9) rfl dX9_want_75 ?_
          refine lv_iconst (v := 1) hx hb dX9_want_78 (by decide) ?_
          refine lv_iadd hx hb dX9_want_79 ?_
          refine lv_topi (fun x20 ex20 => ?_)
          have h := zz_nmE ex20 h
          refine va_put (ci := 8) (v := .int x20) (ty := .int) (C := RX9) (T := TX9) (N := 28) hx hb hts in_X9_want_X9 tyX9 tyX9_ok nmX9 hown hK hP hD hS 0 rfl rfl 16 (by decide) (hts _ lk_X9_want_1) (fun _ h9 => h9) rfl (by decide +kernel) rfl rfl (Nat.le_of_ble_eq_true rfl) dX9_want_80 (fun H locs hP hD hS => ?_)
          have hP : va_P (dC, dI) vwCl [(a_t, .inr (8, [.ref a_t_read, .int t_readMany, .ref a_t_papers, .ref a_t_paperMany, .ref a_t_text, .int t_length, .int t_at, .int t_faultAt, .int t_year, .int t_wordsNow, .ref a_t_whose, .int t_mendChanges, .ref a_t_plan, .int t_most, .int t_above, .int t_handing, .int x20, .ref a_t_wantNight, .ref a_t_wantHouse, .ref a_t_wantWeight, .ref a_t_ahead, .ref a_t_best, .ref a_t_fines, .ref a_t_times, .ref a_t_isKept, .ref a_t_keptPlan, .ref a_t_keptFines, .ref a_t_keptTimes])), (a_t_wantHouse, .inl (cI, 12, .inl g17)), (a_t_wantNight, .inl (cI, 12, .inl g15)), (a_t_wantWeight, .inl (cI, 12, .inl g19))] H := hP
          have hD : va_D A [(a_t, .inr (8, [.ref a_t_read, .int t_readMany, .ref a_t_papers, .ref a_t_paperMany, .ref a_t_text, .int t_length, .int t_at, .int t_faultAt, .int t_year, .int t_wordsNow, .ref a_t_whose, .int t_mendChanges, .ref a_t_plan, .int t_most, .int t_above, .int t_handing, .int x20, .ref a_t_wantNight, .ref a_t_wantHouse, .ref a_t_wantWeight, .ref a_t_ahead, .ref a_t_best, .ref a_t_fines, .ref a_t_times, .ref a_t_isKept, .ref a_t_keptPlan, .ref a_t_keptFines, .ref a_t_keptTimes])), (a_t_wantHouse, .inl (cI, 12, .inl g17)), (a_t_wantNight, .inl (cI, 12, .inl g15)), (a_t_wantWeight, .inl (cI, 12, .inl g19))] := hD
          refine lv_aload_n hx hb dX9_want_83 rfl (lv_at hl 0 rfl) ?_
          refine va_get (ci := 8) (v := .int x20) (C := RX9) (T := TX9) (N := 28) hx hb hts in_X9_want_X9 hown hK hP 0 rfl rfl 16 (by decide) (hts _ lk_X9_want_1) (fun _ h9 => h9) rfl dX9_want_84 ?_
          refine lv_iconst (v := 1) hx hb dX9_want_87 (by decide) ?_
          refine lv_isub hx hb dX9_want_88 ?_
          exact zz_iret (x20, g17, g15, g19) hx hb hr hlocks dX9_want_89 (Option.some.inj h) hP hK hD hS
        · have h := zz_if c13 h
          refine lv_bipush (v := (-4)) hx hb dX9_want_40 (by decide) ?_
          exact zz_iret (t_wants, t_wantHouse, t_wantNight, t_wantWeight) hx hb hr hlocks dX9_want_42 (Option.some.inj h) hP hK hD hS
      · have h := zz_if c12 h
        refine lv_bipush (v := (-2)) hx hb dX9_want_28 (by decide) ?_
        exact zz_iret (t_wants, t_wantHouse, t_wantNight, t_wantWeight) hx hb hr hlocks dX9_want_30 (Option.some.inj h) hP hK hD hS
    · have h := zz_if c8 h
      refine lv_iconst (v := (-1)) hx hb dX9_want_14 (by decide) ?_
      exact zz_iret (t_wants, t_wantHouse, t_wantNight, t_wantWeight) hx hb hr hlocks dX9_want_15 (Option.some.inj h) hP hK hD hS
