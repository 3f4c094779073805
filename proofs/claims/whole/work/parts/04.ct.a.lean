theorem hd_J6_bitCount_0f7a4 : yJ6_bitCount_0f7a4.cls ≠ "java/lang/invoke/MethodHandle" ∧ yJ6_bitCount_0f7a4.cls ≠ "java/lang/invoke/VarHandle" ∧ (parseMethodDescriptor yJ6_bitCount_0f7a4.desc).map (fun d => d.parameters.length) = some 1 := by decide +kernel
set_option maxRecDepth 20000 in
theorem lk_J6_bitCount_0f7a4_0 : Cond.constant RJ6 265 (1431655765) ∈ wsJ6_bitCount_0f7a4 := by decide +kernel
set_option maxRecDepth 20000 in
theorem lk_J6_bitCount_0f7a4_1 : Cond.constant RJ6 266 (858993459) ∈ wsJ6_bitCount_0f7a4 := by decide +kernel
set_option maxRecDepth 20000 in
theorem lk_J6_bitCount_0f7a4_2 : Cond.constant RJ6 267 (252645135) ∈ wsJ6_bitCount_0f7a4 := by decide +kernel
set_option maxHeartbeats 4000000 in
set_option maxRecDepth 100000 in
theorem ct_J6_bitCount_0f7a4 (l : Launch) (dC : Nat → ClassId) (dI : Nat → Nat → Nat) (cI cJ cB cZ : ClassId) (p0 : Int32) (rr : Int32) (u0 : Unit) (h : fn_J6_bitCount_0f7a4 p0 = some (rr, u0)) : zz_M l yJ6_bitCount_0f7a4 wsJ6_bitCount_0f7a4 ({ frames := 0, cells := 0, slots := 0, locals := 0 }) (dC, dI) (zz_T cI cJ cB cZ) [.int p0] [] (zz_QI (dC, dI) (zz_T cI cJ cB cZ) (rr, u0) (fun (u : Unit) => [])) := by
  unfold fn_J6_bitCount_0f7a4 at h
  refine zz_of (by decide) rfl (Nat.le_of_ble_eq_true rfl) ?_
  intro p e s m below meth c A ls hx hb hr hml hts hown hlocks hA hS hP hK hD hl
  have hown : s.vm.findClass RJ6 = some m.cls := hown
  have hl : lv_has ls 1 [(0, .int p0)] := hl
  refine lv_iload_n hx hb dJ6_bitCount_0f7a4_0 rfl (lv_at hl 0 rfl) ?_
  refine lv_iload_n hx hb dJ6_bitCount_0f7a4_1 rfl (lv_at hl 0 rfl) ?_
  refine lv_iconst (v := 1) hx hb dJ6_bitCount_0f7a4_2 (by decide) ?_
  refine lv_iushr (v := (p0.toUInt32 >>> ((1 : Int32).toUInt32 &&& Int32.toUInt32 31)).toInt32) hx hb dJ6_bitCount_0f7a4_3 rfl ?_
  refine lv_ldcw (v := 1431655765) hx hb hown (hts _ lk_J6_bitCount_0f7a4_0) dJ6_bitCount_0f7a4_4 ?_
  refine lv_iand hx hb dJ6_bitCount_0f7a4_7 ?_
  refine lv_isub hx hb dJ6_bitCount_0f7a4_8 ?_
  refine lv_topi (fun x1 ex1 => ?_)
  have h := zz_nmE ex1 h
  refine lv_istore_n (lv' := [(0, .int x1)]) hx hb dJ6_bitCount_0f7a4_9 rfl hl (by decide) rfl (fun ls hl => ?_)
  refine lv_iload_n hx hb dJ6_bitCount_0f7a4_10 rfl (lv_at hl 0 rfl) ?_
  refine lv_ldcw (v := 858993459) hx hb hown (hts _ lk_J6_bitCount_0f7a4_1) dJ6_bitCount_0f7a4_11 ?_
  refine lv_iand hx hb dJ6_bitCount_0f7a4_14 ?_
  refine lv_iload_n hx hb dJ6_bitCount_0f7a4_15 rfl (lv_at hl 0 rfl) ?_
  refine lv_iconst (v := 2) hx hb dJ6_bitCount_0f7a4_16 (by decide) ?_
  refine lv_iushr (v := (x1.toUInt32 >>> ((2 : Int32).toUInt32 &&& Int32.toUInt32 31)).toInt32) hx hb dJ6_bitCount_0f7a4_17 rfl ?_
  refine lv_ldcw (v := 858993459) hx hb hown (hts _ lk_J6_bitCount_0f7a4_1) dJ6_bitCount_0f7a4_18 ?_
  refine lv_iand hx hb dJ6_bitCount_0f7a4_21 ?_
  refine lv_iadd hx hb dJ6_bitCount_0f7a4_22 ?_
  refine lv_topi (fun x2 ex2 => ?_)
  have h := zz_nmE ex2 h
  refine lv_istore_n (lv' := [(0, .int x2)]) hx hb dJ6_bitCount_0f7a4_23 rfl hl (by decide) rfl (fun ls hl => ?_)
  refine lv_iload_n hx hb dJ6_bitCount_0f7a4_24 rfl (lv_at hl 0 rfl) ?_
  refine lv_iload_n hx hb dJ6_bitCount_0f7a4_25 rfl (lv_at hl 0 rfl) ?_
  refine lv_iconst (v := 4) hx hb dJ6_bitCount_0f7a4_26 (by decide) ?_
  refine lv_iushr (v := (x2.toUInt32 >>> ((4 : Int32).toUInt32 &&& Int32.toUInt32 31)).toInt32) hx hb dJ6_bitCount_0f7a4_27 rfl ?_
  refine lv_iadd hx hb dJ6_bitCount_0f7a4_28 ?_
  refine lv_ldcw (v := 252645135) hx hb hown (hts _ lk_J6_bitCount_0f7a4_2) dJ6_bitCount_0f7a4_29 ?_
  refine lv_iand hx hb dJ6_bitCount_0f7a4_32 ?_
  refine lv_topi (fun x3 ex3 => ?_)
  have h := zz_nmE ex3 h
  refine lv_istore_n (lv' := [(0, .int x3)]) hx hb dJ6_bitCount_0f7a4_33 rfl hl (by decide) rfl (fun ls hl => ?_)
  refine lv_iload_n hx hb dJ6_bitCount_0f7a4_34 rfl (lv_at hl 0 rfl) ?_
  refine lv_iload_n hx hb dJ6_bitCount_0f7a4_35 rfl (lv_at hl 0 rfl) ?_
  refine lv_bipush (v := 8) hx hb dJ6_bitCount_0f7a4_36 (by decide) ?_
  refine lv_iushr (v := (x3.toUInt32 >>> ((8 : Int32).toUInt32 &&& Int32.toUInt32 31)).toInt32) hx hb dJ6_bitCount_0f7a4_38 rfl ?_
  refine lv_iadd hx hb dJ6_bitCount_0f7a4_39 ?_
  refine lv_topi (fun x4 ex4 => ?_)
  have h := zz_nmE ex4 h
  refine lv_istore_n (lv' := [(0, .int x4)]) hx hb dJ6_bitCount_0f7a4_40 rfl hl (by decide) rfl (fun ls hl => ?_)
  refine lv_iload_n hx hb dJ6_bitCount_0f7a4_41 rfl (lv_at hl 0 rfl) ?_
  refine lv_iload_n hx hb dJ6_bitCount_0f7a4_42 rfl (lv_at hl 0 rfl) ?_
  refine lv_bipush (v := 16) hx hb dJ6_bitCount_0f7a4_43 (by decide) ?_
  refine lv_iushr (v := (x4.toUInt32 >>> ((16 : Int32).toUInt32 &&& Int32.toUInt32 31)).toInt32) hx hb dJ6_bitCount_0f7a4_45 rfl ?_
  refine lv_iadd hx hb dJ6_bitCount_0f7a4_46 ?_
  refine lv_topi (fun x5 ex5 => ?_)
  have h := zz_nmE ex5 h
  refine lv_istore_n (lv' := [(0, .int x5)]) hx hb dJ6_bitCount_0f7a4_47 rfl hl (by decide) rfl (fun ls hl => ?_)
  refine lv_iload_n hx hb dJ6_bitCount_0f7a4_48 rfl (lv_at hl 0 rfl) ?_
  refine lv_bipush (v := 63) hx hb dJ6_bitCount_0f7a4_49 (by decide) ?_
  refine lv_iand hx hb dJ6_bitCount_0f7a4_51 ?_
  exact zz_iret () hx hb hr hlocks dJ6_bitCount_0f7a4_52 (Option.some.inj h) hP hK hD hS
theorem hd_J13_bitCount_95d88 : yJ13_bitCount_95d88.cls ≠ "java/lang/invoke/MethodHandle" ∧ yJ13_bitCount_95d88.cls ≠ "java/lang/invoke/VarHandle" ∧ (parseMethodDescriptor yJ13_bitCount_95d88.desc).map (fun d => d.parameters.length) = some 1 := by decide +kernel
set_option maxRecDepth 20000 in
theorem lk_J13_bitCount_95d88_0 : Cond.constantLong RJ13 314 (6148914691236517205) ∈ wsJ13_bitCount_95d88 := by decide +kernel
set_option maxRecDepth 20000 in
theorem lk_J13_bitCount_95d88_1 : Cond.constantLong RJ13 316 (3689348814741910323) ∈ wsJ13_bitCount_95d88 := by decide +kernel
set_option maxRecDepth 20000 in
theorem lk_J13_bitCount_95d88_2 : Cond.constantLong RJ13 318 (1085102592571150095) ∈ wsJ13_bitCount_95d88 := by decide +kernel
set_option maxHeartbeats 4000000 in
set_option maxRecDepth 100000 in
theorem ct_J13_bitCount_95d88 (l : Launch) (dC : Nat → ClassId) (dI : Nat → Nat → Nat) (cI cJ cB cZ : ClassId) (p0 : Int64) (rr : Int32) (u0 : Unit) (h : fn_J13_bitCount_95d88 p0 = some (rr, u0)) : zz_M l yJ13_bitCount_95d88 wsJ13_bitCount_95d88 ({ frames := 0, cells := 0, slots := 0, locals := 0 }) (dC, dI) (zz_T cI cJ cB cZ) [.long p0] [] (zz_QI (dC, dI) (zz_T cI cJ cB cZ) (rr, u0) (fun (u : Unit) => [])) := by
  unfold fn_J13_bitCount_95d88 at h
  refine zz_of (by decide) rfl (Nat.le_of_ble_eq_true rfl) ?_
  intro p e s m below meth c A ls hx hb hr hml hts hown hlocks hA hS hP hK hD hl
  have hown : s.vm.findClass RJ13 = some m.cls := hown
  have hl : lv_has ls 2 [(0, .long p0)] := hl
  refine lv_lload_n hx hb dJ13_bitCount_95d88_0 rfl (lv_at hl 0 rfl) ?_
  refine lv_lload_n hx hb dJ13_bitCount_95d88_1 rfl (lv_at hl 0 rfl) ?_
  refine lv_iconst (v := 1) hx hb dJ13_bitCount_95d88_2 (by decide) ?_
  refine lv_lushr (v := (p0.toUInt64 >>> ((1 : Int32).toInt64.toUInt64 &&& Int64.toUInt64 63)).toInt64) hx hb dJ13_bitCount_95d88_3 rfl ?_
  refine lv_ldc2 (v := 6148914691236517205) hx hb hown (hts _ lk_J13_bitCount_95d88_0) dJ13_bitCount_95d88_4 ?_
  refine lv_land hx hb dJ13_bitCount_95d88_7 ?_
  refine lv_lsub hx hb dJ13_bitCount_95d88_8 ?_
  refine lv_topl (fun x1 ex1 => ?_)
  have h := zz_nmE ex1 h
  refine lv_lstore_n (lv' := [(0, .long x1)]) hx hb dJ13_bitCount_95d88_9 rfl hl (by decide) rfl (fun ls hl => ?_)
  refine lv_lload_n hx hb dJ13_bitCount_95d88_10 rfl (lv_at hl 0 rfl) ?_
  refine lv_ldc2 (v := 3689348814741910323) hx hb hown (hts _ lk_J13_bitCount_95d88_1) dJ13_bitCount_95d88_11 ?_
  refine lv_land hx hb dJ13_bitCount_95d88_14 ?_
  refine lv_lload_n hx hb dJ13_bitCount_95d88_15 rfl (lv_at hl 0 rfl) ?_
  refine lv_iconst (v := 2) hx hb dJ13_bitCount_95d88_16 (by decide) ?_
  refine lv_lushr (v := (x1.toUInt64 >>> ((2 : Int32).toInt64.toUInt64 &&& Int64.toUInt64 63)).toInt64) hx hb dJ13_bitCount_95d88_17 rfl ?_
  refine lv_ldc2 (v := 3689348814741910323) hx hb hown (hts _ lk_J13_bitCount_95d88_1) dJ13_bitCount_95d88_18 ?_
  refine lv_land hx hb dJ13_bitCount_95d88_21 ?_
  refine lv_ladd hx hb dJ13_bitCount_95d88_22 ?_
  refine lv_topl (fun x2 ex2 => ?_)
  have h := zz_nmE ex2 h
  refine lv_lstore_n (lv' := [(0, .long x2)]) hx hb dJ13_bitCount_95d88_23 rfl hl (by decide) rfl (fun ls hl => ?_)
  refine lv_lload_n hx hb dJ13_bitCount_95d88_24 rfl (lv_at hl 0 rfl) ?_
  refine lv_lload_n hx hb dJ13_bitCount_95d88_25 rfl (lv_at hl 0 rfl) ?_
  refine lv_iconst (v := 4) hx hb dJ13_bitCount_95d88_26 (by decide) ?_
  refine lv_lushr (v := (x2.toUInt64 >>> ((4 : Int32).toInt64.toUInt64 &&& Int64.toUInt64 63)).toInt64) hx hb dJ13_bitCount_95d88_27 rfl ?_
  refine lv_ladd hx hb dJ13_bitCount_95d88_28 ?_
  refine lv_ldc2 (v := 1085102592571150095) hx hb hown (hts _ lk_J13_bitCount_95d88_2) dJ13_bitCount_95d88_29 ?_
  refine lv_land hx hb dJ13_bitCount_95d88_32 ?_
  refine lv_topl (fun x3 ex3 => ?_)
  have h := zz_nmE ex3 h
  refine lv_lstore_n (lv' := [(0, .long x3)]) hx hb dJ13_bitCount_95d88_33 rfl hl (by decide) rfl (fun ls hl => ?_)
  refine lv_lload_n hx hb dJ13_bitCount_95d88_34 rfl (lv_at hl 0 rfl) ?_
  refine lv_lload_n hx hb dJ13_bitCount_95d88_35 rfl (lv_at hl 0 rfl) ?_
  refine lv_bipush (v := 8) hx hb dJ13_bitCount_95d88_36 (by decide) ?_
  refine lv_lushr (v := (x3.toUInt64 >>> ((8 : Int32).toInt64.toUInt64 &&& Int64.toUInt64 63)).toInt64) hx hb dJ13_bitCount_95d88_38 rfl ?_
  refine lv_ladd hx hb dJ13_bitCount_95d88_39 ?_
  refine lv_topl (fun x4 ex4 => ?_)
  have h := zz_nmE ex4 h
  refine lv_lstore_n (lv' := [(0, .long x4)]) hx hb dJ13_bitCount_95d88_40 rfl hl (by decide) rfl (fun ls hl => ?_)
  refine lv_lload_n hx hb dJ13_bitCount_95d88_41 rfl (lv_at hl 0 rfl) ?_
  refine lv_lload_n hx hb dJ13_bitCount_95d88_42 rfl (lv_at hl 0 rfl) ?_
  refine lv_bipush (v := 16) hx hb dJ13_bitCount_95d88_43 (by decide) ?_
  refine lv_lushr (v := (x4.toUInt64 >>> ((16 : Int32).toInt64.toUInt64 &&& Int64.toUInt64 63)).toInt64) hx hb dJ13_bitCount_95d88_45 rfl ?_
  refine lv_ladd hx hb dJ13_bitCount_95d88_46 ?_
  refine lv_topl (fun x5 ex5 => ?_)
  have h := zz_nmE ex5 h
  refine lv_lstore_n (lv' := [(0, .long x5)]) hx hb dJ13_bitCount_95d88_47 rfl hl (by decide) rfl (fun ls hl => ?_)
  refine lv_lload_n hx hb dJ13_bitCount_95d88_48 rfl (lv_at hl 0 rfl) ?_
  refine lv_lload_n hx hb dJ13_bitCount_95d88_49 rfl (lv_at hl 0 rfl) ?_
  refine lv_bipush (v := 32) hx hb dJ13_bitCount_95d88_50 (by decide) ?_
  refine lv_lushr (v := (x5.toUInt64 >>> ((32 : Int32).toInt64.toUInt64 &&& Int64.toUInt64 63)).toInt64) hx hb dJ13_bitCount_95d88_52 rfl ?_
  refine lv_ladd hx hb dJ13_bitCount_95d88_53 ?_
  refine lv_topl (fun x6 ex6 => ?_)
  have h := zz_nmE ex6 h
  refine lv_lstore_n (lv' := [(0, .long x6)]) hx hb dJ13_bitCount_95d88_54 rfl hl (by decide) rfl (fun ls hl => ?_)
  refine lv_lload_n hx hb dJ13_bitCount_95d88_55 rfl (lv_at hl 0 rfl) ?_
  refine lv_l2i (v := x6.toInt32) hx hb dJ13_bitCount_95d88_56 rfl ?_
  refine lv_bipush (v := 127) hx hb dJ13_bitCount_95d88_57 (by decide) ?_
  refine lv_iand hx hb dJ13_bitCount_95d88_59 ?_
  exact zz_iret () hx hb hr hlocks dJ13_bitCount_95d88_60 (Option.some.inj h) hP hK hD hS
theorem hd_X4_clear : yX4_clear.cls ≠ "java/lang/invoke/MethodHandle" ∧ yX4_clear.cls ≠ "java/lang/invoke/VarHandle" ∧ (parseMethodDescriptor yX4_clear.desc).map (fun d => d.parameters.length) = some 0 := by decide +kernel
set_option maxRecDepth 20000 in
theorem in_X4_clear_X4 : ∀ w ∈ u_ws RX4 TX4 3, w ∈ wsX4_clear := by decide +kernel
set_option maxRecDepth 20000 in
theorem lk_X4_clear_0 : Cond.fieldLink RX4 9 "TwoHousesOneChild$Reading" "zero" "J" ∈ wsX4_clear := by decide +kernel
set_option maxRecDepth 20000 in
theorem lk_X4_clear_1 : Cond.fieldLink RX4 15 "TwoHousesOneChild$Reading" "one" "J" ∈ wsX4_clear := by decide +kernel
set_option maxRecDepth 20000 in
theorem lk_X4_clear_2 : Cond.fieldLink RX4 18 "TwoHousesOneChild$Reading" "fights" "J" ∈ wsX4_clear := by decide +kernel
set_option maxHeartbeats 4000000 in
set_option maxRecDepth 100000 in
theorem ct_X4_clear (l : Launch) (dC : Nat → ClassId) (dI : Nat → Nat → Nat) (cI cJ cB cZ : ClassId) (a_t : Nat) (t_zero : Int64) (t_one : Int64) (t_fights : Int64) (o1 : Int64) (o2 : Int64) (o3 : Int64) (h : fn_X4_clear  = some (o1, o2, o3)) : zz_M l yX4_clear wsX4_clear ({ frames := 0, cells := 0, slots := 0, locals := 0 }) (dC, dI) (zz_T cI cJ cB cZ) [.ref a_t] [(a_t, .inr (3, [.long t_zero, .long t_one, .long t_fights]))] (zz_QV (dC, dI) (zz_T cI cJ cB cZ) (o1, o2, o3) (fun (u : Int64 × Int64 × Int64) => [(a_t, .inr (3, [.long u.1, .long u.2.1, .long u.2.2]))])) := by
  unfold fn_X4_clear at h
  refine zz_of (by decide) rfl (Nat.le_of_ble_eq_true rfl) ?_
  intro p e s m below meth c A ls hx hb hr hml hts hown hlocks hA hS hP hK hD hl
  have hown : s.vm.findClass RX4 = some m.cls := hown
  have hl : lv_has ls 1 [(0, .ref a_t)] := hl
  refine lv_aload_n hx hb dX4_clear_0 rfl (lv_at hl 0 rfl) ?_
  refine lv_lconst (v := 0) hx hb dX4_clear_1 (by decide) ?_
  refine va_put (ci := 3) (v := .long 0) (ty := .long) (C := RX4) (T := TX4) (N := 3) hx hb hts in_X4_clear_X4 tyX4 tyX4_ok nmX4 hown hK hP hD hS 0 rfl rfl 0 (by decide) (hts _ lk_X4_clear_0) (fun _ h9 => h9) rfl (by decide +kernel) rfl rfl (Nat.le_of_ble_eq_true rfl) dX4_clear_2 (fun H locs hP hD hS => ?_)
  have hP : va_P (dC, dI) vwCl [(a_t, .inr (3, [.long 0, .long t_one, .long t_fights]))] H := hP
  have hD : va_D A [(a_t, .inr (3, [.long 0, .long t_one, .long t_fights]))] := hD
  refine lv_aload_n hx hb dX4_clear_5 rfl (lv_at hl 0 rfl) ?_
  refine lv_lconst (v := 0) hx hb dX4_clear_6 (by decide) ?_
  refine va_put (ci := 3) (v := .long 0) (ty := .long) (C := RX4) (T := TX4) (N := 3) hx hb hts in_X4_clear_X4 tyX4 tyX4_ok nmX4 hown hK hP hD hS 0 rfl rfl 1 (by decide) (hts _ lk_X4_clear_1) (fun _ h9 => h9) rfl (by decide +kernel) rfl rfl (Nat.le_of_ble_eq_true rfl) dX4_clear_7 (fun H locs hP hD hS => ?_)
  have hP : va_P (dC, dI) vwCl [(a_t, .inr (3, [.long 0, .long 0, .long t_fights]))] H := hP
  have hD : va_D A [(a_t, .inr (3, [.long 0, .long 0, .long t_fights]))] := hD
  refine lv_aload_n hx hb dX4_clear_10 rfl (lv_at hl 0 rfl) ?_
  refine lv_lconst (v := 0) hx hb dX4_clear_11 (by decide) ?_
  refine va_put (ci := 3) (v := .long 0) (ty := .long) (C := RX4) (T := TX4) (N := 3) hx hb hts in_X4_clear_X4 tyX4 tyX4_ok nmX4 hown hK hP hD hS 0 rfl rfl 2 (by decide) (hts _ lk_X4_clear_2) (fun _ h9 => h9) rfl (by decide +kernel) rfl rfl (Nat.le_of_ble_eq_true rfl) dX4_clear_12 (fun H locs hP hD hS => ?_)
  have hP : va_P (dC, dI) vwCl [(a_t, .inr (3, [.long 0, .long 0, .long 0]))] H := hP
  have hD : va_D A [(a_t, .inr (3, [.long 0, .long 0, .long 0]))] := hD
  exact zz_vret (0, 0, 0) hx hb hr hlocks dX4_clear_15 (Option.some.inj h) hP hK hD hS
theorem hd_X4_nightsThatAre : yX4_nightsThatAre.cls ≠ "java/lang/invoke/MethodHandle" ∧ yX4_nightsThatAre.cls ≠ "java/lang/invoke/VarHandle" ∧ (parseMethodDescriptor yX4_nightsThatAre.desc).map (fun d => d.parameters.length) = some 1 := by decide +kernel
set_option maxRecDepth 20000 in
theorem in_X4_nightsThatAre_X4 : ∀ w ∈ u_ws RX4 TX4 3, w ∈ wsX4_nightsThatAre := by decide +kernel
set_option maxRecDepth 20000 in
theorem lk_X4_nightsThatAre_0 : Cond.fieldLink RX4 9 "TwoHousesOneChild$Reading" "zero" "J" ∈ wsX4_nightsThatAre := by decide +kernel
set_option maxRecDepth 20000 in
theorem lk_X4_nightsThatAre_1 : Cond.fieldLink RX4 15 "TwoHousesOneChild$Reading" "one" "J" ∈ wsX4_nightsThatAre := by decide +kernel
set_option maxRecDepth 20000 in
theorem lk_X4_nightsThatAre_2 : Cond.constantLong RX4 27 (72057594037927935) ∈ wsX4_nightsThatAre := by decide +kernel
set_option maxRecDepth 20000 in
theorem lk_X4_nightsThatAre_3 : Cond.fieldLink RX4 18 "TwoHousesOneChild$Reading" "fights" "J" ∈ wsX4_nightsThatAre := by decide +kernel
set_option maxRecDepth 20000 in
theorem lk_X4_nightsThatAre_4 : Cond.constantLong RX4 25 (-1) ∈ wsX4_nightsThatAre := by decide +kernel
set_option maxHeartbeats 4000000 in
set_option maxRecDepth 100000 in
theorem ct_X4_nightsThatAre (l : Launch) (dC : Nat → ClassId) (dI : Nat → Nat → Nat) (cI cJ cB cZ : ClassId) (a_t : Nat) (t_zero : Int64) (t_one : Int64) (t_fights : Int64) (p1 : Int32) (rr : Int64) (u0 : Unit) (h : fn_X4_nightsThatAre t_zero t_one t_fights p1 = some (rr, u0)) : zz_M l yX4_nightsThatAre wsX4_nightsThatAre ({ frames := 0, cells := 0, slots := 0, locals := 0 }) (dC, dI) (zz_T cI cJ cB cZ) [.ref a_t, .int p1] [(a_t, .inr (3, [.long t_zero, .long t_one, .long t_fights]))] (zz_QL (dC, dI) (zz_T cI cJ cB cZ) (rr, u0) (fun (u : Unit) => [(a_t, .inr (3, [.long t_zero, .long t_one, .long t_fights]))])) := by
  unfold fn_X4_nightsThatAre at h
  refine zz_of (by decide) rfl (Nat.le_of_ble_eq_true rfl) ?_
  intro p e s m below meth c A ls hx hb hr hml hts hown hlocks hA hS hP hK hD hl
  have hown : s.vm.findClass RX4 = some m.cls := hown
  have hl : lv_has ls 2 [(0, .ref a_t), (1, .int p1)] := hl
  refine lv_iload_n hx hb dX4_nightsThatAre_0 rfl (lv_at hl 1 rfl) ?_
  by_cases c1_0 : p1 = 0
  · have h := zz_if c1_0 h
    refine lv_tableIn (tgt := 28) hx hb dX4_nightsThatAre_1 (by rw [c1_0]; decide) (by rw [c1_0]; decide) (off := 27) (by rw [c1_0]; rfl) (by decide) ?_
    refine lv_aload_n hx hb dX4_nightsThatAre_28 rfl (lv_at hl 0 rfl) ?_
    refine va_get (ci := 3) (v := .long t_zero) (C := RX4) (T := TX4) (N := 3) hx hb hts in_X4_nightsThatAre_X4 hown hK hP 0 rfl rfl 0 (by decide) (hts _ lk_X4_nightsThatAre_0) (fun _ h9 => h9) rfl dX4_nightsThatAre_29 ?_
    exact zz_lret () hx hb hr hlocks dX4_nightsThatAre_32 (Option.some.inj h) hP hK hD hS
  have h := zz_ifn c1_0 h
  by_cases c1_1 : p1 = 1
  · have h := zz_if c1_1 h
    refine lv_tableIn (tgt := 33) hx hb dX4_nightsThatAre_1 (by rw [c1_1]; decide) (by rw [c1_1]; decide) (off := 32) (by rw [c1_1]; rfl) (by decide) ?_
    refine lv_aload_n hx hb dX4_nightsThatAre_33 rfl (lv_at hl 0 rfl) ?_
    refine va_get (ci := 3) (v := .long t_one) (C := RX4) (T := TX4) (N := 3) hx hb hts in_X4_nightsThatAre_X4 hown hK hP 0 rfl rfl 1 (by decide) (hts _ lk_X4_nightsThatAre_1) (fun _ h9 => h9) rfl dX4_nightsThatAre_34 ?_
    exact zz_lret () hx hb hr hlocks dX4_nightsThatAre_37 (Option.some.inj h) hP hK hD hS
  have h := zz_ifn c1_1 h
  by_cases c1_2 : p1 = 2
  · have h := zz_if c1_2 h
    refine lv_tableIn (tgt := 38) hx hb dX4_nightsThatAre_1 (by rw [c1_2]; decide) (by rw [c1_2]; decide) (off := 37) (by rw [c1_2]; rfl) (by decide) ?_
    refine lv_ldc2 (v := 72057594037927935) hx hb hown (hts _ lk_X4_nightsThatAre_2) dX4_nightsThatAre_38 ?_
    refine lv_aload_n hx hb dX4_nightsThatAre_41 rfl (lv_at hl 0 rfl) ?_
    refine va_get (ci := 3) (v := .long t_zero) (C := RX4) (T := TX4) (N := 3) hx hb hts in_X4_nightsThatAre_X4 hown hK hP 0 rfl rfl 0 (by decide) (hts _ lk_X4_nightsThatAre_0) (fun _ h9 => h9) rfl dX4_nightsThatAre_42 ?_
    refine lv_aload_n hx hb dX4_nightsThatAre_45 rfl (lv_at hl 0 rfl) ?_
    refine va_get (ci := 3) (v := .long t_one) (C := RX4) (T := TX4) (N := 3) hx hb hts in_X4_nightsThatAre_X4 hown hK hP 0 rfl rfl 1 (by decide) (hts _ lk_X4_nightsThatAre_1) (fun _ h9 => h9) rfl dX4_nightsThatAre_46 ?_
    refine lv_lor hx hb dX4_nightsThatAre_49 ?_
    refine lv_aload_n hx hb dX4_nightsThatAre_50 rfl (lv_at hl 0 rfl) ?_
    refine va_get (ci := 3) (v := .long t_fights) (C := RX4) (T := TX4) (N := 3) hx hb hts in_X4_nightsThatAre_X4 hown hK hP 0 rfl rfl 2 (by decide) (hts _ lk_X4_nightsThatAre_3) (fun _ h9 => h9) rfl dX4_nightsThatAre_51 ?_
    refine lv_lor hx hb dX4_nightsThatAre_54 ?_
    refine lv_ldc2 (v := (-1)) hx hb hown (hts _ lk_X4_nightsThatAre_4) dX4_nightsThatAre_55 ?_
    refine lv_lxor hx hb dX4_nightsThatAre_58 ?_
    refine lv_land hx hb dX4_nightsThatAre_59 ?_
    exact zz_lret () hx hb hr hlocks dX4_nightsThatAre_60 (Option.some.inj h) hP hK hD hS
  have h := zz_ifn c1_2 h
  have nc1_0 := zz_ne (k := 0) rfl c1_0
  have nc1_1 := zz_ne (k := 1) rfl c1_1
  have nc1_2 := zz_ne (k := 2) rfl c1_2
  refine lv_tableOut (tgt := 61) hx hb dX4_nightsThatAre_1 (by omega) (by decide) ?_
  refine lv_aload_n hx hb dX4_nightsThatAre_61 rfl (lv_at hl 0 rfl) ?_
  refine va_get (ci := 3) (v := .long t_fights) (C := RX4) (T := TX4) (N := 3) hx hb hts in_X4_nightsThatAre_X4 hown hK hP 0 rfl rfl 2 (by decide) (hts _ lk_X4_nightsThatAre_3) (fun _ h9 => h9) rfl dX4_nightsThatAre_62 ?_
  exact zz_lret () hx hb hr hlocks dX4_nightsThatAre_65 (Option.some.inj h) hP hK hD hS
theorem hd_X4_settle : yX4_settle.cls ≠ "java/lang/invoke/MethodHandle" ∧ yX4_settle.cls ≠ "java/lang/invoke/VarHandle" ∧ (parseMethodDescriptor yX4_settle.desc).map (fun d => d.parameters.length) = some 2 := by decide +kernel
set_option maxRecDepth 20000 in
theorem in_X4_settle_X4 : ∀ w ∈ u_ws RX4 TX4 3, w ∈ wsX4_settle := by decide +kernel
set_option maxRecDepth 20000 in
theorem lk_X4_settle_0 : Cond.fieldLink RX4 18 "TwoHousesOneChild$Reading" "fights" "J" ∈ wsX4_settle := by decide +kernel
set_option maxRecDepth 20000 in
theorem lk_X4_settle_1 : Cond.fieldLink RX4 9 "TwoHousesOneChild$Reading" "zero" "J" ∈ wsX4_settle := by decide +kernel
set_option maxRecDepth 20000 in
theorem lk_X4_settle_2 : Cond.constantLong RX4 25 (-1) ∈ wsX4_settle := by decide +kernel
set_option maxRecDepth 20000 in
theorem lk_X4_settle_3 : Cond.fieldLink RX4 15 "TwoHousesOneChild$Reading" "one" "J" ∈ wsX4_settle := by decide +kernel
set_option maxHeartbeats 4000000 in
set_option maxRecDepth 100000 in
theorem ct_X4_settle (l : Launch) (dC : Nat → ClassId) (dI : Nat → Nat → Nat) (cI cJ cB cZ : ClassId) (a_t : Nat) (t_zero : Int64) (t_one : Int64) (t_fights : Int64) (p1 : Int64) (p3 : Int64) (o1 : Int64) (o2 : Int64) (o3 : Int64) (h : fn_X4_settle t_zero t_one t_fights p1 p3 = some (o1, o2, o3)) : zz_M l yX4_settle wsX4_settle ({ frames := 1, cells := 0, slots := 0, locals := 21 }) (dC, dI) (zz_T cI cJ cB cZ) [.ref a_t, .long p1, .long p3] [(a_t, .inr (3, [.long t_zero, .long t_one, .long t_fights]))] (zz_QV (dC, dI) (zz_T cI cJ cB cZ) (o1, o2, o3) (fun (u : Int64 × Int64 × Int64) => [(a_t, .inr (3, [.long u.1, .long u.2.1, .long u.2.2]))])) := by
  unfold fn_X4_settle at h
  refine zz_of (by decide) rfl (Nat.le_of_ble_eq_true rfl) ?_
  intro p e s m below meth c A ls hx hb hr hml hts hown hlocks hA hS hP hK hD hl
  have hown : s.vm.findClass RX4 = some m.cls := hown
  have hl : lv_has ls 7 [(0, .ref a_t), (1, .long p1), (3, .long p3)] := hl
  refine lv_aload_n hx hb dX4_settle_0 rfl (lv_at hl 0 rfl) ?_
  refine lv_iconst (v := 2) hx hb dX4_settle_1 (by decide) ?_
  obtain ⟨x1, u2, he3, h⟩ := zz_b2E h
  refine zz_VL (q := (RX4, TX4, 3)) (As := [.int 2]) (rest := []) (wr := []) (wm := [(a_t, .inr (3, [.long t_zero, .long t_one, .long t_fights]))]) ⟨hx, hb, hml, hown, hts⟩ (ct_X4_nightsThatAre l dC dI cI cJ cB cZ a_t t_zero t_one t_fights (2 : Int32) x1 u2 he3) gX4_settle_X4_nightsThatAre hd_X4_nightsThatAre rfl rfl rfl ⟨Nat.le_of_ble_eq_true rfl, Nat.le_of_ble_eq_true rfl⟩ ⟨Nat.le_of_ble_eq_true rfl, Nat.le_of_ble_eq_true rfl⟩ rfl rfl (Nat.le_of_ble_eq_true rfl) dX4_settle_2 hl.1 rfl (ci := 3) rfl (q0 := 0) rfl hP hK hD hS hA [0] [] [0] rfl rfl (by decide) (by decide) (by decide) (by decide) rfl (fun H locs hP hD hS => ?_)
  refine lv_lstore (lv' := [(5, .long x1), (0, .ref a_t), (1, .long p1), (3, .long p3)]) hx hb dX4_settle_5 hl (by decide) rfl (fun ls hl => ?_)
  refine lv_aload_n hx hb dX4_settle_7 rfl (lv_at hl 1 rfl) ?_
  refine lv_dup hx hb dX4_settle_8 rfl ?_
  refine va_get (ci := 3) (v := .long t_fights) (C := RX4) (T := TX4) (N := 3) hx hb hts in_X4_settle_X4 hown hK hP 0 rfl rfl 2 (by decide) (hts _ lk_X4_settle_0) (fun _ h9 => h9) rfl dX4_settle_9 ?_
  refine lv_lload_n hx hb dX4_settle_12 rfl (lv_at hl 2 rfl) ?_
  refine lv_lload_n hx hb dX4_settle_13 rfl (lv_at hl 3 rfl) ?_
  refine lv_land hx hb dX4_settle_14 ?_
  refine lv_lload hx hb dX4_settle_15 (lv_at hl 0 rfl) ?_
  refine lv_land hx hb dX4_settle_17 ?_
  refine lv_lor hx hb dX4_settle_18 ?_
  refine lv_topl (fun x4 ex4 => ?_)
  have h := zz_nmE ex4 h
  refine va_put (ci := 3) (v := .long x4) (ty := .long) (C := RX4) (T := TX4) (N := 3) hx hb hts in_X4_settle_X4 tyX4 tyX4_ok nmX4 hown hK hP hD hS 0 rfl rfl 2 (by decide) (hts _ lk_X4_settle_0) (fun _ h9 => h9) rfl (by decide +kernel) rfl rfl (Nat.le_of_ble_eq_true rfl) dX4_settle_19 (fun H locs hP hD hS => ?_)
  have hP : va_P (dC, dI) vwCl [(a_t, .inr (3, [.long t_zero, .long t_one, .long x4]))] H := hP
  have hD : va_D A [(a_t, .inr (3, [.long t_zero, .long t_one, .long x4]))] := hD
  refine lv_aload_n hx hb dX4_settle_22 rfl (lv_at hl 1 rfl) ?_
  refine lv_dup hx hb dX4_settle_23 rfl ?_
  refine va_get (ci := 3) (v := .long t_zero) (C := RX4) (T := TX4) (N := 3) hx hb hts in_X4_settle_X4 hown hK hP 0 rfl rfl 0 (by decide) (hts _ lk_X4_settle_1) (fun _ h9 => h9) rfl dX4_settle_24 ?_
  refine lv_lload_n hx hb dX4_settle_27 rfl (lv_at hl 2 rfl) ?_
  refine lv_lload_n hx hb dX4_settle_28 rfl (lv_at hl 3 rfl) ?_
  refine lv_ldc2 (v := (-1)) hx hb hown (hts _ lk_X4_settle_2) dX4_settle_29 ?_
  refine lv_lxor hx hb dX4_settle_32 ?_
  refine lv_land hx hb dX4_settle_33 ?_
  refine lv_lload hx hb dX4_settle_34 (lv_at hl 0 rfl) ?_
  refine lv_land hx hb dX4_settle_36 ?_
  refine lv_lor hx hb dX4_settle_37 ?_
  refine lv_topl (fun x5 ex5 => ?_)
  have h := zz_nmE ex5 h
  refine va_put (ci := 3) (v := .long x5) (ty := .long) (C := RX4) (T := TX4) (N := 3) hx hb hts in_X4_settle_X4 tyX4 tyX4_ok nmX4 hown hK hP hD hS 0 rfl rfl 0 (by decide) (hts _ lk_X4_settle_1) (fun _ h9 => h9) rfl (by decide +kernel) rfl rfl (Nat.le_of_ble_eq_true rfl) dX4_settle_38 (fun H locs hP hD hS => ?_)
  have hP : va_P (dC, dI) vwCl [(a_t, .inr (3, [.long x5, .long t_one, .long x4]))] H := hP
  have hD : va_D A [(a_t, .inr (3, [.long x5, .long t_one, .long x4]))] := hD
  refine lv_aload_n hx hb dX4_settle_41 rfl (lv_at hl 1 rfl) ?_
  refine lv_dup hx hb dX4_settle_42 rfl ?_
  refine va_get (ci := 3) (v := .long t_one) (C := RX4) (T := TX4) (N := 3) hx hb hts in_X4_settle_X4 hown hK hP 0 rfl rfl 1 (by decide) (hts _ lk_X4_settle_3) (fun _ h9 => h9) rfl dX4_settle_43 ?_
  refine lv_lload_n hx hb dX4_settle_46 rfl (lv_at hl 3 rfl) ?_
  refine lv_lload_n hx hb dX4_settle_47 rfl (lv_at hl 2 rfl) ?_
  refine lv_ldc2 (v := (-1)) hx hb hown (hts _ lk_X4_settle_2) dX4_settle_48 ?_
  refine lv_lxor hx hb dX4_settle_51 ?_
  refine lv_land hx hb dX4_settle_52 ?_
  refine lv_lload hx hb dX4_settle_53 (lv_at hl 0 rfl) ?_
  refine lv_land hx hb dX4_settle_55 ?_
  refine lv_lor hx hb dX4_settle_56 ?_
  refine lv_topl (fun x6 ex6 => ?_)
  have h := zz_nmE ex6 h
  refine va_put (ci := 3) (v := .long x6) (ty := .long) (C := RX4) (T := TX4) (N := 3) hx hb hts in_X4_settle_X4 tyX4 tyX4_ok nmX4 hown hK hP hD hS 0 rfl rfl 1 (by decide) (hts _ lk_X4_settle_3) (fun _ h9 => h9) rfl (by decide +kernel) rfl rfl (Nat.le_of_ble_eq_true rfl) dX4_settle_57 (fun H locs hP hD hS => ?_)
  have hP : va_P (dC, dI) vwCl [(a_t, .inr (3, [.long x5, .long x6, .long x4]))] H := hP
  have hD : va_D A [(a_t, .inr (3, [.long x5, .long x6, .long x4]))] := hD
  exact zz_vret (x5, x6, x4) hx hb hr hlocks dX4_settle_60 (Option.some.inj h) hP hK hD hS
theorem hd_X2_nightsOfOne : yX2_nightsOfOne.cls ≠ "java/lang/invoke/MethodHandle" ∧ yX2_nightsOfOne.cls ≠ "java/lang/invoke/VarHandle" ∧ (parseMethodDescriptor yX2_nightsOfOne.desc).map (fun d => d.parameters.length) = some 2 := by decide +kernel
set_option maxRecDepth 20000 in
theorem in_X2_nightsOfOne_X2 : ∀ w ∈ u_ws RX2 TX2 6, w ∈ wsX2_nightsOfOne := by decide +kernel
set_option maxRecDepth 20000 in
theorem lk_X2_nightsOfOne_0 : Cond.fieldLink RX2 25 "TwoHousesOneChild$Paper" "turnsByYear" "[Z" ∈ wsX2_nightsOfOne := by decide +kernel
set_option maxRecDepth 20000 in
theorem lk_X2_nightsOfOne_1 : Cond.fieldLink RX2 22 "TwoHousesOneChild$Paper" "ones" "[J" ∈ wsX2_nightsOfOne := by decide +kernel
set_option maxRecDepth 20000 in
theorem lk_X2_nightsOfOne_2 : Cond.fieldLink RX2 18 "TwoHousesOneChild$Paper" "told" "[J" ∈ wsX2_nightsOfOne := by decide +kernel
set_option maxRecDepth 20000 in
theorem lk_X2_nightsOfOne_3 : Cond.constantLong RX2 37 (-1) ∈ wsX2_nightsOfOne := by decide +kernel
set_option maxHeartbeats 4000000 in
set_option maxRecDepth 100000 in
theorem ct_X2_nightsOfOne (l : Launch) (dC : Nat → ClassId) (dI : Nat → Nat → Nat) (cI cJ cB cZ : ClassId) (a_t a_t_ones a_t_told a_t_turnsByYear a_t_numbers a_t_ranks : Nat) (t_size : Int32) (t_ones : (Nat → Int64)) (t_told : (Nat → Int64)) (t_turnsByYear : (Nat → Int32)) (p1 : Int32) (p2 : Int32) (rr : Int64) (u0 : Unit) (h : fn_X2_nightsOfOne t_ones t_told t_turnsByYear p1 p2 = some (rr, u0)) : zz_M l yX2_nightsOfOne wsX2_nightsOfOne ({ frames := 0, cells := 0, slots := 0, locals := 0 }) (dC, dI) (zz_T cI cJ cB cZ) [.ref a_t, .int p1, .int p2] [(a_t, .inr (1, [.int t_size, .ref a_t_numbers, .ref a_t_ranks, .ref a_t_told, .ref a_t_ones, .ref a_t_turnsByYear])), (a_t_ones, .inl (cJ, 10, .inr (.inl t_ones))), (a_t_told, .inl (cJ, 10, .inr (.inl t_told))), (a_t_turnsByYear, .inl (cZ, 10, .inl t_turnsByYear))] (zz_QL (dC, dI) (zz_T cI cJ cB cZ) (rr, u0) (fun (u : Unit) => [(a_t, .inr (1, [.int t_size, .ref a_t_numbers, .ref a_t_ranks, .ref a_t_told, .ref a_t_ones, .ref a_t_turnsByYear])), (a_t_ones, .inl (cJ, 10, .inr (.inl t_ones))), (a_t_told, .inl (cJ, 10, .inr (.inl t_told))), (a_t_turnsByYear, .inl (cZ, 10, .inl t_turnsByYear))])) := by
  unfold fn_X2_nightsOfOne at h
  refine zz_of (by decide) rfl (Nat.le_of_ble_eq_true rfl) ?_
  intro p e s m below meth c A ls hx hb hr hml hts hown hlocks hA hS hP hK hD hl
  have hown : s.vm.findClass RX2 = some m.cls := hown
  have hl : lv_has ls 4 [(0, .ref a_t), (1, .int p1), (2, .int p2)] := hl
  refine lv_iload_n hx hb dX2_nightsOfOne_0 rfl (lv_at hl 1 rfl) ?_
  refine lv_if_lt (tgt := 10) hx hb dX2_nightsOfOne_1 (by decide) (fun c1 => ?_) (fun c1 => ?_)
  · have h := zz_if c1 h
    refine lv_lconst (v := 0) hx hb dX2_nightsOfOne_10 (by decide) ?_
    exact zz_lret () hx hb hr hlocks dX2_nightsOfOne_11 (Option.some.inj h) hP hK hD hS
  · have h := zz_ifn c1 h
    refine lv_iload_n hx hb dX2_nightsOfOne_4 rfl (lv_at hl 1 rfl) ?_
    refine lv_bipush (v := 10) hx hb dX2_nightsOfOne_5 (by decide) ?_
    refine lv_icmp_lt (tgt := 12) hx hb dX2_nightsOfOne_7 (by decide) (fun c2 => ?_) (fun c2 => ?_)
    · have h := zz_if c2 h
      refine lv_aload_n hx hb dX2_nightsOfOne_12 rfl (lv_at hl 0 rfl) ?_
      refine va_get (ci := 1) (v := .ref a_t_turnsByYear) (C := RX2) (T := TX2) (N := 6) hx hb hts in_X2_nightsOfOne_X2 hown hK hP 0 rfl rfl 5 (by decide) (hts _ lk_X2_nightsOfOne_0) (fun _ h9 => h9) rfl dX2_nightsOfOne_13 ?_
      refine lv_iload_n hx hb dX2_nightsOfOne_16 rfl (lv_at hl 1 rfl) ?_
      obtain ⟨hi3, h⟩ := zz_chkE h
      refine va_zald hx hb hK hP 3 3 rfl rfl hi3 dX2_nightsOfOne_17 ?_
      obtain ⟨x6, hj7, h⟩ := zz_b1E h
      refine zz_cut (fun V => ∀ (H : Heap) (locs : List Loc) (ls : Array Slot), va_P (dC, dI) vwCl [(a_t, .inr (1, [.int t_size, .ref a_t_numbers, .ref a_t_ranks, .ref a_t_told, .ref a_t_ones, .ref a_t_turnsByYear])), (a_t_ones, .inl (cJ, 10, .inr (.inl t_ones))), (a_t_told, .inl (cJ, 10, .inr (.inl t_told))), (a_t_turnsByYear, .inl (cZ, 10, .inl t_turnsByYear))] H → va_D A [(a_t, .inr (1, [.int t_size, .ref a_t_numbers, .ref a_t_ranks, .ref a_t_told, .ref a_t_ones, .ref a_t_turnsByYear])), (a_t_ones, .inl (cJ, 10, .inr (.inl t_ones))), (a_t_told, .inl (cJ, 10, .inr (.inl t_told))), (a_t_turnsByYear, .inl (cZ, 10, .inl t_turnsByYear))] → va_S A s.heap H locs → lv_has ls 4 [(0, .ref a_t), (1, .int p1)] → V H locs (F0 m 32 ls [.int x6])) ?_ (fun hJ7 => ?_)
      · intro H locs ls hP hD hS hl
        refine lv_istore_n (lv' := [(3, .int x6), (0, .ref a_t), (1, .int p1)]) hx hb dX2_nightsOfOne_32 rfl hl (by decide) rfl (fun ls hl => ?_)
        refine lv_iload_n hx hb dX2_nightsOfOne_33 rfl (lv_at hl 0 rfl) ?_
        refine lv_if_eq (tgt := 57) hx hb dX2_nightsOfOne_34 (by decide) (fun c8 => ?_) (fun c8 => ?_)
        · have h := zz_if c8 h
          refine lv_aload_n hx hb dX2_nightsOfOne_57 rfl (lv_at hl 1 rfl) ?_
          refine va_get (ci := 1) (v := .ref a_t_ones) (C := RX2) (T := TX2) (N := 6) hx hb hts in_X2_nightsOfOne_X2 hown hK hP 0 rfl rfl 4 (by decide) (hts _ lk_X2_nightsOfOne_1) (fun _ h9 => h9) rfl dX2_nightsOfOne_58 ?_
          refine lv_iload_n hx hb dX2_nightsOfOne_61 rfl (lv_at hl 2 rfl) ?_
          obtain ⟨hi9, h⟩ := zz_chkE h
          refine va_lald hx hb hK hP 1 1 rfl rfl hi9 dX2_nightsOfOne_62 ?_
          exact zz_lret () hx hb hr hlocks dX2_nightsOfOne_63 (Option.some.inj h) hP hK hD hS
        · have h := zz_ifn c8 h
          refine lv_aload_n hx hb dX2_nightsOfOne_37 rfl (lv_at hl 1 rfl) ?_
          refine va_get (ci := 1) (v := .ref a_t_told) (C := RX2) (T := TX2) (N := 6) hx hb hts in_X2_nightsOfOne_X2 hown hK hP 0 rfl rfl 3 (by decide) (hts _ lk_X2_nightsOfOne_2) (fun _ h9 => h9) rfl dX2_nightsOfOne_38 ?_
          refine lv_iload_n hx hb dX2_nightsOfOne_41 rfl (lv_at hl 2 rfl) ?_
          obtain ⟨hi10, h⟩ := zz_chkE h
          refine va_lald hx hb hK hP 2 1 rfl rfl hi10 dX2_nightsOfOne_42 ?_
          refine lv_aload_n hx hb dX2_nightsOfOne_43 rfl (lv_at hl 1 rfl) ?_
          refine va_get (ci := 1) (v := .ref a_t_ones) (C := RX2) (T := TX2) (N := 6) hx hb hts in_X2_nightsOfOne_X2 hown hK hP 0 rfl rfl 4 (by decide) (hts _ lk_X2_nightsOfOne_1) (fun _ h9 => h9) rfl dX2_nightsOfOne_44 ?_
          refine lv_iload_n hx hb dX2_nightsOfOne_47 rfl (lv_at hl 2 rfl) ?_
          obtain ⟨hi11, h⟩ := zz_chkE h
          refine va_lald hx hb hK hP 1 1 rfl rfl hi11 dX2_nightsOfOne_48 ?_
          refine lv_ldc2 (v := (-1)) hx hb hown (hts _ lk_X2_nightsOfOne_3) dX2_nightsOfOne_49 ?_
          refine lv_lxor hx hb dX2_nightsOfOne_52 ?_
          refine lv_land hx hb dX2_nightsOfOne_53 ?_
          refine lv_goto (tgt := 63) hx hb dX2_nightsOfOne_54 (by decide) ?_
          exact zz_lret () hx hb hr hlocks dX2_nightsOfOne_63 (Option.some.inj h) hP hK hD hS
      refine lv_if_eq (tgt := 31) hx hb dX2_nightsOfOne_18 (by decide) (fun c4 => ?_) (fun c4 => ?_)
      · have hj7 := zz_if c4 hj7
        refine lv_iconst (v := 0) hx hb dX2_nightsOfOne_31 (by decide) ?_
        cases hj7
        exact hJ7 _ _ ls hP hD hS (lv_sub hl [0, 1] rfl)
      · have hj7 := zz_ifn c4 hj7
        refine lv_iload_n hx hb dX2_nightsOfOne_21 rfl (lv_at hl 2 rfl) ?_
        refine lv_iconst (v := 1) hx hb dX2_nightsOfOne_22 (by decide) ?_
        refine lv_iand hx hb dX2_nightsOfOne_23 ?_
        refine lv_if_ne (tgt := 31) hx hb dX2_nightsOfOne_24 (by decide) (fun c12 => ?_) (fun c12 => ?_)
        · have hj7 := zz_ifn c12 hj7
          refine lv_iconst (v := 0) hx hb dX2_nightsOfOne_31 (by decide) ?_
          cases hj7
          exact hJ7 _ _ ls hP hD hS (lv_sub hl [0, 1] rfl)
        · have hj7 := zz_if c12 hj7
          refine lv_iconst (v := 1) hx hb dX2_nightsOfOne_27 (by decide) ?_
          refine lv_goto (tgt := 32) hx hb dX2_nightsOfOne_28 (by decide) ?_
          cases hj7
          exact hJ7 _ _ ls hP hD hS (lv_sub hl [0, 1] rfl)
    · have h := zz_ifn c2 h
      refine lv_lconst (v := 0) hx hb dX2_nightsOfOne_10 (by decide) ?_
      exact zz_lret () hx hb hr hlocks dX2_nightsOfOne_11 (Option.some.inj h) hP hK hD hS
theorem hd_X2_readTo : yX2_readTo.cls ≠ "java/lang/invoke/MethodHandle" ∧ yX2_readTo.cls ≠ "java/lang/invoke/VarHandle" ∧ (parseMethodDescriptor yX2_readTo.desc).map (fun d => d.parameters.length) = some 3 := by decide +kernel
set_option maxRecDepth 20000 in
theorem in_X2_readTo_X2 : ∀ w ∈ u_ws RX2 TX2 6, w ∈ wsX2_readTo := by decide +kernel
set_option maxRecDepth 20000 in
theorem lk_X2_readTo_0 : Cond.fieldLink RX2 29 "TwoHousesOneChild$Paper" "size" "I" ∈ wsX2_readTo := by decide +kernel
set_option maxRecDepth 20000 in
theorem lk_X2_readTo_1 : Cond.fieldLink RX2 9 "TwoHousesOneChild$Paper" "numbers" "[I" ∈ wsX2_readTo := by decide +kernel
set_option maxRecDepth 20000 in
theorem lk_X2_readTo_2 : Cond.fieldLink RX2 15 "TwoHousesOneChild$Paper" "ranks" "[I" ∈ wsX2_readTo := by decide +kernel
set_option maxRecDepth 20000 in
theorem lk_X2_readTo_3 : Cond.fieldLink RX2 18 "TwoHousesOneChild$Paper" "told" "[J" ∈ wsX2_readTo := by decide +kernel
set_option maxRecDepth 20000 in
theorem lk_X2_readTo_4 : Cond.constantLong RX2 37 (-1) ∈ wsX2_readTo := by decide +kernel
set_option maxHeartbeats 4000000 in
set_option maxRecDepth 100000 in
theorem ct_X2_readTo (l : Launch) (dC : Nat → ClassId) (dI : Nat → Nat → Nat) (cI cJ cB cZ : ClassId) (a_r1 a_t a_t_numbers a_t_ones a_t_ranks a_t_told a_t_turnsByYear : Nat) (r1_zero : Int64) (r1_one : Int64) (r1_fights : Int64) (t_size : Int32) (t_numbers : (Nat → Int32)) (t_ones : (Nat → Int64)) (t_ranks : (Nat → Int32)) (t_told : (Nat → Int64)) (t_turnsByYear : (Nat → Int32)) (p2 : Int32) (p3 : Int32) (o1 : Int64) (o2 : Int64) (o3 : Int64) (h : fn_X2_readTo t_size t_numbers t_ones t_ranks t_told t_turnsByYear p2 p3 = some (o1, o2, o3)) : zz_M l yX2_readTo wsX2_readTo ({ frames := 2, cells := 0, slots := 0, locals := 47 }) (dC, dI) (zz_T cI cJ cB cZ) [.ref a_t, .ref a_r1, .int p2, .int p3] [(a_r1, .inr (3, [.long r1_zero, .long r1_one, .long r1_fights])), (a_t, .inr (1, [.int t_size, .ref a_t_numbers, .ref a_t_ranks, .ref a_t_told, .ref a_t_ones, .ref a_t_turnsByYear])), (a_t_numbers, .inl (cI, 10, .inl t_numbers)), (a_t_ones, .inl (cJ, 10, .inr (.inl t_ones))), (a_t_ranks, .inl (cI, 10, .inl t_ranks)), (a_t_told, .inl (cJ, 10, .inr (.inl t_told))), (a_t_turnsByYear, .inl (cZ, 10, .inl t_turnsByYear))] (zz_QV (dC, dI) (zz_T cI cJ cB cZ) (o1, o2, o3) (fun (u : Int64 × Int64 × Int64) => [(a_r1, .inr (3, [.long u.1, .long u.2.1, .long u.2.2])), (a_t, .inr (1, [.int t_size, .ref a_t_numbers, .ref a_t_ranks, .ref a_t_told, .ref a_t_ones, .ref a_t_turnsByYear])), (a_t_numbers, .inl (cI, 10, .inl t_numbers)), (a_t_ones, .inl (cJ, 10, .inr (.inl t_ones))), (a_t_ranks, .inl (cI, 10, .inl t_ranks)), (a_t_told, .inl (cJ, 10, .inr (.inl t_told))), (a_t_turnsByYear, .inl (cZ, 10, .inl t_turnsByYear))])) := by
  unfold fn_X2_readTo at h
  refine zz_of (by decide) rfl (Nat.le_of_ble_eq_true rfl) ?_
  intro p e s m below meth c A ls hx hb hr hml hts hown hlocks hA hS hP hK hD hl
  have hown : s.vm.findClass RX2 = some m.cls := hown
  have hl : lv_has ls 12 [(0, .ref a_t), (1, .ref a_r1), (2, .int p2), (3, .int p3)] := hl
  refine lv_aload_n hx hb dX2_readTo_0 rfl (lv_at hl 1 rfl) ?_
  obtain ⟨x1, x2, x3, he4, h⟩ := zz_b3E h
  refine zz_VV (q := (RX4, TX4, 3)) (As := []) (rest := []) (wr := [(a_t, .inr (1, [.int t_size, .ref a_t_numbers, .ref a_t_ranks, .ref a_t_told, .ref a_t_ones, .ref a_t_turnsByYear])), (a_t_numbers, .inl (cI, 10, .inl t_numbers)), (a_t_ones, .inl (cJ, 10, .inr (.inl t_ones))), (a_t_ranks, .inl (cI, 10, .inl t_ranks)), (a_t_told, .inl (cJ, 10, .inr (.inl t_told))), (a_t_turnsByYear, .inl (cZ, 10, .inl t_turnsByYear))]) (wm := [(a_r1, .inr (3, [.long x1, .long x2, .long x3])), (a_t, .inr (1, [.int t_size, .ref a_t_numbers, .ref a_t_ranks, .ref a_t_told, .ref a_t_ones, .ref a_t_turnsByYear])), (a_t_numbers, .inl (cI, 10, .inl t_numbers)), (a_t_ones, .inl (cJ, 10, .inr (.inl t_ones))), (a_t_ranks, .inl (cI, 10, .inl t_ranks)), (a_t_told, .inl (cJ, 10, .inr (.inl t_told))), (a_t_turnsByYear, .inl (cZ, 10, .inl t_turnsByYear))]) ⟨hx, hb, hml, hown, hts⟩ (ct_X4_clear l dC dI cI cJ cB cZ a_r1 r1_zero r1_one r1_fights x1 x2 x3 he4) gX2_readTo_X4_clear hd_X4_clear rfl rfl rfl ⟨Nat.le_of_ble_eq_true rfl, Nat.le_of_ble_eq_true rfl⟩ ⟨Nat.le_of_ble_eq_true rfl, Nat.le_of_ble_eq_true rfl⟩ rfl rfl (Nat.le_of_ble_eq_true rfl) dX2_readTo_1 hl.1 rfl (ci := 3) rfl (q0 := 0) rfl hP hK hD hS hA [0] [1, 2, 3, 4, 5, 6] [6, 0, 1, 2, 3, 4, 5] rfl rfl (by decide) (by decide) (by decide) (by decide) rfl (fun H locs hP hD hS => ?_)
  refine lv_lconst (v := 0) hx hb dX2_readTo_4 (by decide) ?_
  refine lv_lstore (lv' := [(4, .long 0), (0, .ref a_t), (1, .ref a_r1), (2, .int p2), (3, .int p3)]) hx hb dX2_readTo_5 hl (by decide) rfl (fun ls hl => ?_)
  refine lv_lconst (v := 0) hx hb dX2_readTo_7 (by decide) ?_
  refine lv_lstore (lv' := [(6, .long 0), (4, .long 0), (0, .ref a_t), (1, .ref a_r1), (2, .int p2), (3, .int p3)]) hx hb dX2_readTo_8 hl (by decide) rfl (fun ls hl => ?_)
  refine lv_bipush (v := (-9)) hx hb dX2_readTo_10 (by decide) ?_
  refine lv_istore (lv' := [(8, .int (-9)), (6, .long 0), (4, .long 0), (0, .ref a_t), (1, .ref a_r1), (2, .int p2), (3, .int p3)]) hx hb dX2_readTo_12 hl (by decide) rfl (fun ls hl => ?_)
  refine lv_iconst (v := 0) hx hb dX2_readTo_14 (by decide) ?_
  refine lv_istore (lv' := [(9, .int 0), (8, .int (-9)), (6, .long 0), (4, .long 0), (0, .ref a_t), (1, .ref a_r1), (2, .int p2), (3, .int p3)]) hx hb dX2_readTo_15 hl (by decide) rfl (fun ls hl => ?_)
  obtain ⟨x76, x77, x78, x79, x80, hit75, h⟩ := zz_b5E h
  refine zz_cut (fun V => ∀ (H : Heap) (locs : List Loc) (ls : Array Slot), va_P (dC, dI) vwCl [(a_r1, .inr (3, [.long x78, .long x79, .long x80])), (a_t, .inr (1, [.int t_size, .ref a_t_numbers, .ref a_t_ranks, .ref a_t_told, .ref a_t_ones, .ref a_t_turnsByYear])), (a_t_numbers, .inl (cI, 10, .inl t_numbers)), (a_t_ones, .inl (cJ, 10, .inr (.inl t_ones))), (a_t_ranks, .inl (cI, 10, .inl t_ranks)), (a_t_told, .inl (cJ, 10, .inr (.inl t_told))), (a_t_turnsByYear, .inl (cZ, 10, .inl t_turnsByYear))] H → va_D A [(a_r1, .inr (3, [.long x78, .long x79, .long x80])), (a_t, .inr (1, [.int t_size, .ref a_t_numbers, .ref a_t_ranks, .ref a_t_told, .ref a_t_ones, .ref a_t_turnsByYear])), (a_t_numbers, .inl (cI, 10, .inl t_numbers)), (a_t_ones, .inl (cJ, 10, .inr (.inl t_ones))), (a_t_ranks, .inl (cI, 10, .inl t_ranks)), (a_t_told, .inl (cJ, 10, .inr (.inl t_told))), (a_t_turnsByYear, .inl (cZ, 10, .inl t_turnsByYear))] → va_S A s.heap H locs → lv_has ls 12 [(1, .ref a_r1), (4, .long x76), (6, .long x77)] → V H locs (F0 m 126 ls [])) ?_ (fun hE75 => ?_)
  · intro H locs ls hP hD hS hl
    refine lv_aload_n hx hb dX2_readTo_126 rfl (lv_at hl 0 rfl) ?_
    refine lv_lload hx hb dX2_readTo_127 (lv_at hl 1 rfl) ?_
    refine lv_lload hx hb dX2_readTo_129 (lv_at hl 2 rfl) ?_
    obtain ⟨x81, x82, x83, he84, h⟩ := zz_b3E h
    refine zz_VV (q := (RX4, TX4, 3)) (As := [.long x76, .long x77]) (rest := []) (wr := [(a_t, .inr (1, [.int t_size, .ref a_t_numbers, .ref a_t_ranks, .ref a_t_told, .ref a_t_ones, .ref a_t_turnsByYear])), (a_t_numbers, .inl (cI, 10, .inl t_numbers)), (a_t_ones, .inl (cJ, 10, .inr (.inl t_ones))), (a_t_ranks, .inl (cI, 10, .inl t_ranks)), (a_t_told, .inl (cJ, 10, .inr (.inl t_told))), (a_t_turnsByYear, .inl (cZ, 10, .inl t_turnsByYear))]) (wm := [(a_r1, .inr (3, [.long x81, .long x82, .long x83])), (a_t, .inr (1, [.int t_size, .ref a_t_numbers, .ref a_t_ranks, .ref a_t_told, .ref a_t_ones, .ref a_t_turnsByYear])), (a_t_numbers, .inl (cI, 10, .inl t_numbers)), (a_t_ones, .inl (cJ, 10, .inr (.inl t_ones))), (a_t_ranks, .inl (cI, 10, .inl t_ranks)), (a_t_told, .inl (cJ, 10, .inr (.inl t_told))), (a_t_turnsByYear, .inl (cZ, 10, .inl t_turnsByYear))]) ⟨hx, hb, hml, hown, hts⟩ (ct_X4_settle l dC dI cI cJ cB cZ a_r1 x78 x79 x80 x76 x77 x81 x82 x83 he84) gX2_readTo_X4_settle hd_X4_settle rfl rfl rfl ⟨Nat.le_of_ble_eq_true rfl, Nat.le_of_ble_eq_true rfl⟩ ⟨Nat.le_of_ble_eq_true rfl, Nat.le_of_ble_eq_true rfl⟩ rfl rfl (Nat.le_of_ble_eq_true rfl) dX2_readTo_131 hl.1 rfl (ci := 3) rfl (q0 := 0) rfl hP hK hD hS hA [0] [1, 2, 3, 4, 5, 6] [6, 0, 1, 2, 3, 4, 5] rfl rfl (by decide) (by decide) (by decide) (by decide) rfl (fun H locs hP hD hS => ?_)
    exact zz_vret (x81, x82, x83) hx hb hr hlocks dX2_readTo_134 (Option.some.inj h) hP hK hD hS
  refine zz_cut (fun V => ∀ (n : Nat) (x69 : Int64) (x70 : Int64) (x71 : Int32) (x72 : Int32) (x73 : Int64) (x74 : Int64) (x75 : Int64) (H : Heap) (locs : List Loc) (ls : Array Slot), zz_it (fun z => fb_X2_readTo_17 p2 p3 t_size t_numbers t_ranks t_ones t_told t_turnsByYear z.1 z.2.1 z.2.2.1 z.2.2.2.1 z.2.2.2.2.1 z.2.2.2.2.2.1 z.2.2.2.2.2.2) n (x69, x70, x71, x72, x73, x74, x75) = some (x76, x77, x78, x79, x80) → va_P (dC, dI) vwCl [(a_r1, .inr (3, [.long x73, .long x74, .long x75])), (a_t, .inr (1, [.int t_size, .ref a_t_numbers, .ref a_t_ranks, .ref a_t_told, .ref a_t_ones, .ref a_t_turnsByYear])), (a_t_numbers, .inl (cI, 10, .inl t_numbers)), (a_t_ones, .inl (cJ, 10, .inr (.inl t_ones))), (a_t_ranks, .inl (cI, 10, .inl t_ranks)), (a_t_told, .inl (cJ, 10, .inr (.inl t_told))), (a_t_turnsByYear, .inl (cZ, 10, .inl t_turnsByYear))] H → va_D A [(a_r1, .inr (3, [.long x73, .long x74, .long x75])), (a_t, .inr (1, [.int t_size, .ref a_t_numbers, .ref a_t_ranks, .ref a_t_told, .ref a_t_ones, .ref a_t_turnsByYear])), (a_t_numbers, .inl (cI, 10, .inl t_numbers)), (a_t_ones, .inl (cJ, 10, .inr (.inl t_ones))), (a_t_ranks, .inl (cI, 10, .inl t_ranks)), (a_t_told, .inl (cJ, 10, .inr (.inl t_told))), (a_t_turnsByYear, .inl (cZ, 10, .inl t_turnsByYear))] → va_S A s.heap H locs → lv_has ls 12 [(0, .ref a_t), (1, .ref a_r1), (2, .int p2), (3, .int p3), (4, .long x69), (6, .long x70), (8, .int x71), (9, .int x72)] → V H locs (F0 m 17 ls [])) ?_ (fun hL75 => ?_)
  · intro n
    induction n with
    | zero => intro x69 x70 x71 x72 x73 x74 x75 H locs ls hit75; exact (zz_it0 hit75).elim
    | succ n ih75 =>
      intro x69 x70 x71 x72 x73 x74 x75 H locs ls hit75 hP hD hS hl
      obtain ⟨y75, hb75, hy75⟩ := zz_itE hit75
      have hb75 : fb_X2_readTo_17 p2 p3 t_size t_numbers t_ranks t_ones t_told t_turnsByYear x69 x70 x71 x72 x73 x74 x75 = some y75 := hb75
      unfold fb_X2_readTo_17 at hb75
      refine lv_iload hx hb dX2_readTo_17 (lv_at hl 7 rfl) ?_
      refine lv_aload_n hx hb dX2_readTo_19 rfl (lv_at hl 0 rfl) ?_
      refine va_get (ci := 1) (v := .int t_size) (C := RX2) (T := TX2) (N := 6) hx hb hts in_X2_readTo_X2 hown hK hP 1 rfl rfl 0 (by decide) (hts _ lk_X2_readTo_0) (fun _ h9 => h9) rfl dX2_readTo_20 ?_
      refine lv_icmp_ge (tgt := 126) hx hb dX2_readTo_23 (by decide) (fun c85 => ?_) (fun c85 => ?_)
      · have hb75 := zz_if c85 hb75
        obtain rfl := Option.some.inj hb75
        have hy75 := Option.some.inj hy75
        cases hy75
        exact hE75 _ _ ls hP hD hS (lv_sub hl [1, 4, 5] rfl)
      · have hb75 := zz_ifn c85 hb75
        refine lv_iload hx hb dX2_readTo_26 (lv_at hl 7 rfl) ?_
        refine lv_bipush (v := 10) hx hb dX2_readTo_28 (by decide) ?_
        refine lv_icmp_ge (tgt := 126) hx hb dX2_readTo_30 (by decide) (fun c86 => ?_) (fun c86 => ?_)
        · have hb75 := zz_if c86 hb75
          obtain rfl := Option.some.inj hb75
          have hy75 := Option.some.inj hy75
          cases hy75
          exact hE75 _ _ ls hP hD hS (lv_sub hl [1, 4, 5] rfl)
        · have hb75 := zz_ifn c86 hb75
          refine lv_iload_n hx hb dX2_readTo_33 rfl (lv_at hl 3 rfl) ?_
          refine lv_aload_n hx hb dX2_readTo_34 rfl (lv_at hl 0 rfl) ?_
          refine va_get (ci := 1) (v := .ref a_t_numbers) (C := RX2) (T := TX2) (N := 6) hx hb hts in_X2_readTo_X2 hown hK hP 1 rfl rfl 1 (by decide) (hts _ lk_X2_readTo_1) (fun _ h9 => h9) rfl dX2_readTo_35 ?_
          refine lv_iload hx hb dX2_readTo_38 (lv_at hl 7 rfl) ?_
          obtain ⟨hi87, hb75⟩ := zz_chkE hb75
          refine va_iald hx hb hK hP 2 0 rfl rfl hi87 dX2_readTo_40 ?_
          refine lv_ishr hx hb dX2_readTo_41 ?_
          refine lv_iconst (v := 1) hx hb dX2_readTo_42 (by decide) ?_
          refine lv_iand hx hb dX2_readTo_43 ?_
          refine lv_if_eq (tgt := 50) hx hb dX2_readTo_44 (by decide) (fun c88 => ?_) (fun c88 => ?_)
          · have hb75 := zz_if c88 hb75
            refine lv_aload_n hx hb dX2_readTo_50 rfl (lv_at hl 0 rfl) ?_
            refine va_get (ci := 1) (v := .ref a_t_ranks) (C := RX2) (T := TX2) (N := 6) hx hb hts in_X2_readTo_X2 hown hK hP 1 rfl rfl 2 (by decide) (hts _ lk_X2_readTo_2) (fun _ h9 => h9) rfl dX2_readTo_51 ?_
            refine lv_iload hx hb dX2_readTo_54 (lv_at hl 7 rfl) ?_
            obtain ⟨hi89, hb75⟩ := zz_chkE hb75
            refine va_iald hx hb hK hP 4 0 rfl rfl hi89 dX2_readTo_56 ?_
            refine lv_iload hx hb dX2_readTo_57 (lv_at hl 6 rfl) ?_
            obtain ⟨x97, x98, x99, x100, x101, x102, hj103, hb75⟩ := zz_b6E hb75
            refine zz_cut (fun V => ∀ (H : Heap) (locs : List Loc) (ls : Array Slot), va_P (dC, dI) vwCl [(a_r1, .inr (3, [.long x100, .long x101, .long x102])), (a_t, .inr (1, [.int t_size, .ref a_t_numbers, .ref a_t_ranks, .ref a_t_told, .ref a_t_ones, .ref a_t_turnsByYear])), (a_t_numbers, .inl (cI, 10, .inl t_numbers)), (a_t_ones, .inl (cJ, 10, .inr (.inl t_ones))), (a_t_ranks, .inl (cI, 10, .inl t_ranks)), (a_t_told, .inl (cJ, 10, .inr (.inl t_told))), (a_t_turnsByYear, .inl (cZ, 10, .inl t_turnsByYear))] H → va_D A [(a_r1, .inr (3, [.long x100, .long x101, .long x102])), (a_t, .inr (1, [.int t_size, .ref a_t_numbers, .ref a_t_ranks, .ref a_t_told, .ref a_t_ones, .ref a_t_turnsByYear])), (a_t_numbers, .inl (cI, 10, .inl t_numbers)), (a_t_ones, .inl (cJ, 10, .inr (.inl t_ones))), (a_t_ranks, .inl (cI, 10, .inl t_ranks)), (a_t_told, .inl (cJ, 10, .inr (.inl t_told))), (a_t_turnsByYear, .inl (cZ, 10, .inl t_turnsByYear))] → va_S A s.heap H locs → lv_has ls 12 [(0, .ref a_t), (1, .ref a_r1), (2, .int p2), (3, .int p3), (4, .long x97), (6, .long x98), (8, .int x99), (9, .int x72)] → V H locs (F0 m 85 ls [])) ?_ (fun hJ103 => ?_)
            · intro H locs ls hP hD hS hl
              refine lv_aload_n hx hb dX2_readTo_85 rfl (lv_at hl 0 rfl) ?_
              refine lv_iload hx hb dX2_readTo_86 (lv_at hl 7 rfl) ?_
              refine lv_iload_n hx hb dX2_readTo_88 rfl (lv_at hl 2 rfl) ?_
              obtain ⟨x104, u105, he106, hb75⟩ := zz_b2E hb75
              refine zz_VL (q := (RX2, TX2, 6)) (As := [.int x72, .int p2]) (rest := []) (wr := [(a_r1, .inr (3, [.long x100, .long x101, .long x102])), (a_t_numbers, .inl (cI, 10, .inl t_numbers)), (a_t_ranks, .inl (cI, 10, .inl t_ranks))]) (wm := [(a_r1, .inr (3, [.long x100, .long x101, .long x102])), (a_t, .inr (1, [.int t_size, .ref a_t_numbers, .ref a_t_ranks, .ref a_t_told, .ref a_t_ones, .ref a_t_turnsByYear])), (a_t_numbers, .inl (cI, 10, .inl t_numbers)), (a_t_ones, .inl (cJ, 10, .inr (.inl t_ones))), (a_t_ranks, .inl (cI, 10, .inl t_ranks)), (a_t_told, .inl (cJ, 10, .inr (.inl t_told))), (a_t_turnsByYear, .inl (cZ, 10, .inl t_turnsByYear))]) ⟨hx, hb, hml, hown, hts⟩ (ct_X2_nightsOfOne l dC dI cI cJ cB cZ a_t a_t_ones a_t_told a_t_turnsByYear a_t_numbers a_t_ranks t_size t_ones t_told t_turnsByYear x72 p2 x104 u105 he106) gX2_readTo_X2_nightsOfOne hd_X2_nightsOfOne rfl rfl rfl ⟨Nat.le_of_ble_eq_true rfl, Nat.le_of_ble_eq_true rfl⟩ ⟨Nat.le_of_ble_eq_true rfl, Nat.le_of_ble_eq_true rfl⟩ rfl rfl (Nat.le_of_ble_eq_true rfl) dX2_readTo_89 hl.1 rfl (ci := 1) rfl (q0 := 1) rfl hP hK hD hS hA [1, 3, 5, 6] [0, 2, 4] [0, 3, 1, 4, 2, 5, 6] rfl rfl (by decide) (by decide) (by decide) (by decide) rfl (fun H locs hP hD hS => ?_)
              refine lv_lstore (lv' := [(10, .long x104), (0, .ref a_t), (1, .ref a_r1), (2, .int p2), (3, .int p3), (4, .long x97), (6, .long x98), (8, .int x99), (9, .int x72)]) hx hb dX2_readTo_92 hl (by decide) rfl (fun ls hl => ?_)
              refine lv_lload hx hb dX2_readTo_94 (lv_at hl 6 rfl) ?_
              refine lv_lload hx hb dX2_readTo_96 (lv_at hl 0 rfl) ?_
              refine lv_lor hx hb dX2_readTo_98 ?_
              refine lv_topl (fun x107 ex107 => ?_)
              have hb75 := zz_nmE ex107 hb75
              refine lv_lstore (lv' := [(6, .long x107), (10, .long x104), (0, .ref a_t), (1, .ref a_r1), (2, .int p2), (3, .int p3), (4, .long x97), (8, .int x99), (9, .int x72)]) hx hb dX2_readTo_99 hl (by decide) rfl (fun ls hl => ?_)
              refine lv_lload hx hb dX2_readTo_101 (lv_at hl 6 rfl) ?_
              refine lv_aload_n hx hb dX2_readTo_103 rfl (lv_at hl 2 rfl) ?_
              refine va_get (ci := 1) (v := .ref a_t_told) (C := RX2) (T := TX2) (N := 6) hx hb hts in_X2_readTo_X2 hown hK hP 1 rfl rfl 3 (by decide) (hts _ lk_X2_readTo_3) (fun _ h9 => h9) rfl dX2_readTo_104 ?_
              refine lv_iload hx hb dX2_readTo_107 (lv_at hl 8 rfl) ?_
              obtain ⟨hi108, hb75⟩ := zz_chkE hb75
              refine va_lald hx hb hK hP 5 1 rfl rfl hi108 dX2_readTo_109 ?_
              refine lv_lload hx hb dX2_readTo_110 (lv_at hl 1 rfl) ?_
              refine lv_ldc2 (v := (-1)) hx hb hown (hts _ lk_X2_readTo_4) dX2_readTo_112 ?_
              refine lv_lxor hx hb dX2_readTo_115 ?_
              refine lv_land hx hb dX2_readTo_116 ?_
              refine lv_lor hx hb dX2_readTo_117 ?_
              refine lv_topl (fun x109 ex109 => ?_)
              have hb75 := zz_nmE ex109 hb75
              refine lv_lstore (lv' := [(4, .long x109), (6, .long x107), (10, .long x104), (0, .ref a_t), (1, .ref a_r1), (2, .int p2), (3, .int p3), (8, .int x99), (9, .int x72)]) hx hb dX2_readTo_118 hl (by decide) rfl (fun ls hl => ?_)
              obtain ⟨x110, ex110⟩ : ∃ z : Int32, z = x72 + 1 := ⟨_, rfl⟩
              have hb75 := zz_nmE ex110 hb75
              refine lv_iinc (v := x110) (lv' := [(9, .int x110), (4, .long x109), (6, .long x107), (10, .long x104), (0, .ref a_t), (1, .ref a_r1), (2, .int p2), (3, .int p3), (8, .int x99)]) hx hb dX2_readTo_120 hl (k := 8) rfl (by rw [ex110]; rfl) (by decide) rfl (fun ls hl => ?_)
              refine lv_goto (tgt := 17) hx hb dX2_readTo_123 (by decide) ?_
              obtain rfl := Option.some.inj hb75
              exact ih75 x109 x107 x99 x110 x100 x101 x102 _ _ ls hy75 hP hD hS (lv_sub hl [4, 5, 6, 7, 1, 2, 8, 0] rfl)
            refine lv_icmp_eq (tgt := 85) hx hb dX2_readTo_59 (by decide) (fun c90 => ?_) (fun c90 => ?_)
            · have hj103 := zz_if c90 hj103
              cases hj103
              exact hJ103 _ _ ls hP hD hS (lv_sub hl [0, 1, 2, 3, 4, 5, 6, 7] rfl)
            · have hj103 := zz_ifn c90 hj103
              refine lv_aload_n hx hb dX2_readTo_62 rfl (lv_at hl 1 rfl) ?_
              refine lv_lload hx hb dX2_readTo_63 (lv_at hl 4 rfl) ?_
              refine lv_lload hx hb dX2_readTo_65 (lv_at hl 5 rfl) ?_
              obtain ⟨x111, x112, x113, he114, hj103⟩ := zz_b3E hj103
              refine zz_VV (q := (RX4, TX4, 3)) (As := [.long x69, .long x70]) (rest := []) (wr := [(a_t, .inr (1, [.int t_size, .ref a_t_numbers, .ref a_t_ranks, .ref a_t_told, .ref a_t_ones, .ref a_t_turnsByYear])), (a_t_numbers, .inl (cI, 10, .inl t_numbers)), (a_t_ones, .inl (cJ, 10, .inr (.inl t_ones))), (a_t_ranks, .inl (cI, 10, .inl t_ranks)), (a_t_told, .inl (cJ, 10, .inr (.inl t_told))), (a_t_turnsByYear, .inl (cZ, 10, .inl t_turnsByYear))]) (wm := [(a_r1, .inr (3, [.long x111, .long x112, .long x113])), (a_t, .inr (1, [.int t_size, .ref a_t_numbers, .ref a_t_ranks, .ref a_t_told, .ref a_t_ones, .ref a_t_turnsByYear])), (a_t_numbers, .inl (cI, 10, .inl t_numbers)), (a_t_ones, .inl (cJ, 10, .inr (.inl t_ones))), (a_t_ranks, .inl (cI, 10, .inl t_ranks)), (a_t_told, .inl (cJ, 10, .inr (.inl t_told))), (a_t_turnsByYear, .inl (cZ, 10, .inl t_turnsByYear))]) ⟨hx, hb, hml, hown, hts⟩ (ct_X4_settle l dC dI cI cJ cB cZ a_r1 x73 x74 x75 x69 x70 x111 x112 x113 he114) gX2_readTo_X4_settle hd_X4_settle rfl rfl rfl ⟨Nat.le_of_ble_eq_true rfl, Nat.le_of_ble_eq_true rfl⟩ ⟨Nat.le_of_ble_eq_true rfl, Nat.le_of_ble_eq_true rfl⟩ rfl rfl (Nat.le_of_ble_eq_true rfl) dX2_readTo_67 hl.1 rfl (ci := 3) rfl (q0 := 0) rfl hP hK hD hS hA [0] [1, 2, 3, 4, 5, 6] [6, 0, 1, 2, 3, 4, 5] rfl rfl (by decide) (by decide) (by decide) (by decide) rfl (fun H locs hP hD hS => ?_)
              refine lv_lconst (v := 0) hx hb dX2_readTo_70 (by decide) ?_
              refine lv_lstore (lv' := [(4, .long 0), (0, .ref a_t), (1, .ref a_r1), (2, .int p2), (3, .int p3), (6, .long x70), (8, .int x71), (9, .int x72)]) hx hb dX2_readTo_71 hl (by decide) rfl (fun ls hl => ?_)
              refine lv_lconst (v := 0) hx hb dX2_readTo_73 (by decide) ?_
              refine lv_lstore (lv' := [(6, .long 0), (4, .long 0), (0, .ref a_t), (1, .ref a_r1), (2, .int p2), (3, .int p3), (8, .int x71), (9, .int x72)]) hx hb dX2_readTo_74 hl (by decide) rfl (fun ls hl => ?_)
              refine lv_aload_n hx hb dX2_readTo_76 rfl (lv_at hl 2 rfl) ?_
              refine va_get (ci := 1) (v := .ref a_t_ranks) (C := RX2) (T := TX2) (N := 6) hx hb hts in_X2_readTo_X2 hown hK hP 1 rfl rfl 2 (by decide) (hts _ lk_X2_readTo_2) (fun _ h9 => h9) rfl dX2_readTo_77 ?_
              refine lv_iload hx hb dX2_readTo_80 (lv_at hl 7 rfl) ?_
              obtain ⟨hi115, hj103⟩ := zz_chkE hj103
              refine va_iald hx hb hK hP 4 0 rfl rfl hi115 dX2_readTo_82 ?_
              refine lv_topi (fun x116 ex116 => ?_)
              have hj103 := zz_nmE ex116 hj103
              refine lv_istore (lv' := [(8, .int x116), (6, .long 0), (4, .long 0), (0, .ref a_t), (1, .ref a_r1), (2, .int p2), (3, .int p3), (9, .int x72)]) hx hb dX2_readTo_83 hl (by decide) rfl (fun ls hl => ?_)
              cases hj103
              exact hJ103 _ _ ls hP hD hS (lv_sub hl [3, 4, 5, 6, 2, 1, 0, 7] rfl)
          · have hb75 := zz_ifn c88 hb75
            refine lv_goto (tgt := 120) hx hb dX2_readTo_47 (by decide) ?_
            obtain ⟨x117, ex117⟩ : ∃ z : Int32, z = x72 + 1 := ⟨_, rfl⟩
            have hb75 := zz_nmE ex117 hb75
            refine lv_iinc (v := x117) (lv' := [(9, .int x117), (0, .ref a_t), (1, .ref a_r1), (2, .int p2), (3, .int p3), (4, .long x69), (6, .long x70), (8, .int x71)]) hx hb dX2_readTo_120 hl (k := 7) rfl (by rw [ex117]; rfl) (by decide) rfl (fun ls hl => ?_)
            refine lv_goto (tgt := 17) hx hb dX2_readTo_123 (by decide) ?_
            obtain rfl := Option.some.inj hb75
            exact ih75 x69 x70 x71 x117 x73 x74 x75 _ _ ls hy75 hP hD hS (lv_sub hl [1, 2, 3, 4, 5, 6, 7, 0] rfl)
  exact hL75 zz_fuel 0 0 (-9) 0 x1 x2 x3 _ _ ls hit75 hP hD hS (lv_sub hl [4, 5, 6, 7, 3, 2, 1, 0] rfl)
theorem hd_X4_toldOtherwise : yX4_toldOtherwise.cls ≠ "java/lang/invoke/MethodHandle" ∧ yX4_toldOtherwise.cls ≠ "java/lang/invoke/VarHandle" ∧ (parseMethodDescriptor yX4_toldOtherwise.desc).map (fun d => d.parameters.length) = some 1 := by decide +kernel
set_option maxRecDepth 20000 in
theorem in_X4_toldOtherwise_X4 : ∀ w ∈ u_ws RX4 TX4 3, w ∈ wsX4_toldOtherwise := by decide +kernel
set_option maxRecDepth 20000 in
theorem lk_X4_toldOtherwise_0 : Cond.fieldLink RX4 9 "TwoHousesOneChild$Reading" "zero" "J" ∈ wsX4_toldOtherwise := by decide +kernel
set_option maxRecDepth 20000 in
theorem lk_X4_toldOtherwise_1 : Cond.fieldLink RX4 15 "TwoHousesOneChild$Reading" "one" "J" ∈ wsX4_toldOtherwise := by decide +kernel
set_option maxRecDepth 20000 in
theorem lk_X4_toldOtherwise_2 : Cond.fieldLink RX4 18 "TwoHousesOneChild$Reading" "fights" "J" ∈ wsX4_toldOtherwise := by decide +kernel
set_option maxRecDepth 20000 in
theorem lk_X4_toldOtherwise_3 : Cond.constantLong RX4 25 (-1) ∈ wsX4_toldOtherwise := by decide +kernel
set_option maxHeartbeats 4000000 in
set_option maxRecDepth 100000 in
theorem ct_X4_toldOtherwise (l : Launch) (dC : Nat → ClassId) (dI : Nat → Nat → Nat) (cI cJ cB cZ : ClassId) (a_r1 a_t : Nat) (r1_zero : Int64) (r1_one : Int64) (r1_fights : Int64) (t_zero : Int64) (t_one : Int64) (t_fights : Int64) (rr : Int64) (u0 : Unit) (h : fn_X4_toldOtherwise r1_zero r1_one t_zero t_one t_fights = some (rr, u0)) : zz_M l yX4_toldOtherwise wsX4_toldOtherwise ({ frames := 0, cells := 0, slots := 0, locals := 0 }) (dC, dI) (zz_T cI cJ cB cZ) [.ref a_t, .ref a_r1] [(a_r1, .inr (3, [.long r1_zero, .long r1_one, .long r1_fights])), (a_t, .inr (3, [.long t_zero, .long t_one, .long t_fights]))] (zz_QL (dC, dI) (zz_T cI cJ cB cZ) (rr, u0) (fun (u : Unit) => [(a_r1, .inr (3, [.long r1_zero, .long r1_one, .long r1_fights])), (a_t, .inr (3, [.long t_zero, .long t_one, .long t_fights]))])) := by
  unfold fn_X4_toldOtherwise at h
  refine zz_of (by decide) rfl (Nat.le_of_ble_eq_true rfl) ?_
  intro p e s m below meth c A ls hx hb hr hml hts hown hlocks hA hS hP hK hD hl
  have hown : s.vm.findClass RX4 = some m.cls := hown
  have hl : lv_has ls 2 [(0, .ref a_t), (1, .ref a_r1)] := hl
  refine lv_aload_n hx hb dX4_toldOtherwise_0 rfl (lv_at hl 0 rfl) ?_
  refine va_get (ci := 3) (v := .long t_zero) (C := RX4) (T := TX4) (N := 3) hx hb hts in_X4_toldOtherwise_X4 hown hK hP 1 rfl rfl 0 (by decide) (hts _ lk_X4_toldOtherwise_0) (fun _ h9 => h9) rfl dX4_toldOtherwise_1 ?_
  refine lv_aload_n hx hb dX4_toldOtherwise_4 rfl (lv_at hl 1 rfl) ?_
  refine va_get (ci := 3) (v := .long r1_zero) (C := RX4) (T := TX4) (N := 3) hx hb hts in_X4_toldOtherwise_X4 hown hK hP 0 rfl rfl 0 (by decide) (hts _ lk_X4_toldOtherwise_0) (fun _ h9 => h9) rfl dX4_toldOtherwise_5 ?_
  refine lv_lxor hx hb dX4_toldOtherwise_8 ?_
  refine lv_aload_n hx hb dX4_toldOtherwise_9 rfl (lv_at hl 0 rfl) ?_
  refine va_get (ci := 3) (v := .long t_one) (C := RX4) (T := TX4) (N := 3) hx hb hts in_X4_toldOtherwise_X4 hown hK hP 1 rfl rfl 1 (by decide) (hts _ lk_X4_toldOtherwise_1) (fun _ h9 => h9) rfl dX4_toldOtherwise_10 ?_
  refine lv_aload_n hx hb dX4_toldOtherwise_13 rfl (lv_at hl 1 rfl) ?_
  refine va_get (ci := 3) (v := .long r1_one) (C := RX4) (T := TX4) (N := 3) hx hb hts in_X4_toldOtherwise_X4 hown hK hP 0 rfl rfl 1 (by decide) (hts _ lk_X4_toldOtherwise_1) (fun _ h9 => h9) rfl dX4_toldOtherwise_14 ?_
  refine lv_lxor hx hb dX4_toldOtherwise_17 ?_
  refine lv_lor hx hb dX4_toldOtherwise_18 ?_
  refine lv_aload_n hx hb dX4_toldOtherwise_19 rfl (lv_at hl 0 rfl) ?_
  refine va_get (ci := 3) (v := .long t_fights) (C := RX4) (T := TX4) (N := 3) hx hb hts in_X4_toldOtherwise_X4 hown hK hP 1 rfl rfl 2 (by decide) (hts _ lk_X4_toldOtherwise_2) (fun _ h9 => h9) rfl dX4_toldOtherwise_20 ?_
  refine lv_ldc2 (v := (-1)) hx hb hown (hts _ lk_X4_toldOtherwise_3) dX4_toldOtherwise_23 ?_
  refine lv_lxor hx hb dX4_toldOtherwise_26 ?_
  refine lv_land hx hb dX4_toldOtherwise_27 ?_
  exact zz_lret () hx hb hr hlocks dX4_toldOtherwise_28 (Option.some.inj h) hP hK hD hS
theorem hd_X0_find : yX0_find.cls ≠ "java/lang/invoke/MethodHandle" ∧ yX0_find.cls ≠ "java/lang/invoke/VarHandle" ∧ (parseMethodDescriptor yX0_find.desc).map (fun d => d.parameters.length) = some 4 := by decide +kernel
set_option maxRecDepth 20000 in
theorem in_X0_find_X0 : ∀ w ∈ u_ws RX0 TX0 2, w ∈ wsX0_find := by decide +kernel
set_option maxRecDepth 20000 in
theorem in_X0_find_X2 : ∀ w ∈ u_ws RX2 TX2 6, w ∈ wsX0_find := by decide +kernel
set_option maxRecDepth 20000 in
theorem in_X0_find_X4 : ∀ w ∈ u_ws RX4 TX4 3, w ∈ wsX0_find := by decide +kernel
set_option maxRecDepth 20000 in
theorem lk_X0_find_0 : Cond.fieldLink RX0 9 "TwoHousesOneChild$Mending" "rules" "I" ∈ wsX0_find := by decide +kernel
set_option maxRecDepth 20000 in
theorem lk_X0_find_1 : Cond.fieldLink RX0 15 "TwoHousesOneChild$Mending" "changed" "I" ∈ wsX0_find := by decide +kernel
set_option maxRecDepth 20000 in
theorem lk_X0_find_2 : Cond.fieldLink RX0 18 "TwoHousesOneChild$Paper" "size" "I" ∈ wsX0_find := by decide +kernel
set_option maxRecDepth 20000 in
theorem lk_X0_find_3 : Cond.fieldLink RX0 33 "TwoHousesOneChild$Reading" "fights" "J" ∈ wsX0_find := by decide +kernel
set_option maxHeartbeats 4000000 in
set_option maxRecDepth 100000 in
theorem ct_X0_find (l : Launch) (dC : Nat → ClassId) (dI : Nat → Nat → Nat) (cI cJ cB cZ : ClassId) (a_r1 a_r1_numbers a_r1_ones a_r1_ranks a_r1_told a_r1_turnsByYear a_r3 a_r4 a_t : Nat) (r1_size : Int32) (r1_numbers : (Nat → Int32)) (r1_ones : (Nat → Int64)) (r1_ranks : (Nat → Int32)) (r1_told : (Nat → Int64)) (r1_turnsByYear : (Nat → Int32)) (r3_zero : Int64) (r3_one : Int64) (r3_fights : Int64) (r4_zero : Int64) (r4_one : Int64) (r4_fights : Int64) (t_rules : Int32) (t_changed : Int32) (p2 : Int32) (o1 : Int64) (o2 : Int64) (o3 : Int64) (o4 : Int32) (o5 : Int32) (h : fn_X0_find r1_size r1_numbers r1_ones r1_ranks r1_told r1_turnsByYear r3_zero r3_one r3_fights r4_zero r4_one r4_fights p2 = some (o1, o2, o3, o4, o5)) : zz_M l yX0_find wsX0_find ({ frames := 3, cells := 0, slots := 0, locals := 78 }) (dC, dI) (zz_T cI cJ cB cZ) [.ref a_t, .ref a_r1, .int p2, .ref a_r3, .ref a_r4] [(a_r1, .inr (1, [.int r1_size, .ref a_r1_numbers, .ref a_r1_ranks, .ref a_r1_told, .ref a_r1_ones, .ref a_r1_turnsByYear])), (a_r1_numbers, .inl (cI, 10, .inl r1_numbers)), (a_r1_ones, .inl (cJ, 10, .inr (.inl r1_ones))), (a_r1_ranks, .inl (cI, 10, .inl r1_ranks)), (a_r1_told, .inl (cJ, 10, .inr (.inl r1_told))), (a_r1_turnsByYear, .inl (cZ, 10, .inl r1_turnsByYear)), (a_r3, .inr (3, [.long r3_zero, .long r3_one, .long r3_fights])), (a_r4, .inr (3, [.long r4_zero, .long r4_one, .long r4_fights])), (a_t, .inr (0, [.int t_rules, .int t_changed]))] (zz_QV (dC, dI) (zz_T cI cJ cB cZ) (o1, o2, o3, o4, o5) (fun (u : Int64 × Int64 × Int64 × Int32 × Int32) => [(a_r1, .inr (1, [.int r1_size, .ref a_r1_numbers, .ref a_r1_ranks, .ref a_r1_told, .ref a_r1_ones, .ref a_r1_turnsByYear])), (a_r1_numbers, .inl (cI, 10, .inl r1_numbers)), (a_r1_ones, .inl (cJ, 10, .inr (.inl r1_ones))), (a_r1_ranks, .inl (cI, 10, .inl r1_ranks)), (a_r1_told, .inl (cJ, 10, .inr (.inl r1_told))), (a_r1_turnsByYear, .inl (cZ, 10, .inl r1_turnsByYear)), (a_r3, .inr (3, [.long r3_zero, .long r3_one, .long r3_fights])), (a_r4, .inr (3, [.long u.1, .long u.2.1, .long u.2.2.1])), (a_t, .inr (0, [.int u.2.2.2.1, .int u.2.2.2.2]))])) := by
  unfold fn_X0_find at h
  refine zz_of (by decide) rfl (Nat.le_of_ble_eq_true rfl) ?_
  intro p e s m below meth c A ls hx hb hr hml hts hown hlocks hA hS hP hK hD hl
  have hown : s.vm.findClass RX0 = some m.cls := hown
  have hl : lv_has ls 9 [(0, .ref a_t), (1, .ref a_r1), (2, .int p2), (3, .ref a_r3), (4, .ref a_r4)] := hl
  refine lv_bipush (v := 11) hx hb dX0_find_0 (by decide) ?_
  refine lv_istore (lv' := [(5, .int 11), (0, .ref a_t), (1, .ref a_r1), (2, .int p2), (3, .ref a_r3), (4, .ref a_r4)]) hx hb dX0_find_2 hl (by decide) rfl (fun ls hl => ?_)
  refine lv_aload_n hx hb dX0_find_4 rfl (lv_at hl 1 rfl) ?_
  refine lv_iconst (v := 0) hx hb dX0_find_5 (by decide) ?_
  refine va_put (ci := 0) (v := .int 0) (ty := .int) (C := RX0) (T := TX0) (N := 2) hx hb hts in_X0_find_X0 tyX0 tyX0_ok nmX0 hown hK hP hD hS 8 rfl rfl 0 (by decide) (hts _ lk_X0_find_0) (fun _ h9 => h9) rfl (by decide +kernel) rfl rfl (Nat.le_of_ble_eq_true rfl) dX0_find_6 (fun H locs hP hD hS => ?_)
  have hP : va_P (dC, dI) vwCl [(a_r1, .inr (1, [.int r1_size, .ref a_r1_numbers, .ref a_r1_ranks, .ref a_r1_told, .ref a_r1_ones, .ref a_r1_turnsByYear])), (a_r1_numbers, .inl (cI, 10, .inl r1_numbers)), (a_r1_ones, .inl (cJ, 10, .inr (.inl r1_ones))), (a_r1_ranks, .inl (cI, 10, .inl r1_ranks)), (a_r1_told, .inl (cJ, 10, .inr (.inl r1_told))), (a_r1_turnsByYear, .inl (cZ, 10, .inl r1_turnsByYear)), (a_r3, .inr (3, [.long r3_zero, .long r3_one, .long r3_fights])), (a_r4, .inr (3, [.long r4_zero, .long r4_one, .long r4_fights])), (a_t, .inr (0, [.int 0, .int t_changed]))] H := hP
  have hD : va_D A [(a_r1, .inr (1, [.int r1_size, .ref a_r1_numbers, .ref a_r1_ranks, .ref a_r1_told, .ref a_r1_ones, .ref a_r1_turnsByYear])), (a_r1_numbers, .inl (cI, 10, .inl r1_numbers)), (a_r1_ones, .inl (cJ, 10, .inr (.inl r1_ones))), (a_r1_ranks, .inl (cI, 10, .inl r1_ranks)), (a_r1_told, .inl (cJ, 10, .inr (.inl r1_told))), (a_r1_turnsByYear, .inl (cZ, 10, .inl r1_turnsByYear)), (a_r3, .inr (3, [.long r3_zero, .long r3_one, .long r3_fights])), (a_r4, .inr (3, [.long r4_zero, .long r4_one, .long r4_fights])), (a_t, .inr (0, [.int 0, .int t_changed]))] := hD
  refine lv_aload_n hx hb dX0_find_9 rfl (lv_at hl 1 rfl) ?_
  refine lv_iconst (v := 0) hx hb dX0_find_10 (by decide) ?_
  refine va_put (ci := 0) (v := .int 0) (ty := .int) (C := RX0) (T := TX0) (N := 2) hx hb hts in_X0_find_X0 tyX0 tyX0_ok nmX0 hown hK hP hD hS 8 rfl rfl 1 (by decide) (hts _ lk_X0_find_1) (fun _ h9 => h9) rfl (by decide +kernel) rfl rfl (Nat.le_of_ble_eq_true rfl) dX0_find_11 (fun H locs hP hD hS => ?_)
  have hP : va_P (dC, dI) vwCl [(a_r1, .inr (1, [.int r1_size, .ref a_r1_numbers, .ref a_r1_ranks, .ref a_r1_told, .ref a_r1_ones, .ref a_r1_turnsByYear])), (a_r1_numbers, .inl (cI, 10, .inl r1_numbers)), (a_r1_ones, .inl (cJ, 10, .inr (.inl r1_ones))), (a_r1_ranks, .inl (cI, 10, .inl r1_ranks)), (a_r1_told, .inl (cJ, 10, .inr (.inl r1_told))), (a_r1_turnsByYear, .inl (cZ, 10, .inl r1_turnsByYear)), (a_r3, .inr (3, [.long r3_zero, .long r3_one, .long r3_fights])), (a_r4, .inr (3, [.long r4_zero, .long r4_one, .long r4_fights])), (a_t, .inr (0, [.int 0, .int 0]))] H := hP
  have hD : va_D A [(a_r1, .inr (1, [.int r1_size, .ref a_r1_numbers, .ref a_r1_ranks, .ref a_r1_told, .ref a_r1_ones, .ref a_r1_turnsByYear])), (a_r1_numbers, .inl (cI, 10, .inl r1_numbers)), (a_r1_ones, .inl (cJ, 10, .inr (.inl r1_ones))), (a_r1_ranks, .inl (cI, 10, .inl r1_ranks)), (a_r1_told, .inl (cJ, 10, .inr (.inl r1_told))), (a_r1_turnsByYear, .inl (cZ, 10, .inl r1_turnsByYear)), (a_r3, .inr (3, [.long r3_zero, .long r3_one, .long r3_fights])), (a_r4, .inr (3, [.long r4_zero, .long r4_one, .long r4_fights])), (a_t, .inr (0, [.int 0, .int 0]))] := hD
  refine lv_iconst (v := 0) hx hb dX0_find_14 (by decide) ?_
  refine lv_istore (lv' := [(6, .int 0), (5, .int 11), (0, .ref a_t), (1, .ref a_r1), (2, .int p2), (3, .ref a_r3), (4, .ref a_r4)]) hx hb dX0_find_15 hl (by decide) rfl (fun ls hl => ?_)
  obtain ⟨x81, x82, x83, x84, x85, hit80, h⟩ := zz_b5E h
  refine zz_cut (fun V => ∀ (H : Heap) (locs : List Loc) (ls : Array Slot), va_P (dC, dI) vwCl [(a_r1, .inr (1, [.int r1_size, .ref a_r1_numbers, .ref a_r1_ranks, .ref a_r1_told, .ref a_r1_ones, .ref a_r1_turnsByYear])), (a_r1_numbers, .inl (cI, 10, .inl r1_numbers)), (a_r1_ones, .inl (cJ, 10, .inr (.inl r1_ones))), (a_r1_ranks, .inl (cI, 10, .inl r1_ranks)), (a_r1_told, .inl (cJ, 10, .inr (.inl r1_told))), (a_r1_turnsByYear, .inl (cZ, 10, .inl r1_turnsByYear)), (a_r3, .inr (3, [.long r3_zero, .long r3_one, .long r3_fights])), (a_r4, .inr (3, [.long x81, .long x82, .long x83])), (a_t, .inr (0, [.int x84, .int x85]))] H → va_D A [(a_r1, .inr (1, [.int r1_size, .ref a_r1_numbers, .ref a_r1_ranks, .ref a_r1_told, .ref a_r1_ones, .ref a_r1_turnsByYear])), (a_r1_numbers, .inl (cI, 10, .inl r1_numbers)), (a_r1_ones, .inl (cJ, 10, .inr (.inl r1_ones))), (a_r1_ranks, .inl (cI, 10, .inl r1_ranks)), (a_r1_told, .inl (cJ, 10, .inr (.inl r1_told))), (a_r1_turnsByYear, .inl (cZ, 10, .inl r1_turnsByYear)), (a_r3, .inr (3, [.long r3_zero, .long r3_one, .long r3_fights])), (a_r4, .inr (3, [.long x81, .long x82, .long x83])), (a_t, .inr (0, [.int x84, .int x85]))] → va_S A s.heap H locs → lv_has ls 9 [] → V H locs (F0 m 116 ls [])) ?_ (fun hE80 => ?_)
  · intro H locs ls hP hD hS hl
    exact zz_vret (x81, x82, x83, x84, x85) hx hb hr hlocks dX0_find_116 (Option.some.inj h) hP hK hD hS
  refine zz_cut (fun V => ∀ (n : Nat) (x74 : Int32) (x75 : Int32) (x76 : Int64) (x77 : Int64) (x78 : Int64) (x79 : Int32) (x80 : Int32) (H : Heap) (locs : List Loc) (ls : Array Slot), zz_it (fun z => fb_X0_find_17 p2 r1_size r1_numbers r1_ones r1_ranks r1_told r1_turnsByYear r3_zero r3_one r3_fights z.1 z.2.1 z.2.2.1 z.2.2.2.1 z.2.2.2.2.1 z.2.2.2.2.2.1 z.2.2.2.2.2.2) n (x74, x75, x76, x77, x78, x79, x80) = some (x81, x82, x83, x84, x85) → va_P (dC, dI) vwCl [(a_r1, .inr (1, [.int r1_size, .ref a_r1_numbers, .ref a_r1_ranks, .ref a_r1_told, .ref a_r1_ones, .ref a_r1_turnsByYear])), (a_r1_numbers, .inl (cI, 10, .inl r1_numbers)), (a_r1_ones, .inl (cJ, 10, .inr (.inl r1_ones))), (a_r1_ranks, .inl (cI, 10, .inl r1_ranks)), (a_r1_told, .inl (cJ, 10, .inr (.inl r1_told))), (a_r1_turnsByYear, .inl (cZ, 10, .inl r1_turnsByYear)), (a_r3, .inr (3, [.long r3_zero, .long r3_one, .long r3_fights])), (a_r4, .inr (3, [.long x76, .long x77, .long x78])), (a_t, .inr (0, [.int x79, .int x80]))] H → va_D A [(a_r1, .inr (1, [.int r1_size, .ref a_r1_numbers, .ref a_r1_ranks, .ref a_r1_told, .ref a_r1_ones, .ref a_r1_turnsByYear])), (a_r1_numbers, .inl (cI, 10, .inl r1_numbers)), (a_r1_ones, .inl (cJ, 10, .inr (.inl r1_ones))), (a_r1_ranks, .inl (cI, 10, .inl r1_ranks)), (a_r1_told, .inl (cJ, 10, .inr (.inl r1_told))), (a_r1_turnsByYear, .inl (cZ, 10, .inl r1_turnsByYear)), (a_r3, .inr (3, [.long r3_zero, .long r3_one, .long r3_fights])), (a_r4, .inr (3, [.long x76, .long x77, .long x78])), (a_t, .inr (0, [.int x79, .int x80]))] → va_S A s.heap H locs → lv_has ls 9 [(0, .ref a_t), (1, .ref a_r1), (2, .int p2), (3, .ref a_r3), (4, .ref a_r4), (5, .int x74), (6, .int x75)] → V H locs (F0 m 17 ls [])) ?_ (fun hL80 => ?_)
  · intro n
    induction n with
    | zero => intro x74 x75 x76 x77 x78 x79 x80 H locs ls hit80; exact (zz_it0 hit80).elim
    | succ n ih80 =>
      intro x74 x75 x76 x77 x78 x79 x80 H locs ls hit80 hP hD hS hl
      obtain ⟨y80, hb80, hy80⟩ := zz_itE hit80
      have hb80 : fb_X0_find_17 p2 r1_size r1_numbers r1_ones r1_ranks r1_told r1_turnsByYear r3_zero r3_one r3_fights x74 x75 x76 x77 x78 x79 x80 = some y80 := hb80
      unfold fb_X0_find_17 at hb80
      refine lv_iload hx hb dX0_find_17 (lv_at hl 6 rfl) ?_
      refine lv_iconst (v := 1) hx hb dX0_find_19 (by decide) ?_
      refine lv_aload_n hx hb dX0_find_20 rfl (lv_at hl 1 rfl) ?_
      refine va_get (ci := 1) (v := .int r1_size) (C := RX2) (T := TX2) (N := 6) hx hb hts in_X0_find_X2 hown hK hP 0 rfl rfl 0 (by decide) (hts _ lk_X0_find_2) (fun _ h9 => h9) rfl dX0_find_21 ?_
      refine lv_ishl hx hb dX0_find_24 ?_
      refine lv_icmp_ge (tgt := 116) hx hb dX0_find_25 (by decide) (fun c86 => ?_) (fun c86 => ?_)
      · have hb80 := zz_if c86 hb80
        obtain rfl := Option.some.inj hb80
        have hy80 := Option.some.inj hy80
        cases hy80
        exact hE80 _ _ ls hP hD hS (lv_sub hl [] rfl)
      · have hb80 := zz_ifn c86 hb80
        refine lv_iload hx hb dX0_find_28 (lv_at hl 6 rfl) ?_
        obtain ⟨x87, u88, he89, hb80⟩ := zz_b2E hb80
        refine zz_PI (As := [.int x75]) (rest := []) ⟨hx, hb, hml, hown, hts⟩ (ct_J6_bitCount_0f7a4 l dC dI cI cJ cB cZ x75 x87 u88 he89) gX0_find_J6_bitCount_0f7a4 hd_J6_bitCount_0f7a4 rfl rfl rfl ⟨Nat.le_of_ble_eq_true rfl, Nat.le_of_ble_eq_true rfl⟩ ⟨Nat.le_of_ble_eq_true rfl, Nat.le_of_ble_eq_true rfl⟩ rfl rfl (Nat.le_of_ble_eq_true rfl) dX0_find_30 hl.1 hP hK hS hA (fun H locs hP hS => ?_)
        refine lv_istore (lv' := [(7, .int x87), (0, .ref a_t), (1, .ref a_r1), (2, .int p2), (3, .ref a_r3), (4, .ref a_r4), (5, .int x74), (6, .int x75)]) hx hb dX0_find_33 hl (by decide) rfl (fun ls hl => ?_)
        refine lv_iload hx hb dX0_find_35 (lv_at hl 0 rfl) ?_
        refine lv_iload hx hb dX0_find_37 (lv_at hl 6 rfl) ?_
        refine lv_icmp_le (tgt := 45) hx hb dX0_find_39 (by decide) (fun c90 => ?_) (fun c90 => ?_)
        · have hb80 := zz_if c90 hb80
          refine lv_aload_n hx hb dX0_find_45 rfl (lv_at hl 2 rfl) ?_
          refine lv_aload hx hb dX0_find_46 (lv_at hl 5 rfl) ?_
          refine lv_iload_n hx hb dX0_find_48 rfl (lv_at hl 3 rfl) ?_
          refine lv_iload hx hb dX0_find_49 (lv_at hl 7 rfl) ?_
          obtain ⟨x91, x92, x93, he94, hb80⟩ := zz_b3E hb80
          refine zz_VV (q := (RX2, TX2, 6)) (As := [.ref a_r4, .int p2, .int x75]) (rest := []) (wr := [(a_r3, .inr (3, [.long r3_zero, .long r3_one, .long r3_fights])), (a_t, .inr (0, [.int x79, .int x80]))]) (wm := [(a_r1, .inr (1, [.int r1_size, .ref a_r1_numbers, .ref a_r1_ranks, .ref a_r1_told, .ref a_r1_ones, .ref a_r1_turnsByYear])), (a_r1_numbers, .inl (cI, 10, .inl r1_numbers)), (a_r1_ones, .inl (cJ, 10, .inr (.inl r1_ones))), (a_r1_ranks, .inl (cI, 10, .inl r1_ranks)), (a_r1_told, .inl (cJ, 10, .inr (.inl r1_told))), (a_r1_turnsByYear, .inl (cZ, 10, .inl r1_turnsByYear)), (a_r3, .inr (3, [.long r3_zero, .long r3_one, .long r3_fights])), (a_r4, .inr (3, [.long x91, .long x92, .long x93])), (a_t, .inr (0, [.int x79, .int x80]))]) ⟨hx, hb, hml, hown, hts⟩ (ct_X2_readTo l dC dI cI cJ cB cZ a_r4 a_r1 a_r1_numbers a_r1_ones a_r1_ranks a_r1_told a_r1_turnsByYear x76 x77 x78 r1_size r1_numbers r1_ones r1_ranks r1_told r1_turnsByYear p2 x75 x91 x92 x93 he94) gX0_find_X2_readTo hd_X2_readTo rfl rfl rfl ⟨Nat.le_of_ble_eq_true rfl, Nat.le_of_ble_eq_true rfl⟩ ⟨Nat.le_of_ble_eq_true rfl, Nat.le_of_ble_eq_true rfl⟩ rfl rfl (Nat.le_of_ble_eq_true rfl) dX0_find_51 hl.1 rfl (ci := 1) rfl (q0 := 0) rfl hP hK hD hS hA [7, 0, 1, 2, 3, 4, 5] [6, 8] [3, 4, 5, 6, 7, 8, 0, 2, 1] rfl rfl (by decide) (by decide) (by decide) (by decide) rfl (fun H locs hP hD hS => ?_)
          refine lv_aload hx hb dX0_find_54 (lv_at hl 5 rfl) ?_
          refine va_get (ci := 3) (v := .long x93) (C := RX4) (T := TX4) (N := 3) hx hb hts in_X0_find_X4 hown hK hP 7 rfl rfl 2 (by decide) (hts _ lk_X0_find_3) (fun _ h9 => h9) rfl dX0_find_56 ?_
          refine lv_lconst (v := 0) hx hb dX0_find_59 (by decide) ?_
          refine W.lcmp hx hb dX0_find_60 ?_
          refine lv_if_eq (tgt := 67) hx hb dX0_find_61 (by decide) (fun c95 => ?_) (fun c95 => ?_)
          · have hb80 := zz_if c95 hb80
            refine lv_aload_n hx hb dX0_find_67 rfl (lv_at hl 4 rfl) ?_
            refine lv_aload hx hb dX0_find_68 (lv_at hl 5 rfl) ?_
            obtain ⟨x96, u97, he98, hb80⟩ := zz_b2E hb80
            refine zz_VL (q := (RX4, TX4, 3)) (As := [.ref a_r4]) (rest := []) (wr := [(a_r1, .inr (1, [.int r1_size, .ref a_r1_numbers, .ref a_r1_ranks, .ref a_r1_told, .ref a_r1_ones, .ref a_r1_turnsByYear])), (a_r1_numbers, .inl (cI, 10, .inl r1_numbers)), (a_r1_ones, .inl (cJ, 10, .inr (.inl r1_ones))), (a_r1_ranks, .inl (cI, 10, .inl r1_ranks)), (a_r1_told, .inl (cJ, 10, .inr (.inl r1_told))), (a_r1_turnsByYear, .inl (cZ, 10, .inl r1_turnsByYear)), (a_t, .inr (0, [.int x79, .int x80]))]) (wm := [(a_r1, .inr (1, [.int r1_size, .ref a_r1_numbers, .ref a_r1_ranks, .ref a_r1_told, .ref a_r1_ones, .ref a_r1_turnsByYear])), (a_r1_numbers, .inl (cI, 10, .inl r1_numbers)), (a_r1_ones, .inl (cJ, 10, .inr (.inl r1_ones))), (a_r1_ranks, .inl (cI, 10, .inl r1_ranks)), (a_r1_told, .inl (cJ, 10, .inr (.inl r1_told))), (a_r1_turnsByYear, .inl (cZ, 10, .inl r1_turnsByYear)), (a_r3, .inr (3, [.long r3_zero, .long r3_one, .long r3_fights])), (a_r4, .inr (3, [.long x91, .long x92, .long x93])), (a_t, .inr (0, [.int x79, .int x80]))]) ⟨hx, hb, hml, hown, hts⟩ (ct_X4_toldOtherwise l dC dI cI cJ cB cZ a_r4 a_r3 x91 x92 x93 r3_zero r3_one r3_fights x96 u97 he98) gX0_find_X4_toldOtherwise hd_X4_toldOtherwise rfl rfl rfl ⟨Nat.le_of_ble_eq_true rfl, Nat.le_of_ble_eq_true rfl⟩ ⟨Nat.le_of_ble_eq_true rfl, Nat.le_of_ble_eq_true rfl⟩ rfl rfl (Nat.le_of_ble_eq_true rfl) dX0_find_70 hl.1 rfl (ci := 3) rfl (q0 := 6) rfl hP hK hD hS hA [7, 6] [0, 1, 2, 3, 4, 5, 8] [0, 1, 2, 3, 4, 5, 8, 7, 6] rfl rfl (by decide) (by decide) (by decide) (by decide) rfl (fun H locs hP hD hS => ?_)
            obtain ⟨x99, u100, he101, hb80⟩ := zz_b2E hb80
            refine zz_PI (As := [.long x96]) (rest := []) ⟨hx, hb, hml, hown, hts⟩ (ct_J13_bitCount_95d88 l dC dI cI cJ cB cZ x96 x99 u100 he101) gX0_find_J13_bitCount_95d88 hd_J13_bitCount_95d88 rfl rfl rfl ⟨Nat.le_of_ble_eq_true rfl, Nat.le_of_ble_eq_true rfl⟩ ⟨Nat.le_of_ble_eq_true rfl, Nat.le_of_ble_eq_true rfl⟩ rfl rfl (Nat.le_of_ble_eq_true rfl) dX0_find_73 hl.1 hP hK hS hA (fun H locs hP hS => ?_)
            refine lv_istore (lv' := [(8, .int x99), (7, .int x87), (0, .ref a_t), (1, .ref a_r1), (2, .int p2), (3, .ref a_r3), (4, .ref a_r4), (5, .int x74), (6, .int x75)]) hx hb dX0_find_76 hl (by decide) rfl (fun ls hl => ?_)
            refine lv_iload hx hb dX0_find_78 (lv_at hl 1 rfl) ?_
            refine lv_iload hx hb dX0_find_80 (lv_at hl 7 rfl) ?_
            refine lv_icmp_lt (tgt := 94) hx hb dX0_find_82 (by decide) (fun c102 => ?_) (fun c102 => ?_)
            · have hb80 := zz_if c102 hb80
              refine lv_iload hx hb dX0_find_94 (lv_at hl 1 rfl) ?_
              refine lv_istore (lv' := [(5, .int x87), (8, .int x99), (7, .int x87), (0, .ref a_t), (1, .ref a_r1), (2, .int p2), (3, .ref a_r3), (4, .ref a_r4), (6, .int x75)]) hx hb dX0_find_96 hl (by decide) rfl (fun ls hl => ?_)
              refine lv_aload_n hx hb dX0_find_98 rfl (lv_at hl 3 rfl) ?_
              refine lv_iload hx hb dX0_find_99 (lv_at hl 8 rfl) ?_
              refine va_put (ci := 0) (v := .int x75) (ty := .int) (C := RX0) (T := TX0) (N := 2) hx hb hts in_X0_find_X0 tyX0 tyX0_ok nmX0 hown hK hP hD hS 8 rfl rfl 0 (by decide) (hts _ lk_X0_find_0) (fun _ h9 => h9) rfl (by decide +kernel) rfl rfl (Nat.le_of_ble_eq_true rfl) dX0_find_101 (fun H locs hP hD hS => ?_)
              have hP : va_P (dC, dI) vwCl [(a_r1, .inr (1, [.int r1_size, .ref a_r1_numbers, .ref a_r1_ranks, .ref a_r1_told, .ref a_r1_ones, .ref a_r1_turnsByYear])), (a_r1_numbers, .inl (cI, 10, .inl r1_numbers)), (a_r1_ones, .inl (cJ, 10, .inr (.inl r1_ones))), (a_r1_ranks, .inl (cI, 10, .inl r1_ranks)), (a_r1_told, .inl (cJ, 10, .inr (.inl r1_told))), (a_r1_turnsByYear, .inl (cZ, 10, .inl r1_turnsByYear)), (a_r3, .inr (3, [.long r3_zero, .long r3_one, .long r3_fights])), (a_r4, .inr (3, [.long x91, .long x92, .long x93])), (a_t, .inr (0, [.int x75, .int x80]))] H := hP
              have hD : va_D A [(a_r1, .inr (1, [.int r1_size, .ref a_r1_numbers, .ref a_r1_ranks, .ref a_r1_told, .ref a_r1_ones, .ref a_r1_turnsByYear])), (a_r1_numbers, .inl (cI, 10, .inl r1_numbers)), (a_r1_ones, .inl (cJ, 10, .inr (.inl r1_ones))), (a_r1_ranks, .inl (cI, 10, .inl r1_ranks)), (a_r1_told, .inl (cJ, 10, .inr (.inl r1_told))), (a_r1_turnsByYear, .inl (cZ, 10, .inl r1_turnsByYear)), (a_r3, .inr (3, [.long r3_zero, .long r3_one, .long r3_fights])), (a_r4, .inr (3, [.long x91, .long x92, .long x93])), (a_t, .inr (0, [.int x75, .int x80]))] := hD
              refine lv_aload_n hx hb dX0_find_104 rfl (lv_at hl 3 rfl) ?_
              refine lv_iload hx hb dX0_find_105 (lv_at hl 1 rfl) ?_
              refine va_put (ci := 0) (v := .int x99) (ty := .int) (C := RX0) (T := TX0) (N := 2) hx hb hts in_X0_find_X0 tyX0 tyX0_ok nmX0 hown hK hP hD hS 8 rfl rfl 1 (by decide) (hts _ lk_X0_find_1) (fun _ h9 => h9) rfl (by decide +kernel) rfl rfl (Nat.le_of_ble_eq_true rfl) dX0_find_107 (fun H locs hP hD hS => ?_)
              have hP : va_P (dC, dI) vwCl [(a_r1, .inr (1, [.int r1_size, .ref a_r1_numbers, .ref a_r1_ranks, .ref a_r1_told, .ref a_r1_ones, .ref a_r1_turnsByYear])), (a_r1_numbers, .inl (cI, 10, .inl r1_numbers)), (a_r1_ones, .inl (cJ, 10, .inr (.inl r1_ones))), (a_r1_ranks, .inl (cI, 10, .inl r1_ranks)), (a_r1_told, .inl (cJ, 10, .inr (.inl r1_told))), (a_r1_turnsByYear, .inl (cZ, 10, .inl r1_turnsByYear)), (a_r3, .inr (3, [.long r3_zero, .long r3_one, .long r3_fights])), (a_r4, .inr (3, [.long x91, .long x92, .long x93])), (a_t, .inr (0, [.int x75, .int x99]))] H := hP
              have hD : va_D A [(a_r1, .inr (1, [.int r1_size, .ref a_r1_numbers, .ref a_r1_ranks, .ref a_r1_told, .ref a_r1_ones, .ref a_r1_turnsByYear])), (a_r1_numbers, .inl (cI, 10, .inl r1_numbers)), (a_r1_ones, .inl (cJ, 10, .inr (.inl r1_ones))), (a_r1_ranks, .inl (cI, 10, .inl r1_ranks)), (a_r1_told, .inl (cJ, 10, .inr (.inl r1_told))), (a_r1_turnsByYear, .inl (cZ, 10, .inl r1_turnsByYear)), (a_r3, .inr (3, [.long r3_zero, .long r3_one, .long r3_fights])), (a_r4, .inr (3, [.long x91, .long x92, .long x93])), (a_t, .inr (0, [.int x75, .int x99]))] := hD
              obtain ⟨x103, ex103⟩ : ∃ z : Int32, z = x75 + 1 := ⟨_, rfl⟩
              have hb80 := zz_nmE ex103 hb80
              refine lv_iinc (v := x103) (lv' := [(6, .int x103), (5, .int x87), (8, .int x99), (7, .int x87), (0, .ref a_t), (1, .ref a_r1), (2, .int p2), (3, .ref a_r3), (4, .ref a_r4)]) hx hb dX0_find_110 hl (k := 8) rfl (by rw [ex103]; rfl) (by decide) rfl (fun ls hl => ?_)
              refine lv_goto (tgt := 17) hx hb dX0_find_113 (by decide) ?_
              obtain rfl := Option.some.inj hb80
              exact ih80 x87 x103 x91 x92 x93 x75 x99 _ _ ls hy80 hP hD hS (lv_sub hl [4, 5, 6, 7, 8, 1, 0] rfl)
            · have hb80 := zz_ifn c102 hb80
              refine lv_iload hx hb dX0_find_85 (lv_at hl 0 rfl) ?_
              refine lv_aload_n hx hb dX0_find_87 rfl (lv_at hl 2 rfl) ?_
              refine va_get (ci := 0) (v := .int x80) (C := RX0) (T := TX0) (N := 2) hx hb hts in_X0_find_X0 hown hK hP 8 rfl rfl 1 (by decide) (hts _ lk_X0_find_1) (fun _ h9 => h9) rfl dX0_find_88 ?_
              refine lv_icmp_ge (tgt := 110) hx hb dX0_find_91 (by decide) (fun c104 => ?_) (fun c104 => ?_)
              · have hb80 := zz_if c104 hb80
                obtain ⟨x105, ex105⟩ : ∃ z : Int32, z = x75 + 1 := ⟨_, rfl⟩
                have hb80 := zz_nmE ex105 hb80
                refine lv_iinc (v := x105) (lv' := [(6, .int x105), (8, .int x99), (7, .int x87), (0, .ref a_t), (1, .ref a_r1), (2, .int p2), (3, .ref a_r3), (4, .ref a_r4), (5, .int x74)]) hx hb dX0_find_110 hl (k := 8) rfl (by rw [ex105]; rfl) (by decide) rfl (fun ls hl => ?_)
                refine lv_goto (tgt := 17) hx hb dX0_find_113 (by decide) ?_
                obtain rfl := Option.some.inj hb80
                exact ih80 x74 x105 x91 x92 x93 x79 x80 _ _ ls hy80 hP hD hS (lv_sub hl [3, 4, 5, 6, 7, 8, 0] rfl)
              · have hb80 := zz_ifn c104 hb80
                refine lv_iload hx hb dX0_find_94 (lv_at hl 1 rfl) ?_
                refine lv_istore (lv' := [(5, .int x87), (8, .int x99), (7, .int x87), (0, .ref a_t), (1, .ref a_r1), (2, .int p2), (3, .ref a_r3), (4, .ref a_r4), (6, .int x75)]) hx hb dX0_find_96 hl (by decide) rfl (fun ls hl => ?_)
                refine lv_aload_n hx hb dX0_find_98 rfl (lv_at hl 3 rfl) ?_
                refine lv_iload hx hb dX0_find_99 (lv_at hl 8 rfl) ?_
                refine va_put (ci := 0) (v := .int x75) (ty := .int) (C := RX0) (T := TX0) (N := 2) hx hb hts in_X0_find_X0 tyX0 tyX0_ok nmX0 hown hK hP hD hS 8 rfl rfl 0 (by decide) (hts _ lk_X0_find_0) (fun _ h9 => h9) rfl (by decide +kernel) rfl rfl (Nat.le_of_ble_eq_true rfl) dX0_find_101 (fun H locs hP hD hS => ?_)
                have hP : va_P (dC, dI) vwCl [(a_r1, .inr (1, [.int r1_size, .ref a_r1_numbers, .ref a_r1_ranks, .ref a_r1_told, .ref a_r1_ones, .ref a_r1_turnsByYear])), (a_r1_numbers, .inl (cI, 10, .inl r1_numbers)), (a_r1_ones, .inl (cJ, 10, .inr (.inl r1_ones))), (a_r1_ranks, .inl (cI, 10, .inl r1_ranks)), (a_r1_told, .inl (cJ, 10, .inr (.inl r1_told))), (a_r1_turnsByYear, .inl (cZ, 10, .inl r1_turnsByYear)), (a_r3, .inr (3, [.long r3_zero, .long r3_one, .long r3_fights])), (a_r4, .inr (3, [.long x91, .long x92, .long x93])), (a_t, .inr (0, [.int x75, .int x80]))] H := hP
                have hD : va_D A [(a_r1, .inr (1, [.int r1_size, .ref a_r1_numbers, .ref a_r1_ranks, .ref a_r1_told, .ref a_r1_ones, .ref a_r1_turnsByYear])), (a_r1_numbers, .inl (cI, 10, .inl r1_numbers)), (a_r1_ones, .inl (cJ, 10, .inr (.inl r1_ones))), (a_r1_ranks, .inl (cI, 10, .inl r1_ranks)), (a_r1_told, .inl (cJ, 10, .inr (.inl r1_told))), (a_r1_turnsByYear, .inl (cZ, 10, .inl r1_turnsByYear)), (a_r3, .inr (3, [.long r3_zero, .long r3_one, .long r3_fights])), (a_r4, .inr (3, [.long x91, .long x92, .long x93])), (a_t, .inr (0, [.int x75, .int x80]))] := hD
                refine lv_aload_n hx hb dX0_find_104 rfl (lv_at hl 3 rfl) ?_
                refine lv_iload hx hb dX0_find_105 (lv_at hl 1 rfl) ?_
                refine va_put (ci := 0) (v := .int x99) (ty := .int) (C := RX0) (T := TX0) (N := 2) hx hb hts in_X0_find_X0 tyX0 tyX0_ok nmX0 hown hK hP hD hS 8 rfl rfl 1 (by decide) (hts _ lk_X0_find_1) (fun _ h9 => h9) rfl (by decide +kernel) rfl rfl (Nat.le_of_ble_eq_true rfl) dX0_find_107 (fun H locs hP hD hS => ?_)
                have hP : va_P (dC, dI) vwCl [(a_r1, .inr (1, [.int r1_size, .ref a_r1_numbers, .ref a_r1_ranks, .ref a_r1_told, .ref a_r1_ones, .ref a_r1_turnsByYear])), (a_r1_numbers, .inl (cI, 10, .inl r1_numbers)), (a_r1_ones, .inl (cJ, 10, .inr (.inl r1_ones))), (a_r1_ranks, .inl (cI, 10, .inl r1_ranks)), (a_r1_told, .inl (cJ, 10, .inr (.inl r1_told))), (a_r1_turnsByYear, .inl (cZ, 10, .inl r1_turnsByYear)), (a_r3, .inr (3, [.long r3_zero, .long r3_one, .long r3_fights])), (a_r4, .inr (3, [.long x91, .long x92, .long x93])), (a_t, .inr (0, [.int x75, .int x99]))] H := hP
                have hD : va_D A [(a_r1, .inr (1, [.int r1_size, .ref a_r1_numbers, .ref a_r1_ranks, .ref a_r1_told, .ref a_r1_ones, .ref a_r1_turnsByYear])), (a_r1_numbers, .inl (cI, 10, .inl r1_numbers)), (a_r1_ones, .inl (cJ, 10, .inr (.inl r1_ones))), (a_r1_ranks, .inl (cI, 10, .inl r1_ranks)), (a_r1_told, .inl (cJ, 10, .inr (.inl r1_told))), (a_r1_turnsByYear, .inl (cZ, 10, .inl r1_turnsByYear)), (a_r3, .inr (3, [.long r3_zero, .long r3_one, .long r3_fights])), (a_r4, .inr (3, [.long x91, .long x92, .long x93])), (a_t, .inr (0, [.int x75, .int x99]))] := hD
                obtain ⟨x106, ex106⟩ : ∃ z : Int32, z = x75 + 1 := ⟨_, rfl⟩
                have hb80 := zz_nmE ex106 hb80
                refine lv_iinc (v := x106) (lv' := [(6, .int x106), (5, .int x87), (8, .int x99), (7, .int x87), (0, .ref a_t), (1, .ref a_r1), (2, .int p2), (3, .ref a_r3), (4, .ref a_r4)]) hx hb dX0_find_110 hl (k := 8) rfl (by rw [ex106]; rfl) (by decide) rfl (fun ls hl => ?_)
                refine lv_goto (tgt := 17) hx hb dX0_find_113 (by decide) ?_
                obtain rfl := Option.some.inj hb80
                exact ih80 x87 x106 x91 x92 x93 x75 x99 _ _ ls hy80 hP hD hS (lv_sub hl [4, 5, 6, 7, 8, 1, 0] rfl)
          · have hb80 := zz_ifn c95 hb80
            refine lv_goto (tgt := 110) hx hb dX0_find_64 (by decide) ?_
            obtain ⟨x107, ex107⟩ : ∃ z : Int32, z = x75 + 1 := ⟨_, rfl⟩
            have hb80 := zz_nmE ex107 hb80
            refine lv_iinc (v := x107) (lv' := [(6, .int x107), (7, .int x87), (0, .ref a_t), (1, .ref a_r1), (2, .int p2), (3, .ref a_r3), (4, .ref a_r4), (5, .int x74)]) hx hb dX0_find_110 hl (k := 7) rfl (by rw [ex107]; rfl) (by decide) rfl (fun ls hl => ?_)
            refine lv_goto (tgt := 17) hx hb dX0_find_113 (by decide) ?_
            obtain rfl := Option.some.inj hb80
            exact ih80 x74 x107 x91 x92 x93 x79 x80 _ _ ls hy80 hP hD hS (lv_sub hl [2, 3, 4, 5, 6, 7, 0] rfl)
        · have hb80 := zz_ifn c90 hb80
          refine lv_goto (tgt := 110) hx hb dX0_find_42 (by decide) ?_
          obtain ⟨x108, ex108⟩ : ∃ z : Int32, z = x75 + 1 := ⟨_, rfl⟩
          have hb80 := zz_nmE ex108 hb80
          refine lv_iinc (v := x108) (lv' := [(6, .int x108), (7, .int x87), (0, .ref a_t), (1, .ref a_r1), (2, .int p2), (3, .ref a_r3), (4, .ref a_r4), (5, .int x74)]) hx hb dX0_find_110 hl (k := 7) rfl (by rw [ex108]; rfl) (by decide) rfl (fun ls hl => ?_)
          refine lv_goto (tgt := 17) hx hb dX0_find_113 (by decide) ?_
          obtain rfl := Option.some.inj hb80
          exact ih80 x74 x108 x76 x77 x78 x79 x80 _ _ ls hy80 hP hD hS (lv_sub hl [2, 3, 4, 5, 6, 7, 0] rfl)
  exact hL80 zz_fuel 11 0 r4_zero r4_one r4_fights 0 0 _ _ ls hit80 hP hD hS (lv_sub hl [2, 3, 4, 5, 6, 1, 0] rfl)
theorem hd_X1_houseAt : yX1_houseAt.cls ≠ "java/lang/invoke/MethodHandle" ∧ yX1_houseAt.cls ≠ "java/lang/invoke/VarHandle" ∧ (parseMethodDescriptor yX1_houseAt.desc).map (fun d => d.parameters.length) = some 2 := by decide +kernel
set_option maxHeartbeats 4000000 in
set_option maxRecDepth 100000 in
theorem ct_X1_houseAt (l : Launch) (dC : Nat → ClassId) (dI : Nat → Nat → Nat) (cI cJ cB cZ : ClassId) (p0 : Int64) (p2 : Int32) (rr : Int32) (u0 : Unit) (h : fn_X1_houseAt p0 p2 = some (rr, u0)) : zz_M l yX1_houseAt wsX1_houseAt ({ frames := 0, cells := 0, slots := 0, locals := 0 }) (dC, dI) (zz_T cI cJ cB cZ) [.long p0, .int p2] [] (zz_QI (dC, dI) (zz_T cI cJ cB cZ) (rr, u0) (fun (u : Unit) => [])) := by
  unfold fn_X1_houseAt at h
  refine zz_of (by decide) rfl (Nat.le_of_ble_eq_true rfl) ?_
  intro p e s m below meth c A ls hx hb hr hml hts hown hlocks hA hS hP hK hD hl
  have hown : s.vm.findClass RX1 = some m.cls := hown
  have hl : lv_has ls 3 [(0, .long p0), (2, .int p2)] := hl
  refine lv_lload_n hx hb dX1_houseAt_0 rfl (lv_at hl 0 rfl) ?_
  refine lv_iload_n hx hb dX1_houseAt_1 rfl (lv_at hl 1 rfl) ?_
  refine lv_lushr (v := (p0.toUInt64 >>> (p2.toInt64.toUInt64 &&& Int64.toUInt64 63)).toInt64) hx hb dX1_houseAt_2 rfl ?_
  refine lv_lconst (v := 1) hx hb dX1_houseAt_3 (by decide) ?_
  refine lv_land hx hb dX1_houseAt_4 ?_
  refine lv_l2i (v := (((p0.toUInt64 >>> (p2.toInt64.toUInt64 &&& Int64.toUInt64 63)).toInt64) &&& 1).toInt32) hx hb dX1_houseAt_5 rfl ?_
  exact zz_iret () hx hb hr hlocks dX1_houseAt_6 (Option.some.inj h) hP hK hD hS
theorem hd_X1_holds : yX1_holds.cls ≠ "java/lang/invoke/MethodHandle" ∧ yX1_holds.cls ≠ "java/lang/invoke/VarHandle" ∧ (parseMethodDescriptor yX1_holds.desc).map (fun d => d.parameters.length) = some 2 := by decide +kernel
set_option maxHeartbeats 4000000 in
set_option maxRecDepth 100000 in
theorem ct_X1_holds (l : Launch) (dC : Nat → ClassId) (dI : Nat → Nat → Nat) (cI cJ cB cZ : ClassId) (p0 : Int64) (p2 : Int32) (rr : Int32) (u0 : Unit) (h : fn_X1_holds p0 p2 = some (rr, u0)) : zz_M l yX1_holds wsX1_holds ({ frames := 0, cells := 0, slots := 0, locals := 0 }) (dC, dI) (zz_T cI cJ cB cZ) [.long p0, .int p2] [] (zz_QI (dC, dI) (zz_T cI cJ cB cZ) (rr, u0) (fun (u : Unit) => [])) := by
  unfold fn_X1_holds at h
  refine zz_of (by decide) rfl (Nat.le_of_ble_eq_true rfl) ?_
  intro p e s m below meth c A ls hx hb hr hml hts hown hlocks hA hS hP hK hD hl
  have hown : s.vm.findClass RX1 = some m.cls := hown
  have hl : lv_has ls 3 [(0, .long p0), (2, .int p2)] := hl
  refine lv_lload_n hx hb dX1_holds_0 rfl (lv_at hl 0 rfl) ?_
  refine lv_iload_n hx hb dX1_holds_1 rfl (lv_at hl 1 rfl) ?_
  refine lv_lushr (v := (p0.toUInt64 >>> (p2.toInt64.toUInt64 &&& Int64.toUInt64 63)).toInt64) hx hb dX1_holds_2 rfl ?_
  refine lv_lconst (v := 1) hx hb dX1_holds_3 (by decide) ?_
  refine lv_land hx hb dX1_holds_4 ?_
  refine lv_lconst (v := 0) hx hb dX1_holds_5 (by decide) ?_
  refine W.lcmp hx hb dX1_holds_6 ?_
  refine lv_if_eq (tgt := 14) hx hb dX1_holds_7 (by decide) (fun c1 => ?_) (fun c1 => ?_)
  · have h := zz_if c1 h
    refine lv_iconst (v := 0) hx hb dX1_holds_14 (by decide) ?_
    exact zz_zret () hx hb hr hlocks dX1_holds_15 (by decide) (Option.some.inj h) hP hK hD hS
  · have h := zz_ifn c1 h
    refine lv_iconst (v := 1) hx hb dX1_holds_10 (by decide) ?_
    refine lv_goto (tgt := 15) hx hb dX1_holds_11 (by decide) ?_
    exact zz_zret () hx hb hr hlocks dX1_holds_15 (by decide) (Option.some.inj h) hP hK hD hS
theorem hd_X1_atHouse : yX1_atHouse.cls ≠ "java/lang/invoke/MethodHandle" ∧ yX1_atHouse.cls ≠ "java/lang/invoke/VarHandle" ∧ (parseMethodDescriptor yX1_atHouse.desc).map (fun d => d.parameters.length) = some 2 := by decide +kernel
set_option maxRecDepth 20000 in
theorem lk_X1_atHouse_0 : Cond.constantLong RX1 9 (72057594037927935) ∈ wsX1_atHouse := by decide +kernel
set_option maxRecDepth 20000 in
theorem lk_X1_atHouse_1 : Cond.constantLong RX1 11 (-1) ∈ wsX1_atHouse := by decide +kernel
set_option maxHeartbeats 4000000 in
set_option maxRecDepth 100000 in
theorem ct_X1_atHouse (l : Launch) (dC : Nat → ClassId) (dI : Nat → Nat → Nat) (cI cJ cB cZ : ClassId) (p0 : Int64) (p2 : Int32) (rr : Int64) (u0 : Unit) (h : fn_X1_atHouse p0 p2 = some (rr, u0)) : zz_M l yX1_atHouse wsX1_atHouse ({ frames := 0, cells := 0, slots := 0, locals := 0 }) (dC, dI) (zz_T cI cJ cB cZ) [.long p0, .int p2] [] (zz_QL (dC, dI) (zz_T cI cJ cB cZ) (rr, u0) (fun (u : Unit) => [])) := by
  unfold fn_X1_atHouse at h
  refine zz_of (by decide) rfl (Nat.le_of_ble_eq_true rfl) ?_
  intro p e s m below meth c A ls hx hb hr hml hts hown hlocks hA hS hP hK hD hl
  have hown : s.vm.findClass RX1 = some m.cls := hown
  have hl : lv_has ls 3 [(0, .long p0), (2, .int p2)] := hl
  refine lv_iload_n hx hb dX1_atHouse_0 rfl (lv_at hl 1 rfl) ?_
  refine lv_if_ne (tgt := 16) hx hb dX1_atHouse_1 (by decide) (fun c1 => ?_) (fun c1 => ?_)
  · have h := zz_ifn c1 h
    refine lv_ldc2 (v := 72057594037927935) hx hb hown (hts _ lk_X1_atHouse_0) dX1_atHouse_16 ?_
    refine lv_lload_n hx hb dX1_atHouse_19 rfl (lv_at hl 0 rfl) ?_
    refine lv_land hx hb dX1_atHouse_20 ?_
    exact zz_lret () hx hb hr hlocks dX1_atHouse_21 (Option.some.inj h) hP hK hD hS
  · have h := zz_if c1 h
    refine lv_ldc2 (v := 72057594037927935) hx hb hown (hts _ lk_X1_atHouse_0) dX1_atHouse_4 ?_
    refine lv_lload_n hx hb dX1_atHouse_7 rfl (lv_at hl 0 rfl) ?_
    refine lv_ldc2 (v := (-1)) hx hb hown (hts _ lk_X1_atHouse_1) dX1_atHouse_8 ?_
    refine lv_lxor hx hb dX1_atHouse_11 ?_
    refine lv_land hx hb dX1_atHouse_12 ?_
    refine lv_goto (tgt := 21) hx hb dX1_atHouse_13 (by decide) ?_
    exact zz_lret () hx hb hr hlocks dX1_atHouse_21 (Option.some.inj h) hP hK hD hS
theorem hd_X1_upTo : yX1_upTo.cls ≠ "java/lang/invoke/MethodHandle" ∧ yX1_upTo.cls ≠ "java/lang/invoke/VarHandle" ∧ (parseMethodDescriptor yX1_upTo.desc).map (fun d => d.parameters.length) = some 1 := by decide +kernel
set_option maxRecDepth 20000 in
theorem lk_X1_upTo_0 : Cond.constantLong RX1 13 (2) ∈ wsX1_upTo := by decide +kernel
set_option maxHeartbeats 4000000 in
set_option maxRecDepth 100000 in
theorem ct_X1_upTo (l : Launch) (dC : Nat → ClassId) (dI : Nat → Nat → Nat) (cI cJ cB cZ : ClassId) (p0 : Int32) (rr : Int64) (u0 : Unit) (h : fn_X1_upTo p0 = some (rr, u0)) : zz_M l yX1_upTo wsX1_upTo ({ frames := 0, cells := 0, slots := 0, locals := 0 }) (dC, dI) (zz_T cI cJ cB cZ) [.int p0] [] (zz_QL (dC, dI) (zz_T cI cJ cB cZ) (rr, u0) (fun (u : Unit) => [])) := by
  unfold fn_X1_upTo at h
  refine zz_of (by decide) rfl (Nat.le_of_ble_eq_true rfl) ?_
  intro p e s m below meth c A ls hx hb hr hml hts hown hlocks hA hS hP hK hD hl
  have hown : s.vm.findClass RX1 = some m.cls := hown
  have hl : lv_has ls 1 [(0, .int p0)] := hl
  refine lv_ldc2 (v := 2) hx hb hown (hts _ lk_X1_upTo_0) dX1_upTo_0 ?_
  refine lv_iload_n hx hb dX1_upTo_3 rfl (lv_at hl 0 rfl) ?_
  refine lv_lshl (v := (2 : Int64) <<< (p0.toInt64 &&& 63)) hx hb dX1_upTo_4 rfl ?_
  refine lv_lconst (v := 1) hx hb dX1_upTo_5 (by decide) ?_
  refine lv_lsub hx hb dX1_upTo_6 ?_
  exact zz_lret () hx hb hr hlocks dX1_upTo_7 (Option.some.inj h) hP hK hD hS
theorem hd_X1_span : yX1_span.cls ≠ "java/lang/invoke/MethodHandle" ∧ yX1_span.cls ≠ "java/lang/invoke/VarHandle" ∧ (parseMethodDescriptor yX1_span.desc).map (fun d => d.parameters.length) = some 2 := by decide +kernel
set_option maxRecDepth 20000 in
theorem lk_X1_span_0 : Cond.constantLong RX1 9 (72057594037927935) ∈ wsX1_span := by decide +kernel
set_option maxHeartbeats 4000000 in
set_option maxRecDepth 100000 in
theorem ct_X1_span (l : Launch) (dC : Nat → ClassId) (dI : Nat → Nat → Nat) (cI cJ cB cZ : ClassId) (p0 : Int32) (p1 : Int32) (rr : Int64) (u0 : Unit) (h : fn_X1_span p0 p1 = some (rr, u0)) : zz_M l yX1_span wsX1_span ({ frames := 1, cells := 0, slots := 0, locals := 20 }) (dC, dI) (zz_T cI cJ cB cZ) [.int p0, .int p1] [] (zz_QL (dC, dI) (zz_T cI cJ cB cZ) (rr, u0) (fun (u : Unit) => [])) := by
  unfold fn_X1_span at h
  refine zz_of (by decide) rfl (Nat.le_of_ble_eq_true rfl) ?_
  intro p e s m below meth c A ls hx hb hr hml hts hown hlocks hA hS hP hK hD hl
  have hown : s.vm.findClass RX1 = some m.cls := hown
  have hl : lv_has ls 2 [(0, .int p0), (1, .int p1)] := hl
  refine lv_iload_n hx hb dX1_span_0 rfl (lv_at hl 1 rfl) ?_
  obtain ⟨x1, u2, he3, h⟩ := zz_b2E h
  refine zz_PL (As := [.int p1]) (rest := []) ⟨hx, hb, hml, hown, hts⟩ (ct_X1_upTo l dC dI cI cJ cB cZ p1 x1 u2 he3) gX1_span_X1_upTo hd_X1_upTo rfl rfl rfl ⟨Nat.le_of_ble_eq_true rfl, Nat.le_of_ble_eq_true rfl⟩ ⟨Nat.le_of_ble_eq_true rfl, Nat.le_of_ble_eq_true rfl⟩ rfl rfl (Nat.le_of_ble_eq_true rfl) dX1_span_1 hl.1 hP hK hS hA (fun H locs hP hS => ?_)
  refine lv_ldc2 (v := 72057594037927935) hx hb hown (hts _ lk_X1_span_0) dX1_span_4 ?_
  refine lv_iload_n hx hb dX1_span_7 rfl (lv_at hl 0 rfl) ?_
  refine lv_lshl (v := (72057594037927935 : Int64) <<< (p0.toInt64 &&& 63)) hx hb dX1_span_8 rfl ?_
  refine lv_land hx hb dX1_span_9 ?_
  exact zz_lret () hx hb hr hlocks dX1_span_10 (Option.some.inj h) hP hK hD hS
theorem hd_X1_turned : yX1_turned.cls ≠ "java/lang/invoke/MethodHandle" ∧ yX1_turned.cls ≠ "java/lang/invoke/VarHandle" ∧ (parseMethodDescriptor yX1_turned.desc).map (fun d => d.parameters.length) = some 3 := by decide +kernel
set_option maxHeartbeats 4000000 in
set_option maxRecDepth 100000 in
theorem ct_X1_turned (l : Launch) (dC : Nat → ClassId) (dI : Nat → Nat → Nat) (cI cJ cB cZ : ClassId) (p0 : Int64) (p2 : Int32) (p3 : Int32) (rr : Int64) (u0 : Unit) (h : fn_X1_turned p0 p2 p3 = some (rr, u0)) : zz_M l yX1_turned wsX1_turned ({ frames := 0, cells := 0, slots := 0, locals := 0 }) (dC, dI) (zz_T cI cJ cB cZ) [.long p0, .int p2, .int p3] [] (zz_QL (dC, dI) (zz_T cI cJ cB cZ) (rr, u0) (fun (u : Unit) => [])) := by
  unfold fn_X1_turned at h
  refine zz_of (by decide) rfl (Nat.le_of_ble_eq_true rfl) ?_
  intro p e s m below meth c A ls hx hb hr hml hts hown hlocks hA hS hP hK hD hl
  have hown : s.vm.findClass RX1 = some m.cls := hown
  have hl : lv_has ls 4 [(0, .long p0), (2, .int p2), (3, .int p3)] := hl
  refine lv_lload_n hx hb dX1_turned_0 rfl (lv_at hl 0 rfl) ?_
  refine lv_lconst (v := 1) hx hb dX1_turned_1 (by decide) ?_
  refine lv_iload_n hx hb dX1_turned_2 rfl (lv_at hl 1 rfl) ?_
  refine lv_lshl (v := (1 : Int64) <<< (p2.toInt64 &&& 63)) hx hb dX1_turned_3 rfl ?_
  refine lv_lxor hx hb dX1_turned_4 ?_
  refine lv_lconst (v := 1) hx hb dX1_turned_5 (by decide) ?_
  refine lv_iload_n hx hb dX1_turned_6 rfl (lv_at hl 2 rfl) ?_
  refine lv_lshl (v := (1 : Int64) <<< (p3.toInt64 &&& 63)) hx hb dX1_turned_7 rfl ?_
  refine lv_lxor hx hb dX1_turned_8 ?_
  exact zz_lret () hx hb hr hlocks dX1_turned_9 (Option.some.inj h) hP hK hD hS
theorem hd_X1_handings : yX1_handings.cls ≠ "java/lang/invoke/MethodHandle" ∧ yX1_handings.cls ≠ "java/lang/invoke/VarHandle" ∧ (parseMethodDescriptor yX1_handings.desc).map (fun d => d.parameters.length) = some 1 := by decide +kernel
set_option maxRecDepth 20000 in
theorem lk_X1_handings_0 : Cond.constantLong RX1 9 (72057594037927935) ∈ wsX1_handings := by decide +kernel
set_option maxRecDepth 20000 in
theorem lk_X1_handings_1 : Cond.constantLong RX1 21 (-2) ∈ wsX1_handings := by decide +kernel
set_option maxHeartbeats 4000000 in
set_option maxRecDepth 100000 in
theorem ct_X1_handings (l : Launch) (dC : Nat → ClassId) (dI : Nat → Nat → Nat) (cI cJ cB cZ : ClassId) (p0 : Int64) (rr : Int64) (u0 : Unit) (h : fn_X1_handings p0 = some (rr, u0)) : zz_M l yX1_handings wsX1_handings ({ frames := 0, cells := 0, slots := 0, locals := 0 }) (dC, dI) (zz_T cI cJ cB cZ) [.long p0] [] (zz_QL (dC, dI) (zz_T cI cJ cB cZ) (rr, u0) (fun (u : Unit) => [])) := by
  unfold fn_X1_handings at h
  refine zz_of (by decide) rfl (Nat.le_of_ble_eq_true rfl) ?_
  intro p e s m below meth c A ls hx hb hr hml hts hown hlocks hA hS hP hK hD hl
  have hown : s.vm.findClass RX1 = some m.cls := hown
  have hl : lv_has ls 2 [(0, .long p0)] := hl
  refine lv_lload_n hx hb dX1_handings_0 rfl (lv_at hl 0 rfl) ?_
  refine lv_lload_n hx hb dX1_handings_1 rfl (lv_at hl 0 rfl) ?_
  refine lv_iconst (v := 1) hx hb dX1_handings_2 (by decide) ?_
  refine lv_lshl (v := p0 <<< ((1 : Int32).toInt64 &&& 63)) hx hb dX1_handings_3 rfl ?_
  refine lv_lxor hx hb dX1_handings_4 ?_
  refine lv_ldc2 (v := 72057594037927935) hx hb hown (hts _ lk_X1_handings_0) dX1_handings_5 ?_
  refine lv_land hx hb dX1_handings_8 ?_
  refine lv_ldc2 (v := (-2)) hx hb hown (hts _ lk_X1_handings_1) dX1_handings_9 ?_
  refine lv_land hx hb dX1_handings_12 ?_
  exact zz_lret () hx hb hr hlocks dX1_handings_13 (Option.some.inj h) hP hK hD hS
theorem hd_X1_pick : yX1_pick.cls ≠ "java/lang/invoke/MethodHandle" ∧ yX1_pick.cls ≠ "java/lang/invoke/VarHandle" ∧ (parseMethodDescriptor yX1_pick.desc).map (fun d => d.parameters.length) = some 2 := by decide +kernel
set_option maxHeartbeats 4000000 in
set_option maxRecDepth 100000 in
theorem ct_X1_pick (l : Launch) (dC : Nat → ClassId) (dI : Nat → Nat → Nat) (cI cJ cB cZ : ClassId) (p0 : Int64) (p2 : Int32) (rr : Int32) (u0 : Unit) (h : fn_X1_pick p0 p2 = some (rr, u0)) : zz_M l yX1_pick wsX1_pick ({ frames := 1, cells := 0, slots := 0, locals := 21 }) (dC, dI) (zz_T cI cJ cB cZ) [.long p0, .int p2] [] (zz_QI (dC, dI) (zz_T cI cJ cB cZ) (rr, u0) (fun (u : Unit) => [])) := by
  unfold fn_X1_pick at h
  refine zz_of (by decide) rfl (Nat.le_of_ble_eq_true rfl) ?_
  intro p e s m below meth c A ls hx hb hr hml hts hown hlocks hA hS hP hK hD hl
  have hown : s.vm.findClass RX1 = some m.cls := hown
  have hl : lv_has ls 6 [(0, .long p0), (2, .int p2)] := hl
  refine lv_iload_n hx hb dX1_pick_0 rfl (lv_at hl 1 rfl) ?_
  refine lv_if_lt (tgt := 12) hx hb dX1_pick_1 (by decide) (fun c1 => ?_) (fun c1 => ?_)
  · have h := zz_if c1 h
    refine lv_bipush (v := (-9)) hx hb dX1_pick_12 (by decide) ?_
    exact zz_iret () hx hb hr hlocks dX1_pick_14 (Option.some.inj h) hP hK hD hS
  · have h := zz_ifn c1 h
    refine lv_iload_n hx hb dX1_pick_4 rfl (lv_at hl 1 rfl) ?_
    refine lv_lload_n hx hb dX1_pick_5 rfl (lv_at hl 0 rfl) ?_
    obtain ⟨x2, u3, he4, h⟩ := zz_b2E h
    refine zz_PI (As := [.long p0]) (rest := [.int p2]) ⟨hx, hb, hml, hown, hts⟩ (ct_J13_bitCount_95d88 l dC dI cI cJ cB cZ p0 x2 u3 he4) gX1_pick_J13_bitCount_95d88 hd_J13_bitCount_95d88 rfl rfl rfl ⟨Nat.le_of_ble_eq_true rfl, Nat.le_of_ble_eq_true rfl⟩ ⟨Nat.le_of_ble_eq_true rfl, Nat.le_of_ble_eq_true rfl⟩ rfl rfl (Nat.le_of_ble_eq_true rfl) dX1_pick_6 hl.1 hP hK hS hA (fun H locs hP hS => ?_)
    refine lv_icmp_lt (tgt := 15) hx hb dX1_pick_9 (by decide) (fun c5 => ?_) (fun c5 => ?_)
    · have h := zz_if c5 h
      refine lv_lload_n hx hb dX1_pick_15 rfl (lv_at hl 0 rfl) ?_
      refine lv_lstore_n (lv' := [(3, .long p0), (0, .long p0), (2, .int p2)]) hx hb dX1_pick_16 rfl hl (by decide) rfl (fun ls hl => ?_)
      refine lv_iconst (v := 0) hx hb dX1_pick_17 (by decide) ?_
      refine lv_istore (lv' := [(5, .int 0), (3, .long p0), (0, .long p0), (2, .int p2)]) hx hb dX1_pick_18 hl (by decide) rfl (fun ls hl => ?_)
      obtain ⟨x14, hit13, h⟩ := zz_b1E h
      refine zz_cut (fun V => ∀ (H : Heap) (locs : List Loc) (ls : Array Slot), va_P (dC, dI) vwCl [] H → va_D A [] → va_S A s.heap H locs → lv_has ls 6 [(3, .long x14)] → V H locs (F0 m 38 ls [])) ?_ (fun hE13 => ?_)
      · intro H locs ls hP hD hS hl
        refine lv_lload_n hx hb dX1_pick_38 rfl (lv_at hl 0 rfl) ?_
        refine lv_lload_n hx hb dX1_pick_39 rfl (lv_at hl 0 rfl) ?_
        refine lv_lneg hx hb dX1_pick_40 ?_
        refine lv_land hx hb dX1_pick_41 ?_
        refine lv_lconst (v := 1) hx hb dX1_pick_42 (by decide) ?_
        refine lv_lsub hx hb dX1_pick_43 ?_
        obtain ⟨x15, u16, he17, h⟩ := zz_b2E h
        refine zz_PI (As := [.long ((x14 &&& (-x14)) - 1)]) (rest := []) ⟨hx, hb, hml, hown, hts⟩ (ct_J13_bitCount_95d88 l dC dI cI cJ cB cZ ((x14 &&& (-x14)) - 1) x15 u16 he17) gX1_pick_J13_bitCount_95d88 hd_J13_bitCount_95d88 rfl rfl rfl ⟨Nat.le_of_ble_eq_true rfl, Nat.le_of_ble_eq_true rfl⟩ ⟨Nat.le_of_ble_eq_true rfl, Nat.le_of_ble_eq_true rfl⟩ rfl rfl (Nat.le_of_ble_eq_true rfl) dX1_pick_44 hl.1 hP hK hS hA (fun H locs hP hS => ?_)
        exact zz_iret () hx hb hr hlocks dX1_pick_47 (Option.some.inj h) hP hK hD hS
      refine zz_cut (fun V => ∀ (n : Nat) (x12 : Int64) (x13 : Int32) (H : Heap) (locs : List Loc) (ls : Array Slot), zz_it (fun z => fb_X1_pick_20 p2 z.1 z.2) n (x12, x13) = some x14 → va_P (dC, dI) vwCl [] H → va_D A [] → va_S A s.heap H locs → lv_has ls 6 [(2, .int p2), (3, .long x12), (5, .int x13)] → V H locs (F0 m 20 ls [])) ?_ (fun hL13 => ?_)
      · intro n
        induction n with
        | zero => intro x12 x13 H locs ls hit13; exact (zz_it0 hit13).elim
        | succ n ih13 =>
          intro x12 x13 H locs ls hit13 hP hD hS hl
          obtain ⟨y13, hb13, hy13⟩ := zz_itE hit13
          have hb13 : fb_X1_pick_20 p2 x12 x13 = some y13 := hb13
          unfold fb_X1_pick_20 at hb13
          refine lv_iload hx hb dX1_pick_20 (lv_at hl 2 rfl) ?_
          refine lv_iload_n hx hb dX1_pick_22 rfl (lv_at hl 0 rfl) ?_
          refine lv_icmp_ge (tgt := 38) hx hb dX1_pick_23 (by decide) (fun c18 => ?_) (fun c18 => ?_)
          · have hb13 := zz_if c18 hb13
            obtain rfl := Option.some.inj hb13
            have hy13 := Option.some.inj hy13
            cases hy13
            exact hE13 _ _ ls hP hD hS (lv_sub hl [1] rfl)
          · have hb13 := zz_ifn c18 hb13
            refine lv_lload_n hx hb dX1_pick_26 rfl (lv_at hl 1 rfl) ?_
            refine lv_lload_n hx hb dX1_pick_27 rfl (lv_at hl 1 rfl) ?_
            refine lv_lconst (v := 1) hx hb dX1_pick_28 (by decide) ?_
            refine lv_lsub hx hb dX1_pick_29 ?_
            refine lv_land hx hb dX1_pick_30 ?_
            refine lv_topl (fun x19 ex19 => ?_)
            have hb13 := zz_nmE ex19 hb13
            refine lv_lstore_n (lv' := [(3, .long x19), (2, .int p2), (5, .int x13)]) hx hb dX1_pick_31 rfl hl (by decide) rfl (fun ls hl => ?_)
            obtain ⟨x20, ex20⟩ : ∃ z : Int32, z = x13 + 1 := ⟨_, rfl⟩
            have hb13 := zz_nmE ex20 hb13
            refine lv_iinc (v := x20) (lv' := [(5, .int x20), (3, .long x19), (2, .int p2)]) hx hb dX1_pick_32 hl (k := 2) rfl (by rw [ex20]; rfl) (by decide) rfl (fun ls hl => ?_)
            refine lv_goto (tgt := 20) hx hb dX1_pick_35 (by decide) ?_
            obtain rfl := Option.some.inj hb13
            exact ih13 x19 x20 _ _ ls hy13 hP hD hS (lv_sub hl [2, 1, 0] rfl)
      exact hL13 zz_fuel p0 0 _ _ ls hit13 hP hD hS (lv_sub hl [3, 1, 0] rfl)
    · have h := zz_ifn c5 h
      refine lv_bipush (v := (-9)) hx hb dX1_pick_12 (by decide) ?_
      exact zz_iret () hx hb hr hlocks dX1_pick_14 (Option.some.inj h) hP hK hD hS
theorem hd_X1_longestRow : yX1_longestRow.cls ≠ "java/lang/invoke/MethodHandle" ∧ yX1_longestRow.cls ≠ "java/lang/invoke/VarHandle" ∧ (parseMethodDescriptor yX1_longestRow.desc).map (fun d => d.parameters.length) = some 1 := by decide +kernel
set_option maxHeartbeats 4000000 in
set_option maxRecDepth 100000 in
theorem ct_X1_longestRow (l : Launch) (dC : Nat → ClassId) (dI : Nat → Nat → Nat) (cI cJ cB cZ : ClassId) (p0 : Int64) (rr : Int32) (u0 : Unit) (h : fn_X1_longestRow p0 = some (rr, u0)) : zz_M l yX1_longestRow wsX1_longestRow ({ frames := 0, cells := 0, slots := 0, locals := 0 }) (dC, dI) (zz_T cI cJ cB cZ) [.long p0] [] (zz_QI (dC, dI) (zz_T cI cJ cB cZ) (rr, u0) (fun (u : Unit) => [])) := by
  unfold fn_X1_longestRow at h
  refine zz_of (by decide) rfl (Nat.le_of_ble_eq_true rfl) ?_
  intro p e s m below meth c A ls hx hb hr hml hts hown hlocks hA hS hP hK hD hl
  have hown : s.vm.findClass RX1 = some m.cls := hown
  have hl : lv_has ls 5 [(0, .long p0)] := hl
  refine lv_lload_n hx hb dX1_longestRow_0 rfl (lv_at hl 0 rfl) ?_
  refine lv_lstore_n (lv' := [(2, .long p0), (0, .long p0)]) hx hb dX1_longestRow_1 rfl hl (by decide) rfl (fun ls hl => ?_)
  refine lv_iconst (v := 0) hx hb dX1_longestRow_2 (by decide) ?_
  refine lv_istore (lv' := [(4, .int 0), (2, .long p0), (0, .long p0)]) hx hb dX1_longestRow_3 hl (by decide) rfl (fun ls hl => ?_)
  obtain ⟨x11, hit10, h⟩ := zz_b1E h
  refine zz_cut (fun V => ∀ (H : Heap) (locs : List Loc) (ls : Array Slot), va_P (dC, dI) vwCl [] H → va_D A [] → va_S A s.heap H locs → lv_has ls 5 [(4, .int x11)] → V H locs (F0 m 30 ls [])) ?_ (fun hE10 => ?_)
  · intro H locs ls hP hD hS hl
    refine lv_iload hx hb dX1_longestRow_30 (lv_at hl 0 rfl) ?_
    exact zz_iret () hx hb hr hlocks dX1_longestRow_32 (Option.some.inj h) hP hK hD hS
  refine zz_cut (fun V => ∀ (n : Nat) (x9 : Int64) (x10 : Int32) (H : Heap) (locs : List Loc) (ls : Array Slot), zz_it (fun z => fb_X1_longestRow_5 z.1 z.2) n (x9, x10) = some x11 → va_P (dC, dI) vwCl [] H → va_D A [] → va_S A s.heap H locs → lv_has ls 5 [(2, .long x9), (4, .int x10)] → V H locs (F0 m 5 ls [])) ?_ (fun hL10 => ?_)
  · intro n
    induction n with
    | zero => intro x9 x10 H locs ls hit10; exact (zz_it0 hit10).elim
    | succ n ih10 =>
      intro x9 x10 H locs ls hit10 hP hD hS hl
      obtain ⟨y10, hb10, hy10⟩ := zz_itE hit10
      have hb10 : fb_X1_longestRow_5 x9 x10 = some y10 := hb10
      unfold fb_X1_longestRow_5 at hb10
      refine lv_iload hx hb dX1_longestRow_5 (lv_at hl 1 rfl) ?_
      refine lv_bipush (v := 56) hx hb dX1_longestRow_7 (by decide) ?_
      refine lv_icmp_ge (tgt := 30) hx hb dX1_longestRow_9 (by decide) (fun c12 => ?_) (fun c12 => ?_)
      · have hb10 := zz_if c12 hb10
        obtain rfl := Option.some.inj hb10
        have hy10 := Option.some.inj hy10
        cases hy10
        exact hE10 _ _ ls hP hD hS (lv_sub hl [1] rfl)
      · have hb10 := zz_ifn c12 hb10
        refine lv_lload_n hx hb dX1_longestRow_12 rfl (lv_at hl 0 rfl) ?_
        refine lv_lconst (v := 0) hx hb dX1_longestRow_13 (by decide) ?_
        refine W.lcmp hx hb dX1_longestRow_14 ?_
        refine lv_if_eq (tgt := 30) hx hb dX1_longestRow_15 (by decide) (fun c13 => ?_) (fun c13 => ?_)
        · have hb10 := zz_if c13 hb10
          obtain rfl := Option.some.inj hb10
          have hy10 := Option.some.inj hy10
          cases hy10
          exact hE10 _ _ ls hP hD hS (lv_sub hl [1] rfl)
        · have hb10 := zz_ifn c13 hb10
          obtain ⟨x14, ex14⟩ : ∃ z : Int32, z = x10 + 1 := ⟨_, rfl⟩
          have hb10 := zz_nmE ex14 hb10
          refine lv_iinc (v := x14) (lv' := [(4, .int x14), (2, .long x9)]) hx hb dX1_longestRow_18 hl (k := 1) rfl (by rw [ex14]; rfl) (by decide) rfl (fun ls hl => ?_)
          refine lv_lload_n hx hb dX1_longestRow_21 rfl (lv_at hl 1 rfl) ?_
          refine lv_lload_n hx hb dX1_longestRow_22 rfl (lv_at hl 1 rfl) ?_
          refine lv_iconst (v := 1) hx hb dX1_longestRow_23 (by decide) ?_
          refine lv_lshl (v := x9 <<< ((1 : Int32).toInt64 &&& 63)) hx hb dX1_longestRow_24 rfl ?_
          refine lv_land hx hb dX1_longestRow_25 ?_
          refine lv_topl (fun x15 ex15 => ?_)
          have hb10 := zz_nmE ex15 hb10
          refine lv_lstore_n (lv' := [(2, .long x15), (4, .int x14)]) hx hb dX1_longestRow_26 rfl hl (by decide) rfl (fun ls hl => ?_)
          refine lv_goto (tgt := 5) hx hb dX1_longestRow_27 (by decide) ?_
          obtain rfl := Option.some.inj hb10
          exact ih10 x15 x14 _ _ ls hy10 hP hD hS (lv_sub hl [0, 1] rfl)
  exact hL10 zz_fuel p0 0 _ _ ls hit10 hP hD hS (lv_sub hl [1, 0] rfl)
theorem hd_X1_behindLongRuns : yX1_behindLongRuns.cls ≠ "java/lang/invoke/MethodHandle" ∧ yX1_behindLongRuns.cls ≠ "java/lang/invoke/VarHandle" ∧ (parseMethodDescriptor yX1_behindLongRuns.desc).map (fun d => d.parameters.length) = some 2 := by decide +kernel
set_option maxRecDepth 20000 in
theorem lk_X1_behindLongRuns_0 : Cond.constantLong RX1 29 (72057594037927934) ∈ wsX1_behindLongRuns := by decide +kernel
set_option maxRecDepth 20000 in
theorem lk_X1_behindLongRuns_1 : Cond.constantLong RX1 11 (-1) ∈ wsX1_behindLongRuns := by decide +kernel
set_option maxHeartbeats 4000000 in
set_option maxRecDepth 100000 in
theorem ct_X1_behindLongRuns (l : Launch) (dC : Nat → ClassId) (dI : Nat → Nat → Nat) (cI cJ cB cZ : ClassId) (p0 : Int64) (p2 : Int32) (rr : Int64) (u0 : Unit) (h : fn_X1_behindLongRuns p0 p2 = some (rr, u0)) : zz_M l yX1_behindLongRuns wsX1_behindLongRuns ({ frames := 1, cells := 0, slots := 0, locals := 21 }) (dC, dI) (zz_T cI cJ cB cZ) [.long p0, .int p2] [] (zz_QL (dC, dI) (zz_T cI cJ cB cZ) (rr, u0) (fun (u : Unit) => [])) := by
  unfold fn_X1_behindLongRuns at h
  refine zz_of (by decide) rfl (Nat.le_of_ble_eq_true rfl) ?_
  intro p e s m below meth c A ls hx hb hr hml hts hown hlocks hA hS hP hK hD hl
  have hown : s.vm.findClass RX1 = some m.cls := hown
  have hl : lv_has ls 8 [(0, .long p0), (2, .int p2)] := hl
  refine lv_ldc2 (v := 72057594037927934) hx hb hown (hts _ lk_X1_behindLongRuns_0) dX1_behindLongRuns_0 ?_
  refine lv_lload_n hx hb dX1_behindLongRuns_3 rfl (lv_at hl 0 rfl) ?_
  obtain ⟨x1, u2, he3, h⟩ := zz_b2E h
  refine zz_PL (As := [.long p0]) (rest := [.long 72057594037927934]) ⟨hx, hb, hml, hown, hts⟩ (ct_X1_handings l dC dI cI cJ cB cZ p0 x1 u2 he3) gX1_behindLongRuns_X1_handings hd_X1_handings rfl rfl rfl ⟨Nat.le_of_ble_eq_true rfl, Nat.le_of_ble_eq_true rfl⟩ ⟨Nat.le_of_ble_eq_true rfl, Nat.le_of_ble_eq_true rfl⟩ rfl rfl (Nat.le_of_ble_eq_true rfl) dX1_behindLongRuns_4 hl.1 hP hK hS hA (fun H locs hP hS => ?_)
  refine lv_ldc2 (v := (-1)) hx hb hown (hts _ lk_X1_behindLongRuns_1) dX1_behindLongRuns_7 ?_
  refine lv_lxor hx hb dX1_behindLongRuns_10 ?_
  refine lv_land hx hb dX1_behindLongRuns_11 ?_
  refine lv_topl (fun x4 ex4 => ?_)
  have h := zz_nmE ex4 h
  refine lv_lstore_n (lv' := [(3, .long x4), (0, .long p0), (2, .int p2)]) hx hb dX1_behindLongRuns_12 rfl hl (by decide) rfl (fun ls hl => ?_)
  refine lv_lload_n hx hb dX1_behindLongRuns_13 rfl (lv_at hl 0 rfl) ?_
  refine lv_lstore (lv' := [(5, .long x4), (3, .long x4), (0, .long p0), (2, .int p2)]) hx hb dX1_behindLongRuns_14 hl (by decide) rfl (fun ls hl => ?_)
  refine lv_iconst (v := 1) hx hb dX1_behindLongRuns_16 (by decide) ?_
  refine lv_istore (lv' := [(7, .int 1), (5, .long x4), (3, .long x4), (0, .long p0), (2, .int p2)]) hx hb dX1_behindLongRuns_17 hl (by decide) rfl (fun ls hl => ?_)
  obtain ⟨x13, hit12, h⟩ := zz_b1E h
  refine zz_cut (fun V => ∀ (H : Heap) (locs : List Loc) (ls : Array Slot), va_P (dC, dI) vwCl [] H → va_D A [] → va_S A s.heap H locs → lv_has ls 8 [(5, .long x13)] → V H locs (F0 m 40 ls [])) ?_ (fun hE12 => ?_)
  · intro H locs ls hP hD hS hl
    refine lv_lload hx hb dX1_behindLongRuns_40 (lv_at hl 0 rfl) ?_
    exact zz_lret () hx hb hr hlocks dX1_behindLongRuns_42 (Option.some.inj h) hP hK hD hS
  refine zz_cut (fun V => ∀ (n : Nat) (x11 : Int64) (x12 : Int32) (H : Heap) (locs : List Loc) (ls : Array Slot), zz_it (fun z => fb_X1_behindLongRuns_19 p2 x4 z.1 z.2) n (x11, x12) = some x13 → va_P (dC, dI) vwCl [] H → va_D A [] → va_S A s.heap H locs → lv_has ls 8 [(2, .int p2), (3, .long x4), (5, .long x11), (7, .int x12)] → V H locs (F0 m 19 ls [])) ?_ (fun hL12 => ?_)
  · intro n
    induction n with
    | zero => intro x11 x12 H locs ls hit12; exact (zz_it0 hit12).elim
    | succ n ih12 =>
      intro x11 x12 H locs ls hit12 hP hD hS hl
      obtain ⟨y12, hb12, hy12⟩ := zz_itE hit12
      have hb12 : fb_X1_behindLongRuns_19 p2 x4 x11 x12 = some y12 := hb12
      unfold fb_X1_behindLongRuns_19 at hb12
      refine lv_iload hx hb dX1_behindLongRuns_19 (lv_at hl 3 rfl) ?_
      refine lv_iload_n hx hb dX1_behindLongRuns_21 rfl (lv_at hl 0 rfl) ?_
      refine lv_icmp_ge (tgt := 40) hx hb dX1_behindLongRuns_22 (by decide) (fun c14 => ?_) (fun c14 => ?_)
      · have hb12 := zz_if c14 hb12
        obtain rfl := Option.some.inj hb12
        have hy12 := Option.some.inj hy12
        cases hy12
        exact hE12 _ _ ls hP hD hS (lv_sub hl [2] rfl)
      · have hb12 := zz_ifn c14 hb12
        refine lv_lload hx hb dX1_behindLongRuns_25 (lv_at hl 2 rfl) ?_
        refine lv_lload_n hx hb dX1_behindLongRuns_27 rfl (lv_at hl 1 rfl) ?_
        refine lv_iload hx hb dX1_behindLongRuns_28 (lv_at hl 3 rfl) ?_
        refine lv_lshl (v := x4 <<< (x12.toInt64 &&& 63)) hx hb dX1_behindLongRuns_30 rfl ?_
        refine lv_land hx hb dX1_behindLongRuns_31 ?_
        refine lv_topl (fun x15 ex15 => ?_)
        have hb12 := zz_nmE ex15 hb12
        refine lv_lstore (lv' := [(5, .long x15), (2, .int p2), (3, .long x4), (7, .int x12)]) hx hb dX1_behindLongRuns_32 hl (by decide) rfl (fun ls hl => ?_)
        obtain ⟨x16, ex16⟩ : ∃ z : Int32, z = x12 + 1 := ⟨_, rfl⟩
        have hb12 := zz_nmE ex16 hb12
        refine lv_iinc (v := x16) (lv' := [(7, .int x16), (5, .long x15), (2, .int p2), (3, .long x4)]) hx hb dX1_behindLongRuns_34 hl (k := 3) rfl (by rw [ex16]; rfl) (by decide) rfl (fun ls hl => ?_)
        refine lv_goto (tgt := 19) hx hb dX1_behindLongRuns_37 (by decide) ?_
        obtain rfl := Option.some.inj hb12
        exact ih12 x15 x16 _ _ ls hy12 hP hD hS (lv_sub hl [2, 3, 1, 0] rfl)
  exact hL12 zz_fuel x4 1 _ _ ls hit12 hP hD hS (lv_sub hl [4, 2, 1, 0] rfl)
theorem hd_X2_copyRule : yX2_copyRule.cls ≠ "java/lang/invoke/MethodHandle" ∧ yX2_copyRule.cls ≠ "java/lang/invoke/VarHandle" ∧ (parseMethodDescriptor yX2_copyRule.desc).map (fun d => d.parameters.length) = some 3 := by decide +kernel
set_option maxRecDepth 20000 in
theorem in_X2_copyRule_X2 : ∀ w ∈ u_ws RX2 TX2 6, w ∈ wsX2_copyRule := by decide +kernel
set_option maxRecDepth 20000 in
theorem lk_X2_copyRule_0 : Cond.fieldLink RX2 9 "TwoHousesOneChild$Paper" "numbers" "[I" ∈ wsX2_copyRule := by decide +kernel
set_option maxRecDepth 20000 in
theorem lk_X2_copyRule_1 : Cond.fieldLink RX2 15 "TwoHousesOneChild$Paper" "ranks" "[I" ∈ wsX2_copyRule := by decide +kernel
set_option maxRecDepth 20000 in
theorem lk_X2_copyRule_2 : Cond.fieldLink RX2 18 "TwoHousesOneChild$Paper" "told" "[J" ∈ wsX2_copyRule := by decide +kernel
set_option maxRecDepth 20000 in
theorem lk_X2_copyRule_3 : Cond.fieldLink RX2 22 "TwoHousesOneChild$Paper" "ones" "[J" ∈ wsX2_copyRule := by decide +kernel
set_option maxRecDepth 20000 in
theorem lk_X2_copyRule_4 : Cond.fieldLink RX2 25 "TwoHousesOneChild$Paper" "turnsByYear" "[Z" ∈ wsX2_copyRule := by decide +kernel
set_option maxHeartbeats 4000000 in
set_option maxRecDepth 100000 in
theorem ct_X2_copyRule (l : Launch) (dC : Nat → ClassId) (dI : Nat → Nat → Nat) (cI cJ cB cZ : ClassId) (a_r1 a_r1_numbers a_r1_ones a_r1_ranks a_r1_told a_r1_turnsByYear a_t a_t_numbers a_t_ones a_t_ranks a_t_told a_t_turnsByYear : Nat) (r1_size : Int32) (r1_numbers : (Nat → Int32)) (r1_ones : (Nat → Int64)) (r1_ranks : (Nat → Int32)) (r1_told : (Nat → Int64)) (r1_turnsByYear : (Nat → Int32)) (t_size : Int32) (t_numbers : (Nat → Int32)) (t_ones : (Nat → Int64)) (t_ranks : (Nat → Int32)) (t_told : (Nat → Int64)) (t_turnsByYear : (Nat → Int32)) (p2 : Int32) (p3 : Int32) (o1 : (Nat → Int32)) (o2 : (Nat → Int64)) (o3 : (Nat → Int32)) (o4 : (Nat → Int64)) (o5 : (Nat → Int32)) (h : fn_X2_copyRule r1_numbers r1_ones r1_ranks r1_told r1_turnsByYear t_numbers t_ones t_ranks t_told t_turnsByYear p2 p3 = some (o1, o2, o3, o4, o5)) : zz_M l yX2_copyRule wsX2_copyRule ({ frames := 0, cells := 0, slots := 0, locals := 0 }) (dC, dI) (zz_T cI cJ cB cZ) [.ref a_t, .ref a_r1, .int p2, .int p3] [(a_r1, .inr (1, [.int r1_size, .ref a_r1_numbers, .ref a_r1_ranks, .ref a_r1_told, .ref a_r1_ones, .ref a_r1_turnsByYear])), (a_r1_numbers, .inl (cI, 10, .inl r1_numbers)), (a_r1_ones, .inl (cJ, 10, .inr (.inl r1_ones))), (a_r1_ranks, .inl (cI, 10, .inl r1_ranks)), (a_r1_told, .inl (cJ, 10, .inr (.inl r1_told))), (a_r1_turnsByYear, .inl (cZ, 10, .inl r1_turnsByYear)), (a_t, .inr (1, [.int t_size, .ref a_t_numbers, .ref a_t_ranks, .ref a_t_told, .ref a_t_ones, .ref a_t_turnsByYear])), (a_t_numbers, .inl (cI, 10, .inl t_numbers)), (a_t_ones, .inl (cJ, 10, .inr (.inl t_ones))), (a_t_ranks, .inl (cI, 10, .inl t_ranks)), (a_t_told, .inl (cJ, 10, .inr (.inl t_told))), (a_t_turnsByYear, .inl (cZ, 10, .inl t_turnsByYear))] (zz_QV (dC, dI) (zz_T cI cJ cB cZ) (o1, o2, o3, o4, o5) (fun (u : (Nat → Int32) × (Nat → Int64) × (Nat → Int32) × (Nat → Int64) × (Nat → Int32)) => [(a_r1, .inr (1, [.int r1_size, .ref a_r1_numbers, .ref a_r1_ranks, .ref a_r1_told, .ref a_r1_ones, .ref a_r1_turnsByYear])), (a_r1_numbers, .inl (cI, 10, .inl r1_numbers)), (a_r1_ones, .inl (cJ, 10, .inr (.inl r1_ones))), (a_r1_ranks, .inl (cI, 10, .inl r1_ranks)), (a_r1_told, .inl (cJ, 10, .inr (.inl r1_told))), (a_r1_turnsByYear, .inl (cZ, 10, .inl r1_turnsByYear)), (a_t, .inr (1, [.int t_size, .ref a_t_numbers, .ref a_t_ranks, .ref a_t_told, .ref a_t_ones, .ref a_t_turnsByYear])), (a_t_numbers, .inl (cI, 10, .inl u.1)), (a_t_ones, .inl (cJ, 10, .inr (.inl u.2.1))), (a_t_ranks, .inl (cI, 10, .inl u.2.2.1)), (a_t_told, .inl (cJ, 10, .inr (.inl u.2.2.2.1))), (a_t_turnsByYear, .inl (cZ, 10, .inl u.2.2.2.2))])) := by
  unfold fn_X2_copyRule at h
  refine zz_of (by decide) rfl (Nat.le_of_ble_eq_true rfl) ?_
  intro p e s m below meth c A ls hx hb hr hml hts hown hlocks hA hS hP hK hD hl
  have hown : s.vm.findClass RX2 = some m.cls := hown
  have hl : lv_has ls 4 [(0, .ref a_t), (1, .ref a_r1), (2, .int p2), (3, .int p3)] := hl
  refine lv_iload_n hx hb dX2_copyRule_0 rfl (lv_at hl 2 rfl) ?_
  refine lv_if_lt (tgt := 20) hx hb dX2_copyRule_1 (by decide) (fun c1 => ?_) (fun c1 => ?_)
  · have h := zz_if c1 h
    exact zz_vret (t_numbers, t_ones, t_ranks, t_told, t_turnsByYear) hx hb hr hlocks dX2_copyRule_20 (Option.some.inj h) hP hK hD hS
  · have h := zz_ifn c1 h
    refine lv_iload_n hx hb dX2_copyRule_4 rfl (lv_at hl 2 rfl) ?_
    refine lv_bipush (v := 10) hx hb dX2_copyRule_5 (by decide) ?_
    refine lv_icmp_ge (tgt := 20) hx hb dX2_copyRule_7 (by decide) (fun c2 => ?_) (fun c2 => ?_)
    · have h := zz_if c2 h
      exact zz_vret (t_numbers, t_ones, t_ranks, t_told, t_turnsByYear) hx hb hr hlocks dX2_copyRule_20 (Option.some.inj h) hP hK hD hS
    · have h := zz_ifn c2 h
      refine lv_iload_n hx hb dX2_copyRule_10 rfl (lv_at hl 3 rfl) ?_
      refine lv_if_lt (tgt := 20) hx hb dX2_copyRule_11 (by decide) (fun c3 => ?_) (fun c3 => ?_)
      · have h := zz_if c3 h
        exact zz_vret (t_numbers, t_ones, t_ranks, t_told, t_turnsByYear) hx hb hr hlocks dX2_copyRule_20 (Option.some.inj h) hP hK hD hS
      · have h := zz_ifn c3 h
        refine lv_iload_n hx hb dX2_copyRule_14 rfl (lv_at hl 3 rfl) ?_
        refine lv_bipush (v := 10) hx hb dX2_copyRule_15 (by decide) ?_
        refine lv_icmp_lt (tgt := 21) hx hb dX2_copyRule_17 (by decide) (fun c4 => ?_) (fun c4 => ?_)
        · have h := zz_if c4 h
          refine lv_aload_n hx hb dX2_copyRule_21 rfl (lv_at hl 0 rfl) ?_
          refine va_get (ci := 1) (v := .ref a_t_numbers) (C := RX2) (T := TX2) (N := 6) hx hb hts in_X2_copyRule_X2 hown hK hP 6 rfl rfl 1 (by decide) (hts _ lk_X2_copyRule_0) (fun _ h9 => h9) rfl dX2_copyRule_22 ?_
          refine lv_iload_n hx hb dX2_copyRule_25 rfl (lv_at hl 3 rfl) ?_
          refine lv_aload_n hx hb dX2_copyRule_26 rfl (lv_at hl 1 rfl) ?_
          refine va_get (ci := 1) (v := .ref a_r1_numbers) (C := RX2) (T := TX2) (N := 6) hx hb hts in_X2_copyRule_X2 hown hK hP 0 rfl rfl 1 (by decide) (hts _ lk_X2_copyRule_0) (fun _ h9 => h9) rfl dX2_copyRule_27 ?_
          refine lv_iload_n hx hb dX2_copyRule_30 rfl (lv_at hl 2 rfl) ?_
          obtain ⟨hi5, h⟩ := zz_chkE h
          refine va_iald hx hb hK hP 1 0 rfl rfl hi5 dX2_copyRule_31 ?_
          obtain ⟨hi6, h⟩ := zz_chkE h
          refine zz_iast hx hb hK hP hD hS 7 0 rfl rfl hi6 dX2_copyRule_32 (fun g7 => [(a_r1, .inr (1, [.int r1_size, .ref a_r1_numbers, .ref a_r1_ranks, .ref a_r1_told, .ref a_r1_ones, .ref a_r1_turnsByYear])), (a_r1_numbers, .inl (cI, 10, .inl r1_numbers)), (a_r1_ones, .inl (cJ, 10, .inr (.inl r1_ones))), (a_r1_ranks, .inl (cI, 10, .inl r1_ranks)), (a_r1_told, .inl (cJ, 10, .inr (.inl r1_told))), (a_r1_turnsByYear, .inl (cZ, 10, .inl r1_turnsByYear)), (a_t, .inr (1, [.int t_size, .ref a_t_numbers, .ref a_t_ranks, .ref a_t_told, .ref a_t_ones, .ref a_t_turnsByYear])), (a_t_numbers, .inl (cI, 10, .inl g7)), (a_t_ones, .inl (cJ, 10, .inr (.inl t_ones))), (a_t_ranks, .inl (cI, 10, .inl t_ranks)), (a_t_told, .inl (cJ, 10, .inr (.inl t_told))), (a_t_turnsByYear, .inl (cZ, 10, .inl t_turnsByYear))]) (fun _ => rfl) (fun g7 H locs eg7 hP hD hS => ?_)
          have h := zz_nmE eg7 h
          refine lv_aload_n hx hb dX2_copyRule_33 rfl (lv_at hl 0 rfl) ?_
          refine va_get (ci := 1) (v := .ref a_t_ranks) (C := RX2) (T := TX2) (N := 6) hx hb hts in_X2_copyRule_X2 hown hK hP 6 rfl rfl 2 (by decide) (hts _ lk_X2_copyRule_1) (fun _ h9 => h9) rfl dX2_copyRule_34 ?_
          refine lv_iload_n hx hb dX2_copyRule_37 rfl (lv_at hl 3 rfl) ?_
          refine lv_aload_n hx hb dX2_copyRule_38 rfl (lv_at hl 1 rfl) ?_
          refine va_get (ci := 1) (v := .ref a_r1_ranks) (C := RX2) (T := TX2) (N := 6) hx hb hts in_X2_copyRule_X2 hown hK hP 0 rfl rfl 2 (by decide) (hts _ lk_X2_copyRule_1) (fun _ h9 => h9) rfl dX2_copyRule_39 ?_
          refine lv_iload_n hx hb dX2_copyRule_42 rfl (lv_at hl 2 rfl) ?_
          obtain ⟨hi8, h⟩ := zz_chkE h
          refine va_iald hx hb hK hP 3 0 rfl rfl hi8 dX2_copyRule_43 ?_
          obtain ⟨hi9, h⟩ := zz_chkE h
          refine zz_iast hx hb hK hP hD hS 9 0 rfl rfl hi9 dX2_copyRule_44 (fun g10 => [(a_r1, .inr (1, [.int r1_size, .ref a_r1_numbers, .ref a_r1_ranks, .ref a_r1_told, .ref a_r1_ones, .ref a_r1_turnsByYear])), (a_r1_numbers, .inl (cI, 10, .inl r1_numbers)), (a_r1_ones, .inl (cJ, 10, .inr (.inl r1_ones))), (a_r1_ranks, .inl (cI, 10, .inl r1_ranks)), (a_r1_told, .inl (cJ, 10, .inr (.inl r1_told))), (a_r1_turnsByYear, .inl (cZ, 10, .inl r1_turnsByYear)), (a_t, .inr (1, [.int t_size, .ref a_t_numbers, .ref a_t_ranks, .ref a_t_told, .ref a_t_ones, .ref a_t_turnsByYear])), (a_t_numbers, .inl (cI, 10, .inl g7)), (a_t_ones, .inl (cJ, 10, .inr (.inl t_ones))), (a_t_ranks, .inl (cI, 10, .inl g10)), (a_t_told, .inl (cJ, 10, .inr (.inl t_told))), (a_t_turnsByYear, .inl (cZ, 10, .inl t_turnsByYear))]) (fun _ => rfl) (fun g10 H locs eg10 hP hD hS => ?_)
          have h := zz_nmE eg10 h
          refine lv_aload_n hx hb dX2_copyRule_45 rfl (lv_at hl 0 rfl) ?_
          refine va_get (ci := 1) (v := .ref a_t_told) (C := RX2) (T := TX2) (N := 6) hx hb hts in_X2_copyRule_X2 hown hK hP 6 rfl rfl 3 (by decide) (hts _ lk_X2_copyRule_2) (fun _ h9 => h9) rfl dX2_copyRule_46 ?_
          refine lv_iload_n hx hb dX2_copyRule_49 rfl (lv_at hl 3 rfl) ?_
          refine lv_aload_n hx hb dX2_copyRule_50 rfl (lv_at hl 1 rfl) ?_
          refine va_get (ci := 1) (v := .ref a_r1_told) (C := RX2) (T := TX2) (N := 6) hx hb hts in_X2_copyRule_X2 hown hK hP 0 rfl rfl 3 (by decide) (hts _ lk_X2_copyRule_2) (fun _ h9 => h9) rfl dX2_copyRule_51 ?_
          refine lv_iload_n hx hb dX2_copyRule_54 rfl (lv_at hl 2 rfl) ?_
          obtain ⟨hi11, h⟩ := zz_chkE h
          refine va_lald hx hb hK hP 4 1 rfl rfl hi11 dX2_copyRule_55 ?_
          obtain ⟨hi12, h⟩ := zz_chkE h
          refine zz_last hx hb hK hP hD hS 10 1 rfl rfl hi12 dX2_copyRule_56 (fun g13 => [(a_r1, .inr (1, [.int r1_size, .ref a_r1_numbers, .ref a_r1_ranks, .ref a_r1_told, .ref a_r1_ones, .ref a_r1_turnsByYear])), (a_r1_numbers, .inl (cI, 10, .inl r1_numbers)), (a_r1_ones, .inl (cJ, 10, .inr (.inl r1_ones))), (a_r1_ranks, .inl (cI, 10, .inl r1_ranks)), (a_r1_told, .inl (cJ, 10, .inr (.inl r1_told))), (a_r1_turnsByYear, .inl (cZ, 10, .inl r1_turnsByYear)), (a_t, .inr (1, [.int t_size, .ref a_t_numbers, .ref a_t_ranks, .ref a_t_told, .ref a_t_ones, .ref a_t_turnsByYear])), (a_t_numbers, .inl (cI, 10, .inl g7)), (a_t_ones, .inl (cJ, 10, .inr (.inl t_ones))), (a_t_ranks, .inl (cI, 10, .inl g10)), (a_t_told, .inl (cJ, 10, .inr (.inl g13))), (a_t_turnsByYear, .inl (cZ, 10, .inl t_turnsByYear))]) (fun _ => rfl) (fun g13 H locs eg13 hP hD hS => ?_)
          have h := zz_nmE eg13 h
          refine lv_aload_n hx hb dX2_copyRule_57 rfl (lv_at hl 0 rfl) ?_
          refine va_get (ci := 1) (v := .ref a_t_ones) (C := RX2) (T := TX2) (N := 6) hx hb hts in_X2_copyRule_X2 hown hK hP 6 rfl rfl 4 (by decide) (hts _ lk_X2_copyRule_3) (fun _ h9 => h9) rfl dX2_copyRule_58 ?_
          refine lv_iload_n hx hb dX2_copyRule_61 rfl (lv_at hl 3 rfl) ?_
          refine lv_aload_n hx hb dX2_copyRule_62 rfl (lv_at hl 1 rfl) ?_
          refine va_get (ci := 1) (v := .ref a_r1_ones) (C := RX2) (T := TX2) (N := 6) hx hb hts in_X2_copyRule_X2 hown hK hP 0 rfl rfl 4 (by decide) (hts _ lk_X2_copyRule_3) (fun _ h9 => h9) rfl dX2_copyRule_63 ?_
          refine lv_iload_n hx hb dX2_copyRule_66 rfl (lv_at hl 2 rfl) ?_
          obtain ⟨hi14, h⟩ := zz_chkE h
          refine va_lald hx hb hK hP 2 1 rfl rfl hi14 dX2_copyRule_67 ?_
          obtain ⟨hi15, h⟩ := zz_chkE h
          refine zz_last hx hb hK hP hD hS 8 1 rfl rfl hi15 dX2_copyRule_68 (fun g16 => [(a_r1, .inr (1, [.int r1_size, .ref a_r1_numbers, .ref a_r1_ranks, .ref a_r1_told, .ref a_r1_ones, .ref a_r1_turnsByYear])), (a_r1_numbers, .inl (cI, 10, .inl r1_numbers)), (a_r1_ones, .inl (cJ, 10, .inr (.inl r1_ones))), (a_r1_ranks, .inl (cI, 10, .inl r1_ranks)), (a_r1_told, .inl (cJ, 10, .inr (.inl r1_told))), (a_r1_turnsByYear, .inl (cZ, 10, .inl r1_turnsByYear)), (a_t, .inr (1, [.int t_size, .ref a_t_numbers, .ref a_t_ranks, .ref a_t_told, .ref a_t_ones, .ref a_t_turnsByYear])), (a_t_numbers, .inl (cI, 10, .inl g7)), (a_t_ones, .inl (cJ, 10, .inr (.inl g16))), (a_t_ranks, .inl (cI, 10, .inl g10)), (a_t_told, .inl (cJ, 10, .inr (.inl g13))), (a_t_turnsByYear, .inl (cZ, 10, .inl t_turnsByYear))]) (fun _ => rfl) (fun g16 H locs eg16 hP hD hS => ?_)
          have h := zz_nmE eg16 h
          refine lv_aload_n hx hb dX2_copyRule_69 rfl (lv_at hl 0 rfl) ?_
          refine va_get (ci := 1) (v := .ref a_t_turnsByYear) (C := RX2) (T := TX2) (N := 6) hx hb hts in_X2_copyRule_X2 hown hK hP 6 rfl rfl 5 (by decide) (hts _ lk_X2_copyRule_4) (fun _ h9 => h9) rfl dX2_copyRule_70 ?_
          refine lv_iload_n hx hb dX2_copyRule_73 rfl (lv_at hl 3 rfl) ?_
          refine lv_aload_n hx hb dX2_copyRule_74 rfl (lv_at hl 1 rfl) ?_
          refine va_get (ci := 1) (v := .ref a_r1_turnsByYear) (C := RX2) (T := TX2) (N := 6) hx hb hts in_X2_copyRule_X2 hown hK hP 0 rfl rfl 5 (by decide) (hts _ lk_X2_copyRule_4) (fun _ h9 => h9) rfl dX2_copyRule_75 ?_
          refine lv_iload_n hx hb dX2_copyRule_78 rfl (lv_at hl 2 rfl) ?_
          obtain ⟨hi17, h⟩ := zz_chkE h
          refine va_zald hx hb hK hP 5 3 rfl rfl hi17 dX2_copyRule_79 ?_
          obtain ⟨hi18, h⟩ := zz_chkE h
          refine zz_zast hx hb hK hP hD hS 11 3 rfl rfl hi18 dX2_copyRule_80 (fun g19 => [(a_r1, .inr (1, [.int r1_size, .ref a_r1_numbers, .ref a_r1_ranks, .ref a_r1_told, .ref a_r1_ones, .ref a_r1_turnsByYear])), (a_r1_numbers, .inl (cI, 10, .inl r1_numbers)), (a_r1_ones, .inl (cJ, 10, .inr (.inl r1_ones))), (a_r1_ranks, .inl (cI, 10, .inl r1_ranks)), (a_r1_told, .inl (cJ, 10, .inr (.inl r1_told))), (a_r1_turnsByYear, .inl (cZ, 10, .inl r1_turnsByYear)), (a_t, .inr (1, [.int t_size, .ref a_t_numbers, .ref a_t_ranks, .ref a_t_told, .ref a_t_ones, .ref a_t_turnsByYear])), (a_t_numbers, .inl (cI, 10, .inl g7)), (a_t_ones, .inl (cJ, 10, .inr (.inl g16))), (a_t_ranks, .inl (cI, 10, .inl g10)), (a_t_told, .inl (cJ, 10, .inr (.inl g13))), (a_t_turnsByYear, .inl (cZ, 10, .inl g19))]) (fun _ => rfl) (fun g19 H locs eg19 hP hD hS => ?_)
          have h := zz_nmE eg19 h
          exact zz_vret (g7, g16, g10, g13, g19) hx hb hr hlocks dX2_copyRule_81 (Option.some.inj h) hP hK hD hS
        · have h := zz_ifn c4 h
          exact zz_vret (t_numbers, t_ones, t_ranks, t_told, t_turnsByYear) hx hb hr hlocks dX2_copyRule_20 (Option.some.inj h) hP hK hD hS
theorem hd_X2_copyRule_al : yX2_copyRule.cls ≠ "java/lang/invoke/MethodHandle" ∧ yX2_copyRule.cls ≠ "java/lang/invoke/VarHandle" ∧ (parseMethodDescriptor yX2_copyRule.desc).map (fun d => d.parameters.length) = some 3 := by decide +kernel
set_option maxRecDepth 20000 in
theorem in_X2_copyRule_al_X2 : ∀ w ∈ u_ws RX2 TX2 6, w ∈ wsX2_copyRule := by decide +kernel
set_option maxRecDepth 20000 in
theorem lk_X2_copyRule_al_0 : Cond.fieldLink RX2 9 "TwoHousesOneChild$Paper" "numbers" "[I" ∈ wsX2_copyRule := by decide +kernel
set_option maxRecDepth 20000 in
theorem lk_X2_copyRule_al_1 : Cond.fieldLink RX2 15 "TwoHousesOneChild$Paper" "ranks" "[I" ∈ wsX2_copyRule := by decide +kernel
set_option maxRecDepth 20000 in
theorem lk_X2_copyRule_al_2 : Cond.fieldLink RX2 18 "TwoHousesOneChild$Paper" "told" "[J" ∈ wsX2_copyRule := by decide +kernel
set_option maxRecDepth 20000 in
theorem lk_X2_copyRule_al_3 : Cond.fieldLink RX2 22 "TwoHousesOneChild$Paper" "ones" "[J" ∈ wsX2_copyRule := by decide +kernel
set_option maxRecDepth 20000 in
theorem lk_X2_copyRule_al_4 : Cond.fieldLink RX2 25 "TwoHousesOneChild$Paper" "turnsByYear" "[Z" ∈ wsX2_copyRule := by decide +kernel
set_option maxHeartbeats 4000000 in
set_option maxRecDepth 100000 in
theorem ct_X2_copyRule_al (l : Launch) (dC : Nat → ClassId) (dI : Nat → Nat → Nat) (cI cJ cB cZ : ClassId) (a_t a_t_numbers a_t_ones a_t_ranks a_t_told a_t_turnsByYear : Nat) (t_size : Int32) (t_numbers : (Nat → Int32)) (t_ones : (Nat → Int64)) (t_ranks : (Nat → Int32)) (t_told : (Nat → Int64)) (t_turnsByYear : (Nat → Int32)) (p2 : Int32) (p3 : Int32) (o1 : (Nat → Int32)) (o2 : (Nat → Int64)) (o3 : (Nat → Int32)) (o4 : (Nat → Int64)) (o5 : (Nat → Int32)) (h : fn_X2_copyRule_al t_numbers t_ones t_ranks t_told t_turnsByYear p2 p3 = some (o1, o2, o3, o4, o5)) : zz_M l yX2_copyRule wsX2_copyRule ({ frames := 0, cells := 0, slots := 0, locals := 0 }) (dC, dI) (zz_T cI cJ cB cZ) [.ref a_t, .ref a_t, .int p2, .int p3] [(a_t, .inr (1, [.int t_size, .ref a_t_numbers, .ref a_t_ranks, .ref a_t_told, .ref a_t_ones, .ref a_t_turnsByYear])), (a_t_numbers, .inl (cI, 10, .inl t_numbers)), (a_t_ones, .inl (cJ, 10, .inr (.inl t_ones))), (a_t_ranks, .inl (cI, 10, .inl t_ranks)), (a_t_told, .inl (cJ, 10, .inr (.inl t_told))), (a_t_turnsByYear, .inl (cZ, 10, .inl t_turnsByYear))] (zz_QV (dC, dI) (zz_T cI cJ cB cZ) (o1, o2, o3, o4, o5) (fun (u : (Nat → Int32) × (Nat → Int64) × (Nat → Int32) × (Nat → Int64) × (Nat → Int32)) => [(a_t, .inr (1, [.int t_size, .ref a_t_numbers, .ref a_t_ranks, .ref a_t_told, .ref a_t_ones, .ref a_t_turnsByYear])), (a_t_numbers, .inl (cI, 10, .inl u.1)), (a_t_ones, .inl (cJ, 10, .inr (.inl u.2.1))), (a_t_ranks, .inl (cI, 10, .inl u.2.2.1)), (a_t_told, .inl (cJ, 10, .inr (.inl u.2.2.2.1))), (a_t_turnsByYear, .inl (cZ, 10, .inl u.2.2.2.2))])) := by
  unfold fn_X2_copyRule_al at h
  refine zz_of (by decide) rfl (Nat.le_of_ble_eq_true rfl) ?_
  intro p e s m below meth c A ls hx hb hr hml hts hown hlocks hA hS hP hK hD hl
  have hown : s.vm.findClass RX2 = some m.cls := hown
  have hl : lv_has ls 4 [(0, .ref a_t), (1, .ref a_t), (2, .int p2), (3, .int p3)] := hl
  refine lv_iload_n hx hb dX2_copyRule_0 rfl (lv_at hl 2 rfl) ?_
  refine lv_if_lt (tgt := 20) hx hb dX2_copyRule_1 (by decide) (fun c1 => ?_) (fun c1 => ?_)
  · have h := zz_if c1 h
    exact zz_vret (t_numbers, t_ones, t_ranks, t_told, t_turnsByYear) hx hb hr hlocks dX2_copyRule_20 (Option.some.inj h) hP hK hD hS
  · have h := zz_ifn c1 h
    refine lv_iload_n hx hb dX2_copyRule_4 rfl (lv_at hl 2 rfl) ?_
    refine lv_bipush (v := 10) hx hb dX2_copyRule_5 (by decide) ?_
    refine lv_icmp_ge (tgt := 20) hx hb dX2_copyRule_7 (by decide) (fun c2 => ?_) (fun c2 => ?_)
    · have h := zz_if c2 h
      exact zz_vret (t_numbers, t_ones, t_ranks, t_told, t_turnsByYear) hx hb hr hlocks dX2_copyRule_20 (Option.some.inj h) hP hK hD hS
    · have h := zz_ifn c2 h
      refine lv_iload_n hx hb dX2_copyRule_10 rfl (lv_at hl 3 rfl) ?_
      refine lv_if_lt (tgt := 20) hx hb dX2_copyRule_11 (by decide) (fun c3 => ?_) (fun c3 => ?_)
      · have h := zz_if c3 h
        exact zz_vret (t_numbers, t_ones, t_ranks, t_told, t_turnsByYear) hx hb hr hlocks dX2_copyRule_20 (Option.some.inj h) hP hK hD hS
      · have h := zz_ifn c3 h
        refine lv_iload_n hx hb dX2_copyRule_14 rfl (lv_at hl 3 rfl) ?_
        refine lv_bipush (v := 10) hx hb dX2_copyRule_15 (by decide) ?_
        refine lv_icmp_lt (tgt := 21) hx hb dX2_copyRule_17 (by decide) (fun c4 => ?_) (fun c4 => ?_)
        · have h := zz_if c4 h
          refine lv_aload_n hx hb dX2_copyRule_21 rfl (lv_at hl 0 rfl) ?_
          refine va_get (ci := 1) (v := .ref a_t_numbers) (C := RX2) (T := TX2) (N := 6) hx hb hts in_X2_copyRule_al_X2 hown hK hP 0 rfl rfl 1 (by decide) (hts _ lk_X2_copyRule_al_0) (fun _ h9 => h9) rfl dX2_copyRule_22 ?_
          refine lv_iload_n hx hb dX2_copyRule_25 rfl (lv_at hl 3 rfl) ?_
          refine lv_aload_n hx hb dX2_copyRule_26 rfl (lv_at hl 1 rfl) ?_
          refine va_get (ci := 1) (v := .ref a_t_numbers) (C := RX2) (T := TX2) (N := 6) hx hb hts in_X2_copyRule_al_X2 hown hK hP 0 rfl rfl 1 (by decide) (hts _ lk_X2_copyRule_al_0) (fun _ h9 => h9) rfl dX2_copyRule_27 ?_
          refine lv_iload_n hx hb dX2_copyRule_30 rfl (lv_at hl 2 rfl) ?_
          obtain ⟨hi5, h⟩ := zz_chkE h
          refine va_iald hx hb hK hP 1 0 rfl rfl hi5 dX2_copyRule_31 ?_
          obtain ⟨hi6, h⟩ := zz_chkE h
          refine zz_iast hx hb hK hP hD hS 1 0 rfl rfl hi6 dX2_copyRule_32 (fun g7 => [(a_t, .inr (1, [.int t_size, .ref a_t_numbers, .ref a_t_ranks, .ref a_t_told, .ref a_t_ones, .ref a_t_turnsByYear])), (a_t_numbers, .inl (cI, 10, .inl g7)), (a_t_ones, .inl (cJ, 10, .inr (.inl t_ones))), (a_t_ranks, .inl (cI, 10, .inl t_ranks)), (a_t_told, .inl (cJ, 10, .inr (.inl t_told))), (a_t_turnsByYear, .inl (cZ, 10, .inl t_turnsByYear))]) (fun _ => rfl) (fun g7 H locs eg7 hP hD hS => ?_)
          have h := zz_nmE eg7 h
          refine lv_aload_n hx hb dX2_copyRule_33 rfl (lv_at hl 0 rfl) ?_
          refine va_get (ci := 1) (v := .ref a_t_ranks) (C := RX2) (T := TX2) (N := 6) hx hb hts in_X2_copyRule_al_X2 hown hK hP 0 rfl rfl 2 (by decide) (hts _ lk_X2_copyRule_al_1) (fun _ h9 => h9) rfl dX2_copyRule_34 ?_
          refine lv_iload_n hx hb dX2_copyRule_37 rfl (lv_at hl 3 rfl) ?_
          refine lv_aload_n hx hb dX2_copyRule_38 rfl (lv_at hl 1 rfl) ?_
          refine va_get (ci := 1) (v := .ref a_t_ranks) (C := RX2) (T := TX2) (N := 6) hx hb hts in_X2_copyRule_al_X2 hown hK hP 0 rfl rfl 2 (by decide) (hts _ lk_X2_copyRule_al_1) (fun _ h9 => h9) rfl dX2_copyRule_39 ?_
          refine lv_iload_n hx hb dX2_copyRule_42 rfl (lv_at hl 2 rfl) ?_
          obtain ⟨hi8, h⟩ := zz_chkE h
          refine va_iald hx hb hK hP 3 0 rfl rfl hi8 dX2_copyRule_43 ?_
          obtain ⟨hi9, h⟩ := zz_chkE h
          refine zz_iast hx hb hK hP hD hS 3 0 rfl rfl hi9 dX2_copyRule_44 (fun g10 => [(a_t, .inr (1, [.int t_size, .ref a_t_numbers, .ref a_t_ranks, .ref a_t_told, .ref a_t_ones, .ref a_t_turnsByYear])), (a_t_numbers, .inl (cI, 10, .inl g7)), (a_t_ones, .inl (cJ, 10, .inr (.inl t_ones))), (a_t_ranks, .inl (cI, 10, .inl g10)), (a_t_told, .inl (cJ, 10, .inr (.inl t_told))), (a_t_turnsByYear, .inl (cZ, 10, .inl t_turnsByYear))]) (fun _ => rfl) (fun g10 H locs eg10 hP hD hS => ?_)
          have h := zz_nmE eg10 h
          refine lv_aload_n hx hb dX2_copyRule_45 rfl (lv_at hl 0 rfl) ?_
          refine va_get (ci := 1) (v := .ref a_t_told) (C := RX2) (T := TX2) (N := 6) hx hb hts in_X2_copyRule_al_X2 hown hK hP 0 rfl rfl 3 (by decide) (hts _ lk_X2_copyRule_al_2) (fun _ h9 => h9) rfl dX2_copyRule_46 ?_
          refine lv_iload_n hx hb dX2_copyRule_49 rfl (lv_at hl 3 rfl) ?_
          refine lv_aload_n hx hb dX2_copyRule_50 rfl (lv_at hl 1 rfl) ?_
          refine va_get (ci := 1) (v := .ref a_t_told) (C := RX2) (T := TX2) (N := 6) hx hb hts in_X2_copyRule_al_X2 hown hK hP 0 rfl rfl 3 (by decide) (hts _ lk_X2_copyRule_al_2) (fun _ h9 => h9) rfl dX2_copyRule_51 ?_
          refine lv_iload_n hx hb dX2_copyRule_54 rfl (lv_at hl 2 rfl) ?_
          obtain ⟨hi11, h⟩ := zz_chkE h
          refine va_lald hx hb hK hP 4 1 rfl rfl hi11 dX2_copyRule_55 ?_
          obtain ⟨hi12, h⟩ := zz_chkE h
          refine zz_last hx hb hK hP hD hS 4 1 rfl rfl hi12 dX2_copyRule_56 (fun g13 => [(a_t, .inr (1, [.int t_size, .ref a_t_numbers, .ref a_t_ranks, .ref a_t_told, .ref a_t_ones, .ref a_t_turnsByYear])), (a_t_numbers, .inl (cI, 10, .inl g7)), (a_t_ones, .inl (cJ, 10, .inr (.inl t_ones))), (a_t_ranks, .inl (cI, 10, .inl g10)), (a_t_told, .inl (cJ, 10, .inr (.inl g13))), (a_t_turnsByYear, .inl (cZ, 10, .inl t_turnsByYear))]) (fun _ => rfl) (fun g13 H locs eg13 hP hD hS => ?_)
          have h := zz_nmE eg13 h
          refine lv_aload_n hx hb dX2_copyRule_57 rfl (lv_at hl 0 rfl) ?_
          refine va_get (ci := 1) (v := .ref a_t_ones) (C := RX2) (T := TX2) (N := 6) hx hb hts in_X2_copyRule_al_X2 hown hK hP 0 rfl rfl 4 (by decide) (hts _ lk_X2_copyRule_al_3) (fun _ h9 => h9) rfl dX2_copyRule_58 ?_
          refine lv_iload_n hx hb dX2_copyRule_61 rfl (lv_at hl 3 rfl) ?_
          refine lv_aload_n hx hb dX2_copyRule_62 rfl (lv_at hl 1 rfl) ?_
          refine va_get (ci := 1) (v := .ref a_t_ones) (C := RX2) (T := TX2) (N := 6) hx hb hts in_X2_copyRule_al_X2 hown hK hP 0 rfl rfl 4 (by decide) (hts _ lk_X2_copyRule_al_3) (fun _ h9 => h9) rfl dX2_copyRule_63 ?_
          refine lv_iload_n hx hb dX2_copyRule_66 rfl (lv_at hl 2 rfl) ?_
          obtain ⟨hi14, h⟩ := zz_chkE h
          refine va_lald hx hb hK hP 2 1 rfl rfl hi14 dX2_copyRule_67 ?_
          obtain ⟨hi15, h⟩ := zz_chkE h
          refine zz_last hx hb hK hP hD hS 2 1 rfl rfl hi15 dX2_copyRule_68 (fun g16 => [(a_t, .inr (1, [.int t_size, .ref a_t_numbers, .ref a_t_ranks, .ref a_t_told, .ref a_t_ones, .ref a_t_turnsByYear])), (a_t_numbers, .inl (cI, 10, .inl g7)), (a_t_ones, .inl (cJ, 10, .inr (.inl g16))), (a_t_ranks, .inl (cI, 10, .inl g10)), (a_t_told, .inl (cJ, 10, .inr (.inl g13))), (a_t_turnsByYear, .inl (cZ, 10, .inl t_turnsByYear))]) (fun _ => rfl) (fun g16 H locs eg16 hP hD hS => ?_)
          have h := zz_nmE eg16 h
          refine lv_aload_n hx hb dX2_copyRule_69 rfl (lv_at hl 0 rfl) ?_
          refine va_get (ci := 1) (v := .ref a_t_turnsByYear) (C := RX2) (T := TX2) (N := 6) hx hb hts in_X2_copyRule_al_X2 hown hK hP 0 rfl rfl 5 (by decide) (hts _ lk_X2_copyRule_al_4) (fun _ h9 => h9) rfl dX2_copyRule_70 ?_
          refine lv_iload_n hx hb dX2_copyRule_73 rfl (lv_at hl 3 rfl) ?_
          refine lv_aload_n hx hb dX2_copyRule_74 rfl (lv_at hl 1 rfl) ?_
          refine va_get (ci := 1) (v := .ref a_t_turnsByYear) (C := RX2) (T := TX2) (N := 6) hx hb hts in_X2_copyRule_al_X2 hown hK hP 0 rfl rfl 5 (by decide) (hts _ lk_X2_copyRule_al_4) (fun _ h9 => h9) rfl dX2_copyRule_75 ?_
          refine lv_iload_n hx hb dX2_copyRule_78 rfl (lv_at hl 2 rfl) ?_
          obtain ⟨hi17, h⟩ := zz_chkE h
          refine va_zald hx hb hK hP 5 3 rfl rfl hi17 dX2_copyRule_79 ?_
          obtain ⟨hi18, h⟩ := zz_chkE h
          refine zz_zast hx hb hK hP hD hS 5 3 rfl rfl hi18 dX2_copyRule_80 (fun g19 => [(a_t, .inr (1, [.int t_size, .ref a_t_numbers, .ref a_t_ranks, .ref a_t_told, .ref a_t_ones, .ref a_t_turnsByYear])), (a_t_numbers, .inl (cI, 10, .inl g7)), (a_t_ones, .inl (cJ, 10, .inr (.inl g16))), (a_t_ranks, .inl (cI, 10, .inl g10)), (a_t_told, .inl (cJ, 10, .inr (.inl g13))), (a_t_turnsByYear, .inl (cZ, 10, .inl g19))]) (fun _ => rfl) (fun g19 H locs eg19 hP hD hS => ?_)
          have h := zz_nmE eg19 h
          exact zz_vret (g7, g16, g10, g13, g19) hx hb hr hlocks dX2_copyRule_81 (Option.some.inj h) hP hK hD hS
        · have h := zz_ifn c4 h
          exact zz_vret (t_numbers, t_ones, t_ranks, t_told, t_turnsByYear) hx hb hr hlocks dX2_copyRule_20 (Option.some.inj h) hP hK hD hS
