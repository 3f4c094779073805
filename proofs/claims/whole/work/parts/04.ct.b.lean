theorem hd_X2_addRule : yX2_addRule.cls ≠ "java/lang/invoke/MethodHandle" ∧ yX2_addRule.cls ≠ "java/lang/invoke/VarHandle" ∧ (parseMethodDescriptor yX2_addRule.desc).map (fun d => d.parameters.length) = some 4 := by decide +kernel
set_option maxRecDepth 20000 in
theorem in_X2_addRule_X2 : ∀ w ∈ u_ws RX2 TX2 6, w ∈ wsX2_addRule := by decide +kernel
set_option maxRecDepth 20000 in
theorem lk_X2_addRule_0 : Cond.fieldLink RX2 29 "TwoHousesOneChild$Paper" "size" "I" ∈ wsX2_addRule := by decide +kernel
set_option maxRecDepth 20000 in
theorem lk_X2_addRule_1 : Cond.fieldLink RX2 15 "TwoHousesOneChild$Paper" "ranks" "[I" ∈ wsX2_addRule := by decide +kernel
set_option maxRecDepth 20000 in
theorem lk_X2_addRule_2 : Cond.fieldLink RX2 9 "TwoHousesOneChild$Paper" "numbers" "[I" ∈ wsX2_addRule := by decide +kernel
set_option maxRecDepth 20000 in
theorem lk_X2_addRule_3 : Cond.fieldLink RX2 18 "TwoHousesOneChild$Paper" "told" "[J" ∈ wsX2_addRule := by decide +kernel
set_option maxRecDepth 20000 in
theorem lk_X2_addRule_4 : Cond.fieldLink RX2 22 "TwoHousesOneChild$Paper" "ones" "[J" ∈ wsX2_addRule := by decide +kernel
set_option maxRecDepth 20000 in
theorem lk_X2_addRule_5 : Cond.fieldLink RX2 25 "TwoHousesOneChild$Paper" "turnsByYear" "[Z" ∈ wsX2_addRule := by decide +kernel
set_option maxHeartbeats 4000000 in
set_option maxRecDepth 100000 in
theorem ct_X2_addRule (l : Launch) (dC : Nat → ClassId) (dI : Nat → Nat → Nat) (cI cJ cB cZ : ClassId) (a_t a_t_numbers a_t_ones a_t_ranks a_t_told a_t_turnsByYear : Nat) (t_size : Int32) (t_numbers : (Nat → Int32)) (t_ones : (Nat → Int64)) (t_ranks : (Nat → Int32)) (t_told : (Nat → Int64)) (t_turnsByYear : (Nat → Int32)) (p1 : Int32) (p2 : Int64) (p4 : Int64) (p6 : Int32) (o1 : Int32) (o2 : (Nat → Int32)) (o3 : (Nat → Int64)) (o4 : (Nat → Int32)) (o5 : (Nat → Int64)) (o6 : (Nat → Int32)) (h : fn_X2_addRule t_size t_numbers t_ones t_ranks t_told t_turnsByYear p1 p2 p4 p6 = some (o1, o2, o3, o4, o5, o6)) : zz_M l yX2_addRule wsX2_addRule ({ frames := 1, cells := 0, slots := 0, locals := 23 }) (dC, dI) (zz_T cI cJ cB cZ) [.ref a_t, .int p1, .long p2, .long p4, .int p6] [(a_t, .inr (1, [.int t_size, .ref a_t_numbers, .ref a_t_ranks, .ref a_t_told, .ref a_t_ones, .ref a_t_turnsByYear])), (a_t_numbers, .inl (cI, 10, .inl t_numbers)), (a_t_ones, .inl (cJ, 10, .inr (.inl t_ones))), (a_t_ranks, .inl (cI, 10, .inl t_ranks)), (a_t_told, .inl (cJ, 10, .inr (.inl t_told))), (a_t_turnsByYear, .inl (cZ, 10, .inl t_turnsByYear))] (zz_QV (dC, dI) (zz_T cI cJ cB cZ) (o1, o2, o3, o4, o5, o6) (fun (u : Int32 × (Nat → Int32) × (Nat → Int64) × (Nat → Int32) × (Nat → Int64) × (Nat → Int32)) => [(a_t, .inr (1, [.int u.1, .ref a_t_numbers, .ref a_t_ranks, .ref a_t_told, .ref a_t_ones, .ref a_t_turnsByYear])), (a_t_numbers, .inl (cI, 10, .inl u.2.1)), (a_t_ones, .inl (cJ, 10, .inr (.inl u.2.2.1))), (a_t_ranks, .inl (cI, 10, .inl u.2.2.2.1)), (a_t_told, .inl (cJ, 10, .inr (.inl u.2.2.2.2.1))), (a_t_turnsByYear, .inl (cZ, 10, .inl u.2.2.2.2.2))])) := by
  unfold fn_X2_addRule at h
  refine zz_of (by decide) rfl (Nat.le_of_ble_eq_true rfl) ?_
  intro p e s m below meth c A ls hx hb hr hml hts hown hlocks hA hS hP hK hD hl
  have hown : s.vm.findClass RX2 = some m.cls := hown
  have hl : lv_has ls 8 [(0, .ref a_t), (1, .int p1), (2, .long p2), (4, .long p4), (6, .int p6)] := hl
  refine lv_aload_n hx hb dX2_addRule_0 rfl (lv_at hl 0 rfl) ?_
  refine va_get (ci := 1) (v := .int t_size) (C := RX2) (T := TX2) (N := 6) hx hb hts in_X2_addRule_X2 hown hK hP 0 rfl rfl 0 (by decide) (hts _ lk_X2_addRule_0) (fun _ h9 => h9) rfl dX2_addRule_1 ?_
  refine lv_if_lt (tgt := 16) hx hb dX2_addRule_4 (by decide) (fun c1 => ?_) (fun c1 => ?_)
  · have h := zz_if c1 h
    exact zz_vret (t_size, t_numbers, t_ones, t_ranks, t_told, t_turnsByYear) hx hb hr hlocks dX2_addRule_16 (Option.some.inj h) hP hK hD hS
  · have h := zz_ifn c1 h
    refine lv_aload_n hx hb dX2_addRule_7 rfl (lv_at hl 0 rfl) ?_
    refine va_get (ci := 1) (v := .int t_size) (C := RX2) (T := TX2) (N := 6) hx hb hts in_X2_addRule_X2 hown hK hP 0 rfl rfl 0 (by decide) (hts _ lk_X2_addRule_0) (fun _ h9 => h9) rfl dX2_addRule_8 ?_
    refine lv_bipush (v := 10) hx hb dX2_addRule_11 (by decide) ?_
    refine lv_icmp_lt (tgt := 17) hx hb dX2_addRule_13 (by decide) (fun c2 => ?_) (fun c2 => ?_)
    · have h := zz_if c2 h
      refine lv_aload_n hx hb dX2_addRule_17 rfl (lv_at hl 0 rfl) ?_
      refine va_get (ci := 1) (v := .int t_size) (C := RX2) (T := TX2) (N := 6) hx hb hts in_X2_addRule_X2 hown hK hP 0 rfl rfl 0 (by decide) (hts _ lk_X2_addRule_0) (fun _ h9 => h9) rfl dX2_addRule_18 ?_
      refine lv_istore (lv' := [(7, .int t_size), (0, .ref a_t), (1, .int p1), (2, .long p2), (4, .long p4), (6, .int p6)]) hx hb dX2_addRule_21 hl (by decide) rfl (fun ls hl => ?_)
      obtain ⟨x29, g30, g31, g32, g33, g34, hit28, h⟩ := zz_b6E h
      refine zz_cut (fun V => ∀ (H : Heap) (locs : List Loc) (ls : Array Slot), va_P (dC, dI) vwCl [(a_t, .inr (1, [.int t_size, .ref a_t_numbers, .ref a_t_ranks, .ref a_t_told, .ref a_t_ones, .ref a_t_turnsByYear])), (a_t_numbers, .inl (cI, 10, .inl g30)), (a_t_ones, .inl (cJ, 10, .inr (.inl g31))), (a_t_ranks, .inl (cI, 10, .inl g32)), (a_t_told, .inl (cJ, 10, .inr (.inl g33))), (a_t_turnsByYear, .inl (cZ, 10, .inl g34))] H → va_D A [(a_t, .inr (1, [.int t_size, .ref a_t_numbers, .ref a_t_ranks, .ref a_t_told, .ref a_t_ones, .ref a_t_turnsByYear])), (a_t_numbers, .inl (cI, 10, .inl g30)), (a_t_ones, .inl (cJ, 10, .inr (.inl g31))), (a_t_ranks, .inl (cI, 10, .inl g32)), (a_t_told, .inl (cJ, 10, .inr (.inl g33))), (a_t_turnsByYear, .inl (cZ, 10, .inl g34))] → va_S A s.heap H locs → lv_has ls 8 [(0, .ref a_t), (1, .int p1), (2, .long p2), (4, .long p4), (6, .int p6), (7, .int x29)] → V H locs (F0 m 58 ls [])) ?_ (fun hE28 => ?_)
      · intro H locs ls hP hD hS hl
        refine lv_aload_n hx hb dX2_addRule_58 rfl (lv_at hl 0 rfl) ?_
        refine va_get (ci := 1) (v := .ref a_t_numbers) (C := RX2) (T := TX2) (N := 6) hx hb hts in_X2_addRule_X2 hown hK hP 0 rfl rfl 1 (by decide) (hts _ lk_X2_addRule_2) (fun _ h9 => h9) rfl dX2_addRule_59 ?_
        refine lv_iload hx hb dX2_addRule_62 (lv_at hl 5 rfl) ?_
        refine lv_aload_n hx hb dX2_addRule_64 rfl (lv_at hl 0 rfl) ?_
        refine va_get (ci := 1) (v := .int t_size) (C := RX2) (T := TX2) (N := 6) hx hb hts in_X2_addRule_X2 hown hK hP 0 rfl rfl 0 (by decide) (hts _ lk_X2_addRule_0) (fun _ h9 => h9) rfl dX2_addRule_65 ?_
        obtain ⟨hi35, h⟩ := zz_chkE h
        refine zz_iast hx hb hK hP hD hS 1 0 rfl rfl hi35 dX2_addRule_68 (fun g36 => [(a_t, .inr (1, [.int t_size, .ref a_t_numbers, .ref a_t_ranks, .ref a_t_told, .ref a_t_ones, .ref a_t_turnsByYear])), (a_t_numbers, .inl (cI, 10, .inl g36)), (a_t_ones, .inl (cJ, 10, .inr (.inl g31))), (a_t_ranks, .inl (cI, 10, .inl g32)), (a_t_told, .inl (cJ, 10, .inr (.inl g33))), (a_t_turnsByYear, .inl (cZ, 10, .inl g34))]) (fun _ => rfl) (fun g36 H locs eg36 hP hD hS => ?_)
        have h := zz_nmE eg36 h
        refine lv_aload_n hx hb dX2_addRule_69 rfl (lv_at hl 0 rfl) ?_
        refine va_get (ci := 1) (v := .ref a_t_ranks) (C := RX2) (T := TX2) (N := 6) hx hb hts in_X2_addRule_X2 hown hK hP 0 rfl rfl 2 (by decide) (hts _ lk_X2_addRule_1) (fun _ h9 => h9) rfl dX2_addRule_70 ?_
        refine lv_iload hx hb dX2_addRule_73 (lv_at hl 5 rfl) ?_
        refine lv_iload_n hx hb dX2_addRule_75 rfl (lv_at hl 1 rfl) ?_
        obtain ⟨hi37, h⟩ := zz_chkE h
        refine zz_iast hx hb hK hP hD hS 3 0 rfl rfl hi37 dX2_addRule_76 (fun g38 => [(a_t, .inr (1, [.int t_size, .ref a_t_numbers, .ref a_t_ranks, .ref a_t_told, .ref a_t_ones, .ref a_t_turnsByYear])), (a_t_numbers, .inl (cI, 10, .inl g36)), (a_t_ones, .inl (cJ, 10, .inr (.inl g31))), (a_t_ranks, .inl (cI, 10, .inl g38)), (a_t_told, .inl (cJ, 10, .inr (.inl g33))), (a_t_turnsByYear, .inl (cZ, 10, .inl g34))]) (fun _ => rfl) (fun g38 H locs eg38 hP hD hS => ?_)
        have h := zz_nmE eg38 h
        refine lv_aload_n hx hb dX2_addRule_77 rfl (lv_at hl 0 rfl) ?_
        refine va_get (ci := 1) (v := .ref a_t_told) (C := RX2) (T := TX2) (N := 6) hx hb hts in_X2_addRule_X2 hown hK hP 0 rfl rfl 3 (by decide) (hts _ lk_X2_addRule_3) (fun _ h9 => h9) rfl dX2_addRule_78 ?_
        refine lv_iload hx hb dX2_addRule_81 (lv_at hl 5 rfl) ?_
        refine lv_lload_n hx hb dX2_addRule_83 rfl (lv_at hl 2 rfl) ?_
        obtain ⟨hi39, h⟩ := zz_chkE h
        refine zz_last hx hb hK hP hD hS 4 1 rfl rfl hi39 dX2_addRule_84 (fun g40 => [(a_t, .inr (1, [.int t_size, .ref a_t_numbers, .ref a_t_ranks, .ref a_t_told, .ref a_t_ones, .ref a_t_turnsByYear])), (a_t_numbers, .inl (cI, 10, .inl g36)), (a_t_ones, .inl (cJ, 10, .inr (.inl g31))), (a_t_ranks, .inl (cI, 10, .inl g38)), (a_t_told, .inl (cJ, 10, .inr (.inl g40))), (a_t_turnsByYear, .inl (cZ, 10, .inl g34))]) (fun _ => rfl) (fun g40 H locs eg40 hP hD hS => ?_)
        have h := zz_nmE eg40 h
        refine lv_aload_n hx hb dX2_addRule_85 rfl (lv_at hl 0 rfl) ?_
        refine va_get (ci := 1) (v := .ref a_t_ones) (C := RX2) (T := TX2) (N := 6) hx hb hts in_X2_addRule_X2 hown hK hP 0 rfl rfl 4 (by decide) (hts _ lk_X2_addRule_4) (fun _ h9 => h9) rfl dX2_addRule_86 ?_
        refine lv_iload hx hb dX2_addRule_89 (lv_at hl 5 rfl) ?_
        refine lv_lload hx hb dX2_addRule_91 (lv_at hl 3 rfl) ?_
        obtain ⟨hi41, h⟩ := zz_chkE h
        refine zz_last hx hb hK hP hD hS 2 1 rfl rfl hi41 dX2_addRule_93 (fun g42 => [(a_t, .inr (1, [.int t_size, .ref a_t_numbers, .ref a_t_ranks, .ref a_t_told, .ref a_t_ones, .ref a_t_turnsByYear])), (a_t_numbers, .inl (cI, 10, .inl g36)), (a_t_ones, .inl (cJ, 10, .inr (.inl g42))), (a_t_ranks, .inl (cI, 10, .inl g38)), (a_t_told, .inl (cJ, 10, .inr (.inl g40))), (a_t_turnsByYear, .inl (cZ, 10, .inl g34))]) (fun _ => rfl) (fun g42 H locs eg42 hP hD hS => ?_)
        have h := zz_nmE eg42 h
        refine lv_aload_n hx hb dX2_addRule_94 rfl (lv_at hl 0 rfl) ?_
        refine va_get (ci := 1) (v := .ref a_t_turnsByYear) (C := RX2) (T := TX2) (N := 6) hx hb hts in_X2_addRule_X2 hown hK hP 0 rfl rfl 5 (by decide) (hts _ lk_X2_addRule_5) (fun _ h9 => h9) rfl dX2_addRule_95 ?_
        refine lv_iload hx hb dX2_addRule_98 (lv_at hl 5 rfl) ?_
        refine lv_iload hx hb dX2_addRule_100 (lv_at hl 4 rfl) ?_
        obtain ⟨hi43, h⟩ := zz_chkE h
        refine zz_zast hx hb hK hP hD hS 5 3 rfl rfl hi43 dX2_addRule_102 (fun g44 => [(a_t, .inr (1, [.int t_size, .ref a_t_numbers, .ref a_t_ranks, .ref a_t_told, .ref a_t_ones, .ref a_t_turnsByYear])), (a_t_numbers, .inl (cI, 10, .inl g36)), (a_t_ones, .inl (cJ, 10, .inr (.inl g42))), (a_t_ranks, .inl (cI, 10, .inl g38)), (a_t_told, .inl (cJ, 10, .inr (.inl g40))), (a_t_turnsByYear, .inl (cZ, 10, .inl g44))]) (fun _ => rfl) (fun g44 H locs eg44 hP hD hS => ?_)
        have h := zz_nmE eg44 h
        refine lv_aload_n hx hb dX2_addRule_103 rfl (lv_at hl 0 rfl) ?_
        refine lv_dup hx hb dX2_addRule_104 rfl ?_
        refine va_get (ci := 1) (v := .int t_size) (C := RX2) (T := TX2) (N := 6) hx hb hts in_X2_addRule_X2 hown hK hP 0 rfl rfl 0 (by decide) (hts _ lk_X2_addRule_0) (fun _ h9 => h9) rfl dX2_addRule_105 ?_
        refine lv_iconst (v := 1) hx hb dX2_addRule_108 (by decide) ?_
        refine lv_iadd hx hb dX2_addRule_109 ?_
        refine lv_topi (fun x45 ex45 => ?_)
        have h := zz_nmE ex45 h
        refine va_put (ci := 1) (v := .int x45) (ty := .int) (C := RX2) (T := TX2) (N := 6) hx hb hts in_X2_addRule_X2 tyX2 tyX2_ok nmX2 hown hK hP hD hS 0 rfl rfl 0 (by decide) (hts _ lk_X2_addRule_0) (fun _ h9 => h9) rfl (by decide +kernel) rfl rfl (Nat.le_of_ble_eq_true rfl) dX2_addRule_110 (fun H locs hP hD hS => ?_)
        have hP : va_P (dC, dI) vwCl [(a_t, .inr (1, [.int x45, .ref a_t_numbers, .ref a_t_ranks, .ref a_t_told, .ref a_t_ones, .ref a_t_turnsByYear])), (a_t_numbers, .inl (cI, 10, .inl g36)), (a_t_ones, .inl (cJ, 10, .inr (.inl g42))), (a_t_ranks, .inl (cI, 10, .inl g38)), (a_t_told, .inl (cJ, 10, .inr (.inl g40))), (a_t_turnsByYear, .inl (cZ, 10, .inl g44))] H := hP
        have hD : va_D A [(a_t, .inr (1, [.int x45, .ref a_t_numbers, .ref a_t_ranks, .ref a_t_told, .ref a_t_ones, .ref a_t_turnsByYear])), (a_t_numbers, .inl (cI, 10, .inl g36)), (a_t_ones, .inl (cJ, 10, .inr (.inl g42))), (a_t_ranks, .inl (cI, 10, .inl g38)), (a_t_told, .inl (cJ, 10, .inr (.inl g40))), (a_t_turnsByYear, .inl (cZ, 10, .inl g44))] := hD
        exact zz_vret (x45, g36, g42, g38, g40, g44) hx hb hr hlocks dX2_addRule_113 (Option.some.inj h) hP hK hD hS
      refine zz_cut (fun V => ∀ (n : Nat) (x23 : Int32) (g24 : (Nat → Int32)) (g25 : (Nat → Int64)) (g26 : (Nat → Int32)) (g27 : (Nat → Int64)) (g28 : (Nat → Int32)) (H : Heap) (locs : List Loc) (ls : Array Slot), zz_it (fun z => fb_X2_addRule_23 p1 z.1 z.2.1 z.2.2.1 z.2.2.2.1 z.2.2.2.2.1 z.2.2.2.2.2) n (x23, g24, g25, g26, g27, g28) = some (x29, g30, g31, g32, g33, g34) → va_P (dC, dI) vwCl [(a_t, .inr (1, [.int t_size, .ref a_t_numbers, .ref a_t_ranks, .ref a_t_told, .ref a_t_ones, .ref a_t_turnsByYear])), (a_t_numbers, .inl (cI, 10, .inl g24)), (a_t_ones, .inl (cJ, 10, .inr (.inl g25))), (a_t_ranks, .inl (cI, 10, .inl g26)), (a_t_told, .inl (cJ, 10, .inr (.inl g27))), (a_t_turnsByYear, .inl (cZ, 10, .inl g28))] H → va_D A [(a_t, .inr (1, [.int t_size, .ref a_t_numbers, .ref a_t_ranks, .ref a_t_told, .ref a_t_ones, .ref a_t_turnsByYear])), (a_t_numbers, .inl (cI, 10, .inl g24)), (a_t_ones, .inl (cJ, 10, .inr (.inl g25))), (a_t_ranks, .inl (cI, 10, .inl g26)), (a_t_told, .inl (cJ, 10, .inr (.inl g27))), (a_t_turnsByYear, .inl (cZ, 10, .inl g28))] → va_S A s.heap H locs → lv_has ls 8 [(0, .ref a_t), (1, .int p1), (2, .long p2), (4, .long p4), (6, .int p6), (7, .int x23)] → V H locs (F0 m 23 ls [])) ?_ (fun hL28 => ?_)
      · intro n
        induction n with
        | zero => intro x23 g24 g25 g26 g27 g28 H locs ls hit28; exact (zz_it0 hit28).elim
        | succ n ih28 =>
          intro x23 g24 g25 g26 g27 g28 H locs ls hit28 hP hD hS hl
          obtain ⟨y28, hb28, hy28⟩ := zz_itE hit28
          have hb28 : fb_X2_addRule_23 p1 x23 g24 g25 g26 g27 g28 = some y28 := hb28
          unfold fb_X2_addRule_23 at hb28
          refine lv_iload hx hb dX2_addRule_23 (lv_at hl 5 rfl) ?_
          refine lv_if_le (tgt := 58) hx hb dX2_addRule_25 (by decide) (fun c46 => ?_) (fun c46 => ?_)
          · have hb28 := zz_if c46 hb28
            obtain rfl := Option.some.inj hb28
            have hy28 := Option.some.inj hy28
            cases hy28
            exact hE28 _ _ ls hP hD hS (lv_sub hl [0, 1, 2, 3, 4, 5] rfl)
          · have hb28 := zz_ifn c46 hb28
            refine lv_aload_n hx hb dX2_addRule_28 rfl (lv_at hl 0 rfl) ?_
            refine va_get (ci := 1) (v := .ref a_t_ranks) (C := RX2) (T := TX2) (N := 6) hx hb hts in_X2_addRule_X2 hown hK hP 0 rfl rfl 2 (by decide) (hts _ lk_X2_addRule_1) (fun _ h9 => h9) rfl dX2_addRule_29 ?_
            refine lv_iload hx hb dX2_addRule_32 (lv_at hl 5 rfl) ?_
            refine lv_iconst (v := 1) hx hb dX2_addRule_34 (by decide) ?_
            refine lv_isub hx hb dX2_addRule_35 ?_
            obtain ⟨hi47, hb28⟩ := zz_chkE hb28
            refine va_iald hx hb hK hP 3 0 rfl rfl hi47 dX2_addRule_36 ?_
            refine lv_iload_n hx hb dX2_addRule_37 rfl (lv_at hl 1 rfl) ?_
            refine lv_icmp_le (tgt := 58) hx hb dX2_addRule_38 (by decide) (fun c48 => ?_) (fun c48 => ?_)
            · have hb28 := zz_if c48 hb28
              obtain rfl := Option.some.inj hb28
              have hy28 := Option.some.inj hy28
              cases hy28
              exact hE28 _ _ ls hP hD hS (lv_sub hl [0, 1, 2, 3, 4, 5] rfl)
            · have hb28 := zz_ifn c48 hb28
              refine lv_aload_n hx hb dX2_addRule_41 rfl (lv_at hl 0 rfl) ?_
              refine lv_aload_n hx hb dX2_addRule_42 rfl (lv_at hl 0 rfl) ?_
              refine lv_iload hx hb dX2_addRule_43 (lv_at hl 5 rfl) ?_
              refine lv_iconst (v := 1) hx hb dX2_addRule_45 (by decide) ?_
              refine lv_isub hx hb dX2_addRule_46 ?_
              refine lv_iload hx hb dX2_addRule_47 (lv_at hl 5 rfl) ?_
              obtain ⟨g49, g50, g51, g52, g53, he54, hb28⟩ := zz_b5E hb28
              refine zz_VV (q := (RX2, TX2, 6)) (As := [.ref a_t, .int (x23 - 1), .int x23]) (rest := []) (wr := []) (wm := [(a_t, .inr (1, [.int t_size, .ref a_t_numbers, .ref a_t_ranks, .ref a_t_told, .ref a_t_ones, .ref a_t_turnsByYear])), (a_t_numbers, .inl (cI, 10, .inl g49)), (a_t_ones, .inl (cJ, 10, .inr (.inl g50))), (a_t_ranks, .inl (cI, 10, .inl g51)), (a_t_told, .inl (cJ, 10, .inr (.inl g52))), (a_t_turnsByYear, .inl (cZ, 10, .inl g53))]) ⟨hx, hb, hml, hown, hts⟩ (ct_X2_copyRule_al l dC dI cI cJ cB cZ a_t a_t_numbers a_t_ones a_t_ranks a_t_told a_t_turnsByYear t_size g24 g25 g26 g27 g28 (x23 - 1) x23 g49 g50 g51 g52 g53 he54) gX2_addRule_X2_copyRule hd_X2_copyRule_al rfl rfl rfl ⟨Nat.le_of_ble_eq_true rfl, Nat.le_of_ble_eq_true rfl⟩ ⟨Nat.le_of_ble_eq_true rfl, Nat.le_of_ble_eq_true rfl⟩ rfl rfl (Nat.le_of_ble_eq_true rfl) dX2_addRule_49 hl.1 rfl (ci := 1) rfl (q0 := 0) rfl hP hK hD hS hA [0, 1, 2, 3, 4, 5] [] [0, 1, 2, 3, 4, 5] rfl rfl (by decide) (by decide) (by decide) (by decide) rfl (fun H locs hP hD hS => ?_)
              obtain ⟨x55, ex55⟩ : ∃ z : Int32, z = x23 + (-1) := ⟨_, rfl⟩
              have hb28 := zz_nmE ex55 hb28
              refine lv_iinc (v := x55) (lv' := [(7, .int x55), (0, .ref a_t), (1, .int p1), (2, .long p2), (4, .long p4), (6, .int p6)]) hx hb dX2_addRule_52 hl (k := 5) rfl (by rw [ex55]; rfl) (by decide) rfl (fun ls hl => ?_)
              refine lv_goto (tgt := 23) hx hb dX2_addRule_55 (by decide) ?_
              obtain rfl := Option.some.inj hb28
              exact ih28 x55 g49 g50 g51 g52 g53 _ _ ls hy28 hP hD hS (lv_sub hl [1, 2, 3, 4, 5, 0] rfl)
      exact hL28 zz_fuel t_size t_numbers t_ones t_ranks t_told t_turnsByYear _ _ ls hit28 hP hD hS (lv_sub hl [1, 2, 3, 4, 5, 0] rfl)
    · have h := zz_ifn c2 h
      exact zz_vret (t_size, t_numbers, t_ones, t_ranks, t_told, t_turnsByYear) hx hb hr hlocks dX2_addRule_16 (Option.some.inj h) hP hK hD hS
theorem hd_X2_copyOf : yX2_copyOf.cls ≠ "java/lang/invoke/MethodHandle" ∧ yX2_copyOf.cls ≠ "java/lang/invoke/VarHandle" ∧ (parseMethodDescriptor yX2_copyOf.desc).map (fun d => d.parameters.length) = some 1 := by decide +kernel
set_option maxRecDepth 20000 in
theorem in_X2_copyOf_X2 : ∀ w ∈ u_ws RX2 TX2 6, w ∈ wsX2_copyOf := by decide +kernel
set_option maxRecDepth 20000 in
theorem lk_X2_copyOf_0 : Cond.fieldLink RX2 29 "TwoHousesOneChild$Paper" "size" "I" ∈ wsX2_copyOf := by decide +kernel
set_option maxHeartbeats 4000000 in
set_option maxRecDepth 100000 in
theorem ct_X2_copyOf (l : Launch) (dC : Nat → ClassId) (dI : Nat → Nat → Nat) (cI cJ cB cZ : ClassId) (a_r1 a_r1_numbers a_r1_ones a_r1_ranks a_r1_told a_r1_turnsByYear a_t a_t_numbers a_t_ones a_t_ranks a_t_told a_t_turnsByYear : Nat) (r1_size : Int32) (r1_numbers : (Nat → Int32)) (r1_ones : (Nat → Int64)) (r1_ranks : (Nat → Int32)) (r1_told : (Nat → Int64)) (r1_turnsByYear : (Nat → Int32)) (t_size : Int32) (t_numbers : (Nat → Int32)) (t_ones : (Nat → Int64)) (t_ranks : (Nat → Int32)) (t_told : (Nat → Int64)) (t_turnsByYear : (Nat → Int32)) (o1 : Int32) (o2 : (Nat → Int32)) (o3 : (Nat → Int64)) (o4 : (Nat → Int32)) (o5 : (Nat → Int64)) (o6 : (Nat → Int32)) (h : fn_X2_copyOf r1_size r1_numbers r1_ones r1_ranks r1_told r1_turnsByYear t_numbers t_ones t_ranks t_told t_turnsByYear = some (o1, o2, o3, o4, o5, o6)) : zz_M l yX2_copyOf wsX2_copyOf ({ frames := 1, cells := 0, slots := 0, locals := 23 }) (dC, dI) (zz_T cI cJ cB cZ) [.ref a_t, .ref a_r1] [(a_r1, .inr (1, [.int r1_size, .ref a_r1_numbers, .ref a_r1_ranks, .ref a_r1_told, .ref a_r1_ones, .ref a_r1_turnsByYear])), (a_r1_numbers, .inl (cI, 10, .inl r1_numbers)), (a_r1_ones, .inl (cJ, 10, .inr (.inl r1_ones))), (a_r1_ranks, .inl (cI, 10, .inl r1_ranks)), (a_r1_told, .inl (cJ, 10, .inr (.inl r1_told))), (a_r1_turnsByYear, .inl (cZ, 10, .inl r1_turnsByYear)), (a_t, .inr (1, [.int t_size, .ref a_t_numbers, .ref a_t_ranks, .ref a_t_told, .ref a_t_ones, .ref a_t_turnsByYear])), (a_t_numbers, .inl (cI, 10, .inl t_numbers)), (a_t_ones, .inl (cJ, 10, .inr (.inl t_ones))), (a_t_ranks, .inl (cI, 10, .inl t_ranks)), (a_t_told, .inl (cJ, 10, .inr (.inl t_told))), (a_t_turnsByYear, .inl (cZ, 10, .inl t_turnsByYear))] (zz_QV (dC, dI) (zz_T cI cJ cB cZ) (o1, o2, o3, o4, o5, o6) (fun (u : Int32 × (Nat → Int32) × (Nat → Int64) × (Nat → Int32) × (Nat → Int64) × (Nat → Int32)) => [(a_r1, .inr (1, [.int r1_size, .ref a_r1_numbers, .ref a_r1_ranks, .ref a_r1_told, .ref a_r1_ones, .ref a_r1_turnsByYear])), (a_r1_numbers, .inl (cI, 10, .inl r1_numbers)), (a_r1_ones, .inl (cJ, 10, .inr (.inl r1_ones))), (a_r1_ranks, .inl (cI, 10, .inl r1_ranks)), (a_r1_told, .inl (cJ, 10, .inr (.inl r1_told))), (a_r1_turnsByYear, .inl (cZ, 10, .inl r1_turnsByYear)), (a_t, .inr (1, [.int u.1, .ref a_t_numbers, .ref a_t_ranks, .ref a_t_told, .ref a_t_ones, .ref a_t_turnsByYear])), (a_t_numbers, .inl (cI, 10, .inl u.2.1)), (a_t_ones, .inl (cJ, 10, .inr (.inl u.2.2.1))), (a_t_ranks, .inl (cI, 10, .inl u.2.2.2.1)), (a_t_told, .inl (cJ, 10, .inr (.inl u.2.2.2.2.1))), (a_t_turnsByYear, .inl (cZ, 10, .inl u.2.2.2.2.2))])) := by
  unfold fn_X2_copyOf at h
  refine zz_of (by decide) rfl (Nat.le_of_ble_eq_true rfl) ?_
  intro p e s m below meth c A ls hx hb hr hml hts hown hlocks hA hS hP hK hD hl
  have hown : s.vm.findClass RX2 = some m.cls := hown
  have hl : lv_has ls 3 [(0, .ref a_t), (1, .ref a_r1)] := hl
  refine lv_iconst (v := 0) hx hb dX2_copyOf_0 (by decide) ?_
  refine lv_istore_n (lv' := [(2, .int 0), (0, .ref a_t), (1, .ref a_r1)]) hx hb dX2_copyOf_1 rfl hl (by decide) rfl (fun ls hl => ?_)
  obtain ⟨g23, g24, g25, g26, g27, hit22, h⟩ := zz_b5E h
  refine zz_cut (fun V => ∀ (H : Heap) (locs : List Loc) (ls : Array Slot), va_P (dC, dI) vwCl [(a_r1, .inr (1, [.int r1_size, .ref a_r1_numbers, .ref a_r1_ranks, .ref a_r1_told, .ref a_r1_ones, .ref a_r1_turnsByYear])), (a_r1_numbers, .inl (cI, 10, .inl r1_numbers)), (a_r1_ones, .inl (cJ, 10, .inr (.inl r1_ones))), (a_r1_ranks, .inl (cI, 10, .inl r1_ranks)), (a_r1_told, .inl (cJ, 10, .inr (.inl r1_told))), (a_r1_turnsByYear, .inl (cZ, 10, .inl r1_turnsByYear)), (a_t, .inr (1, [.int t_size, .ref a_t_numbers, .ref a_t_ranks, .ref a_t_told, .ref a_t_ones, .ref a_t_turnsByYear])), (a_t_numbers, .inl (cI, 10, .inl g23)), (a_t_ones, .inl (cJ, 10, .inr (.inl g24))), (a_t_ranks, .inl (cI, 10, .inl g25)), (a_t_told, .inl (cJ, 10, .inr (.inl g26))), (a_t_turnsByYear, .inl (cZ, 10, .inl g27))] H → va_D A [(a_r1, .inr (1, [.int r1_size, .ref a_r1_numbers, .ref a_r1_ranks, .ref a_r1_told, .ref a_r1_ones, .ref a_r1_turnsByYear])), (a_r1_numbers, .inl (cI, 10, .inl r1_numbers)), (a_r1_ones, .inl (cJ, 10, .inr (.inl r1_ones))), (a_r1_ranks, .inl (cI, 10, .inl r1_ranks)), (a_r1_told, .inl (cJ, 10, .inr (.inl r1_told))), (a_r1_turnsByYear, .inl (cZ, 10, .inl r1_turnsByYear)), (a_t, .inr (1, [.int t_size, .ref a_t_numbers, .ref a_t_ranks, .ref a_t_told, .ref a_t_ones, .ref a_t_turnsByYear])), (a_t_numbers, .inl (cI, 10, .inl g23)), (a_t_ones, .inl (cJ, 10, .inr (.inl g24))), (a_t_ranks, .inl (cI, 10, .inl g25)), (a_t_told, .inl (cJ, 10, .inr (.inl g26))), (a_t_turnsByYear, .inl (cZ, 10, .inl g27))] → va_S A s.heap H locs → lv_has ls 3 [(0, .ref a_t), (1, .ref a_r1)] → V H locs (F0 m 21 ls [])) ?_ (fun hE22 => ?_)
  · intro H locs ls hP hD hS hl
    refine lv_aload_n hx hb dX2_copyOf_21 rfl (lv_at hl 0 rfl) ?_
    refine lv_aload_n hx hb dX2_copyOf_22 rfl (lv_at hl 1 rfl) ?_
    refine va_get (ci := 1) (v := .int r1_size) (C := RX2) (T := TX2) (N := 6) hx hb hts in_X2_copyOf_X2 hown hK hP 0 rfl rfl 0 (by decide) (hts _ lk_X2_copyOf_0) (fun _ h9 => h9) rfl dX2_copyOf_23 ?_
    refine va_put (ci := 1) (v := .int r1_size) (ty := .int) (C := RX2) (T := TX2) (N := 6) hx hb hts in_X2_copyOf_X2 tyX2 tyX2_ok nmX2 hown hK hP hD hS 6 rfl rfl 0 (by decide) (hts _ lk_X2_copyOf_0) (fun _ h9 => h9) rfl (by decide +kernel) rfl rfl (Nat.le_of_ble_eq_true rfl) dX2_copyOf_26 (fun H locs hP hD hS => ?_)
    have hP : va_P (dC, dI) vwCl [(a_r1, .inr (1, [.int r1_size, .ref a_r1_numbers, .ref a_r1_ranks, .ref a_r1_told, .ref a_r1_ones, .ref a_r1_turnsByYear])), (a_r1_numbers, .inl (cI, 10, .inl r1_numbers)), (a_r1_ones, .inl (cJ, 10, .inr (.inl r1_ones))), (a_r1_ranks, .inl (cI, 10, .inl r1_ranks)), (a_r1_told, .inl (cJ, 10, .inr (.inl r1_told))), (a_r1_turnsByYear, .inl (cZ, 10, .inl r1_turnsByYear)), (a_t, .inr (1, [.int r1_size, .ref a_t_numbers, .ref a_t_ranks, .ref a_t_told, .ref a_t_ones, .ref a_t_turnsByYear])), (a_t_numbers, .inl (cI, 10, .inl g23)), (a_t_ones, .inl (cJ, 10, .inr (.inl g24))), (a_t_ranks, .inl (cI, 10, .inl g25)), (a_t_told, .inl (cJ, 10, .inr (.inl g26))), (a_t_turnsByYear, .inl (cZ, 10, .inl g27))] H := hP
    have hD : va_D A [(a_r1, .inr (1, [.int r1_size, .ref a_r1_numbers, .ref a_r1_ranks, .ref a_r1_told, .ref a_r1_ones, .ref a_r1_turnsByYear])), (a_r1_numbers, .inl (cI, 10, .inl r1_numbers)), (a_r1_ones, .inl (cJ, 10, .inr (.inl r1_ones))), (a_r1_ranks, .inl (cI, 10, .inl r1_ranks)), (a_r1_told, .inl (cJ, 10, .inr (.inl r1_told))), (a_r1_turnsByYear, .inl (cZ, 10, .inl r1_turnsByYear)), (a_t, .inr (1, [.int r1_size, .ref a_t_numbers, .ref a_t_ranks, .ref a_t_told, .ref a_t_ones, .ref a_t_turnsByYear])), (a_t_numbers, .inl (cI, 10, .inl g23)), (a_t_ones, .inl (cJ, 10, .inr (.inl g24))), (a_t_ranks, .inl (cI, 10, .inl g25)), (a_t_told, .inl (cJ, 10, .inr (.inl g26))), (a_t_turnsByYear, .inl (cZ, 10, .inl g27))] := hD
    exact zz_vret (r1_size, g23, g24, g25, g26, g27) hx hb hr hlocks dX2_copyOf_29 (Option.some.inj h) hP hK hD hS
  refine zz_cut (fun V => ∀ (n : Nat) (x17 : Int32) (g18 : (Nat → Int32)) (g19 : (Nat → Int64)) (g20 : (Nat → Int32)) (g21 : (Nat → Int64)) (g22 : (Nat → Int32)) (H : Heap) (locs : List Loc) (ls : Array Slot), zz_it (fun z => fb_X2_copyOf_2 r1_numbers r1_ones r1_ranks r1_told r1_turnsByYear z.1 z.2.1 z.2.2.1 z.2.2.2.1 z.2.2.2.2.1 z.2.2.2.2.2) n (x17, g18, g19, g20, g21, g22) = some (g23, g24, g25, g26, g27) → va_P (dC, dI) vwCl [(a_r1, .inr (1, [.int r1_size, .ref a_r1_numbers, .ref a_r1_ranks, .ref a_r1_told, .ref a_r1_ones, .ref a_r1_turnsByYear])), (a_r1_numbers, .inl (cI, 10, .inl r1_numbers)), (a_r1_ones, .inl (cJ, 10, .inr (.inl r1_ones))), (a_r1_ranks, .inl (cI, 10, .inl r1_ranks)), (a_r1_told, .inl (cJ, 10, .inr (.inl r1_told))), (a_r1_turnsByYear, .inl (cZ, 10, .inl r1_turnsByYear)), (a_t, .inr (1, [.int t_size, .ref a_t_numbers, .ref a_t_ranks, .ref a_t_told, .ref a_t_ones, .ref a_t_turnsByYear])), (a_t_numbers, .inl (cI, 10, .inl g18)), (a_t_ones, .inl (cJ, 10, .inr (.inl g19))), (a_t_ranks, .inl (cI, 10, .inl g20)), (a_t_told, .inl (cJ, 10, .inr (.inl g21))), (a_t_turnsByYear, .inl (cZ, 10, .inl g22))] H → va_D A [(a_r1, .inr (1, [.int r1_size, .ref a_r1_numbers, .ref a_r1_ranks, .ref a_r1_told, .ref a_r1_ones, .ref a_r1_turnsByYear])), (a_r1_numbers, .inl (cI, 10, .inl r1_numbers)), (a_r1_ones, .inl (cJ, 10, .inr (.inl r1_ones))), (a_r1_ranks, .inl (cI, 10, .inl r1_ranks)), (a_r1_told, .inl (cJ, 10, .inr (.inl r1_told))), (a_r1_turnsByYear, .inl (cZ, 10, .inl r1_turnsByYear)), (a_t, .inr (1, [.int t_size, .ref a_t_numbers, .ref a_t_ranks, .ref a_t_told, .ref a_t_ones, .ref a_t_turnsByYear])), (a_t_numbers, .inl (cI, 10, .inl g18)), (a_t_ones, .inl (cJ, 10, .inr (.inl g19))), (a_t_ranks, .inl (cI, 10, .inl g20)), (a_t_told, .inl (cJ, 10, .inr (.inl g21))), (a_t_turnsByYear, .inl (cZ, 10, .inl g22))] → va_S A s.heap H locs → lv_has ls 3 [(0, .ref a_t), (1, .ref a_r1), (2, .int x17)] → V H locs (F0 m 2 ls [])) ?_ (fun hL22 => ?_)
  · intro n
    induction n with
    | zero => intro x17 g18 g19 g20 g21 g22 H locs ls hit22; exact (zz_it0 hit22).elim
    | succ n ih22 =>
      intro x17 g18 g19 g20 g21 g22 H locs ls hit22 hP hD hS hl
      obtain ⟨y22, hb22, hy22⟩ := zz_itE hit22
      have hb22 : fb_X2_copyOf_2 r1_numbers r1_ones r1_ranks r1_told r1_turnsByYear x17 g18 g19 g20 g21 g22 = some y22 := hb22
      unfold fb_X2_copyOf_2 at hb22
      refine lv_iload_n hx hb dX2_copyOf_2 rfl (lv_at hl 2 rfl) ?_
      refine lv_bipush (v := 10) hx hb dX2_copyOf_3 (by decide) ?_
      refine lv_icmp_ge (tgt := 21) hx hb dX2_copyOf_5 (by decide) (fun c28 => ?_) (fun c28 => ?_)
      · have hb22 := zz_if c28 hb22
        obtain rfl := Option.some.inj hb22
        have hy22 := Option.some.inj hy22
        cases hy22
        exact hE22 _ _ ls hP hD hS (lv_sub hl [0, 1] rfl)
      · have hb22 := zz_ifn c28 hb22
        refine lv_aload_n hx hb dX2_copyOf_8 rfl (lv_at hl 0 rfl) ?_
        refine lv_aload_n hx hb dX2_copyOf_9 rfl (lv_at hl 1 rfl) ?_
        refine lv_iload_n hx hb dX2_copyOf_10 rfl (lv_at hl 2 rfl) ?_
        refine lv_iload_n hx hb dX2_copyOf_11 rfl (lv_at hl 2 rfl) ?_
        obtain ⟨g29, g30, g31, g32, g33, he34, hb22⟩ := zz_b5E hb22
        refine zz_VV (q := (RX2, TX2, 6)) (As := [.ref a_r1, .int x17, .int x17]) (rest := []) (wr := []) (wm := [(a_r1, .inr (1, [.int r1_size, .ref a_r1_numbers, .ref a_r1_ranks, .ref a_r1_told, .ref a_r1_ones, .ref a_r1_turnsByYear])), (a_r1_numbers, .inl (cI, 10, .inl r1_numbers)), (a_r1_ones, .inl (cJ, 10, .inr (.inl r1_ones))), (a_r1_ranks, .inl (cI, 10, .inl r1_ranks)), (a_r1_told, .inl (cJ, 10, .inr (.inl r1_told))), (a_r1_turnsByYear, .inl (cZ, 10, .inl r1_turnsByYear)), (a_t, .inr (1, [.int t_size, .ref a_t_numbers, .ref a_t_ranks, .ref a_t_told, .ref a_t_ones, .ref a_t_turnsByYear])), (a_t_numbers, .inl (cI, 10, .inl g29)), (a_t_ones, .inl (cJ, 10, .inr (.inl g30))), (a_t_ranks, .inl (cI, 10, .inl g31)), (a_t_told, .inl (cJ, 10, .inr (.inl g32))), (a_t_turnsByYear, .inl (cZ, 10, .inl g33))]) ⟨hx, hb, hml, hown, hts⟩ (ct_X2_copyRule l dC dI cI cJ cB cZ a_r1 a_r1_numbers a_r1_ones a_r1_ranks a_r1_told a_r1_turnsByYear a_t a_t_numbers a_t_ones a_t_ranks a_t_told a_t_turnsByYear r1_size r1_numbers r1_ones r1_ranks r1_told r1_turnsByYear t_size g18 g19 g20 g21 g22 x17 x17 g29 g30 g31 g32 g33 he34) gX2_copyOf_X2_copyRule hd_X2_copyRule rfl rfl rfl ⟨Nat.le_of_ble_eq_true rfl, Nat.le_of_ble_eq_true rfl⟩ ⟨Nat.le_of_ble_eq_true rfl, Nat.le_of_ble_eq_true rfl⟩ rfl rfl (Nat.le_of_ble_eq_true rfl) dX2_copyOf_12 hl.1 rfl (ci := 1) rfl (q0 := 6) rfl hP hK hD hS hA [0, 1, 2, 3, 4, 5, 6, 7, 8, 9, 10, 11] [] [0, 1, 2, 3, 4, 5, 6, 7, 8, 9, 10, 11] rfl rfl (by decide) (by decide) (by decide) (by decide) rfl (fun H locs hP hD hS => ?_)
        obtain ⟨x35, ex35⟩ : ∃ z : Int32, z = x17 + 1 := ⟨_, rfl⟩
        have hb22 := zz_nmE ex35 hb22
        refine lv_iinc (v := x35) (lv' := [(2, .int x35), (0, .ref a_t), (1, .ref a_r1)]) hx hb dX2_copyOf_15 hl (k := 2) rfl (by rw [ex35]; rfl) (by decide) rfl (fun ls hl => ?_)
        refine lv_goto (tgt := 2) hx hb dX2_copyOf_18 (by decide) ?_
        obtain rfl := Option.some.inj hb22
        exact ih22 x35 g29 g30 g31 g32 g33 _ _ ls hy22 hP hD hS (lv_sub hl [1, 2, 0] rfl)
  exact hL22 zz_fuel 0 t_numbers t_ones t_ranks t_told t_turnsByYear _ _ ls hit22 hP hD hS (lv_sub hl [1, 2, 0] rfl)
theorem hd_X2_tells : yX2_tells.cls ≠ "java/lang/invoke/MethodHandle" ∧ yX2_tells.cls ≠ "java/lang/invoke/VarHandle" ∧ (parseMethodDescriptor yX2_tells.desc).map (fun d => d.parameters.length) = some 3 := by decide +kernel
set_option maxRecDepth 20000 in
theorem in_X2_tells_X2 : ∀ w ∈ u_ws RX2 TX2 6, w ∈ wsX2_tells := by decide +kernel
set_option maxRecDepth 20000 in
theorem lk_X2_tells_0 : Cond.fieldLink RX2 29 "TwoHousesOneChild$Paper" "size" "I" ∈ wsX2_tells := by decide +kernel
set_option maxRecDepth 20000 in
theorem lk_X2_tells_1 : Cond.fieldLink RX2 9 "TwoHousesOneChild$Paper" "numbers" "[I" ∈ wsX2_tells := by decide +kernel
set_option maxRecDepth 20000 in
theorem lk_X2_tells_2 : Cond.fieldLink RX2 18 "TwoHousesOneChild$Paper" "told" "[J" ∈ wsX2_tells := by decide +kernel
set_option maxHeartbeats 4000000 in
set_option maxRecDepth 100000 in
theorem ct_X2_tells (l : Launch) (dC : Nat → ClassId) (dI : Nat → Nat → Nat) (cI cJ cB cZ : ClassId) (a_t a_t_numbers a_t_ones a_t_told a_t_turnsByYear a_t_ranks : Nat) (t_size : Int32) (t_numbers : (Nat → Int32)) (t_ones : (Nat → Int64)) (t_told : (Nat → Int64)) (t_turnsByYear : (Nat → Int32)) (p1 : Int32) (p2 : Int32) (p3 : Int32) (rr : Int32) (u0 : Unit) (h : fn_X2_tells t_size t_numbers t_ones t_told t_turnsByYear p1 p2 p3 = some (rr, u0)) : zz_M l yX2_tells wsX2_tells ({ frames := 1, cells := 0, slots := 0, locals := 23 }) (dC, dI) (zz_T cI cJ cB cZ) [.ref a_t, .int p1, .int p2, .int p3] [(a_t, .inr (1, [.int t_size, .ref a_t_numbers, .ref a_t_ranks, .ref a_t_told, .ref a_t_ones, .ref a_t_turnsByYear])), (a_t_numbers, .inl (cI, 10, .inl t_numbers)), (a_t_ones, .inl (cJ, 10, .inr (.inl t_ones))), (a_t_told, .inl (cJ, 10, .inr (.inl t_told))), (a_t_turnsByYear, .inl (cZ, 10, .inl t_turnsByYear))] (zz_QI (dC, dI) (zz_T cI cJ cB cZ) (rr, u0) (fun (u : Unit) => [(a_t, .inr (1, [.int t_size, .ref a_t_numbers, .ref a_t_ranks, .ref a_t_told, .ref a_t_ones, .ref a_t_turnsByYear])), (a_t_numbers, .inl (cI, 10, .inl t_numbers)), (a_t_ones, .inl (cJ, 10, .inr (.inl t_ones))), (a_t_told, .inl (cJ, 10, .inr (.inl t_told))), (a_t_turnsByYear, .inl (cZ, 10, .inl t_turnsByYear))])) := by
  unfold fn_X2_tells at h
  refine zz_of (by decide) rfl (Nat.le_of_ble_eq_true rfl) ?_
  intro p e s m below meth c A ls hx hb hr hml hts hown hlocks hA hS hP hK hD hl
  have hown : s.vm.findClass RX2 = some m.cls := hown
  have hl : lv_has ls 5 [(0, .ref a_t), (1, .int p1), (2, .int p2), (3, .int p3)] := hl
  refine lv_iconst (v := 0) hx hb dX2_tells_0 (by decide) ?_
  refine lv_istore (lv' := [(4, .int 0), (0, .ref a_t), (1, .int p1), (2, .int p2), (3, .int p3)]) hx hb dX2_tells_1 hl (by decide) rfl (fun ls hl => ?_)
  obtain ⟨z35, hit35, hz35⟩ := zz_mtE h
  refine zz_cut (fun V => ∀  (H : Heap) (locs : List Loc) (ls : Array Slot), fk_X2_tells_3  = some (rr, u0) → va_P (dC, dI) vwCl [(a_t, .inr (1, [.int t_size, .ref a_t_numbers, .ref a_t_ranks, .ref a_t_told, .ref a_t_ones, .ref a_t_turnsByYear])), (a_t_numbers, .inl (cI, 10, .inl t_numbers)), (a_t_ones, .inl (cJ, 10, .inr (.inl t_ones))), (a_t_told, .inl (cJ, 10, .inr (.inl t_told))), (a_t_turnsByYear, .inl (cZ, 10, .inl t_turnsByYear))] H → va_D A [(a_t, .inr (1, [.int t_size, .ref a_t_numbers, .ref a_t_ranks, .ref a_t_told, .ref a_t_ones, .ref a_t_turnsByYear])), (a_t_numbers, .inl (cI, 10, .inl t_numbers)), (a_t_ones, .inl (cJ, 10, .inr (.inl t_ones))), (a_t_told, .inl (cJ, 10, .inr (.inl t_told))), (a_t_turnsByYear, .inl (cZ, 10, .inl t_turnsByYear))] → va_S A s.heap H locs → lv_has ls 5 [] → V H locs (F0 m 62 ls [])) ?_ (fun hE35 => ?_)
  · intro  H locs ls h hP hD hS hl
    unfold fk_X2_tells_3 at h
    refine lv_bipush (v := (-9)) hx hb dX2_tells_62 (by decide) ?_
    exact zz_iret () hx hb hr hlocks dX2_tells_64 (Option.some.inj h) hP hK hD hS
  refine zz_cut (fun V => ∀ (n : Nat) (x35 : Int32) (H : Heap) (locs : List Loc) (ls : Array Slot), zz_it (fun z => fb_X2_tells_3 p1 p2 p3 t_size t_numbers t_told t_ones t_turnsByYear z) n x35 = some z35 → va_P (dC, dI) vwCl [(a_t, .inr (1, [.int t_size, .ref a_t_numbers, .ref a_t_ranks, .ref a_t_told, .ref a_t_ones, .ref a_t_turnsByYear])), (a_t_numbers, .inl (cI, 10, .inl t_numbers)), (a_t_ones, .inl (cJ, 10, .inr (.inl t_ones))), (a_t_told, .inl (cJ, 10, .inr (.inl t_told))), (a_t_turnsByYear, .inl (cZ, 10, .inl t_turnsByYear))] H → va_D A [(a_t, .inr (1, [.int t_size, .ref a_t_numbers, .ref a_t_ranks, .ref a_t_told, .ref a_t_ones, .ref a_t_turnsByYear])), (a_t_numbers, .inl (cI, 10, .inl t_numbers)), (a_t_ones, .inl (cJ, 10, .inr (.inl t_ones))), (a_t_told, .inl (cJ, 10, .inr (.inl t_told))), (a_t_turnsByYear, .inl (cZ, 10, .inl t_turnsByYear))] → va_S A s.heap H locs → lv_has ls 5 [(0, .ref a_t), (1, .int p1), (2, .int p2), (3, .int p3), (4, .int x35)] → V H locs (F0 m 3 ls [])) ?_ (fun hL35 => ?_)
  · intro n
    induction n with
    | zero => intro x35 H locs ls hit35; exact (zz_it0 hit35).elim
    | succ n ih35 =>
      intro x35 H locs ls hit35 hP hD hS hl
      obtain ⟨y35, hb35, hy35⟩ := zz_itE hit35
      have hb35 : fb_X2_tells_3 p1 p2 p3 t_size t_numbers t_told t_ones t_turnsByYear x35 = some y35 := hb35
      unfold fb_X2_tells_3 at hb35
      refine lv_iload hx hb dX2_tells_3 (lv_at hl 4 rfl) ?_
      refine lv_aload_n hx hb dX2_tells_5 rfl (lv_at hl 0 rfl) ?_
      refine va_get (ci := 1) (v := .int t_size) (C := RX2) (T := TX2) (N := 6) hx hb hts in_X2_tells_X2 hown hK hP 0 rfl rfl 0 (by decide) (hts _ lk_X2_tells_0) (fun _ h9 => h9) rfl dX2_tells_6 ?_
      refine lv_icmp_ge (tgt := 62) hx hb dX2_tells_9 (by decide) (fun c36 => ?_) (fun c36 => ?_)
      · have hb35 := zz_if c36 hb35
        obtain rfl := Option.some.inj hb35
        obtain rfl := Option.some.inj hy35
        exact hE35  _ _ ls hz35 hP hD hS (lv_sub hl [] rfl)
      · have hb35 := zz_ifn c36 hb35
        refine lv_iload hx hb dX2_tells_12 (lv_at hl 4 rfl) ?_
        refine lv_bipush (v := 10) hx hb dX2_tells_14 (by decide) ?_
        refine lv_icmp_ge (tgt := 62) hx hb dX2_tells_16 (by decide) (fun c37 => ?_) (fun c37 => ?_)
        · have hb35 := zz_if c37 hb35
          obtain rfl := Option.some.inj hb35
          obtain rfl := Option.some.inj hy35
          exact hE35  _ _ ls hz35 hP hD hS (lv_sub hl [] rfl)
        · have hb35 := zz_ifn c37 hb35
          refine lv_aload_n hx hb dX2_tells_19 rfl (lv_at hl 0 rfl) ?_
          refine va_get (ci := 1) (v := .ref a_t_numbers) (C := RX2) (T := TX2) (N := 6) hx hb hts in_X2_tells_X2 hown hK hP 0 rfl rfl 1 (by decide) (hts _ lk_X2_tells_1) (fun _ h9 => h9) rfl dX2_tells_20 ?_
          refine lv_iload hx hb dX2_tells_23 (lv_at hl 4 rfl) ?_
          obtain ⟨hi38, hb35⟩ := zz_chkE hb35
          refine va_iald hx hb hK hP 1 0 rfl rfl hi38 dX2_tells_25 ?_
          refine lv_iload_n hx hb dX2_tells_26 rfl (lv_at hl 1 rfl) ?_
          refine lv_icmp_ne (tgt := 56) hx hb dX2_tells_27 (by decide) (fun c39 => ?_) (fun c39 => ?_)
          · have hb35 := zz_ifn c39 hb35
            obtain ⟨x40, ex40⟩ : ∃ z : Int32, z = x35 + 1 := ⟨_, rfl⟩
            have hb35 := zz_nmE ex40 hb35
            refine lv_iinc (v := x40) (lv' := [(4, .int x40), (0, .ref a_t), (1, .int p1), (2, .int p2), (3, .int p3)]) hx hb dX2_tells_56 hl (k := 4) rfl (by rw [ex40]; rfl) (by decide) rfl (fun ls hl => ?_)
            refine lv_goto (tgt := 3) hx hb dX2_tells_59 (by decide) ?_
            obtain rfl := Option.some.inj hb35
            exact ih35 x40 _ _ ls hy35 hP hD hS (lv_sub hl [1, 2, 3, 4, 0] rfl)
          · have hb35 := zz_if c39 hb35
            refine lv_aload_n hx hb dX2_tells_30 rfl (lv_at hl 0 rfl) ?_
            refine va_get (ci := 1) (v := .ref a_t_told) (C := RX2) (T := TX2) (N := 6) hx hb hts in_X2_tells_X2 hown hK hP 0 rfl rfl 3 (by decide) (hts _ lk_X2_tells_2) (fun _ h9 => h9) rfl dX2_tells_31 ?_
            refine lv_iload hx hb dX2_tells_34 (lv_at hl 4 rfl) ?_
            obtain ⟨hi41, hb35⟩ := zz_chkE hb35
            refine va_lald hx hb hK hP 3 1 rfl rfl hi41 dX2_tells_36 ?_
            refine lv_iload_n hx hb dX2_tells_37 rfl (lv_at hl 2 rfl) ?_
            obtain ⟨x42, u43, he44, hb35⟩ := zz_b2E hb35
            refine zz_PI (As := [.long (t_told x35.toNatClampNeg), .int p2]) (rest := []) ⟨hx, hb, hml, hown, hts⟩ (ct_X1_holds l dC dI cI cJ cB cZ (t_told x35.toNatClampNeg) p2 x42 u43 he44) gX2_tells_X1_holds hd_X1_holds rfl rfl rfl ⟨Nat.le_of_ble_eq_true rfl, Nat.le_of_ble_eq_true rfl⟩ ⟨Nat.le_of_ble_eq_true rfl, Nat.le_of_ble_eq_true rfl⟩ rfl rfl (Nat.le_of_ble_eq_true rfl) dX2_tells_38 hl.1 hP hK hS hA (fun H locs hP hS => ?_)
            refine lv_if_eq (tgt := 56) hx hb dX2_tells_41 (by decide) (fun c45 => ?_) (fun c45 => ?_)
            · have hb35 := zz_if c45 hb35
              obtain ⟨x46, ex46⟩ : ∃ z : Int32, z = x35 + 1 := ⟨_, rfl⟩
              have hb35 := zz_nmE ex46 hb35
              refine lv_iinc (v := x46) (lv' := [(4, .int x46), (0, .ref a_t), (1, .int p1), (2, .int p2), (3, .int p3)]) hx hb dX2_tells_56 hl (k := 4) rfl (by rw [ex46]; rfl) (by decide) rfl (fun ls hl => ?_)
              refine lv_goto (tgt := 3) hx hb dX2_tells_59 (by decide) ?_
              obtain rfl := Option.some.inj hb35
              exact ih35 x46 _ _ ls hy35 hP hD hS (lv_sub hl [1, 2, 3, 4, 0] rfl)
            · have hb35 := zz_ifn c45 hb35
              refine lv_aload_n hx hb dX2_tells_44 rfl (lv_at hl 0 rfl) ?_
              refine lv_iload hx hb dX2_tells_45 (lv_at hl 4 rfl) ?_
              refine lv_iload_n hx hb dX2_tells_47 rfl (lv_at hl 3 rfl) ?_
              obtain ⟨x47, u48, he49, hb35⟩ := zz_b2E hb35
              refine zz_VL (q := (RX2, TX2, 6)) (As := [.int x35, .int p3]) (rest := []) (wr := [(a_t_numbers, .inl (cI, 10, .inl t_numbers))]) (wm := [(a_t, .inr (1, [.int t_size, .ref a_t_numbers, .ref a_t_ranks, .ref a_t_told, .ref a_t_ones, .ref a_t_turnsByYear])), (a_t_numbers, .inl (cI, 10, .inl t_numbers)), (a_t_ones, .inl (cJ, 10, .inr (.inl t_ones))), (a_t_told, .inl (cJ, 10, .inr (.inl t_told))), (a_t_turnsByYear, .inl (cZ, 10, .inl t_turnsByYear))]) ⟨hx, hb, hml, hown, hts⟩ (ct_X2_nightsOfOne l dC dI cI cJ cB cZ a_t a_t_ones a_t_told a_t_turnsByYear a_t_numbers a_t_ranks t_size t_ones t_told t_turnsByYear x35 p3 x47 u48 he49) gX2_tells_X2_nightsOfOne hd_X2_nightsOfOne rfl rfl rfl ⟨Nat.le_of_ble_eq_true rfl, Nat.le_of_ble_eq_true rfl⟩ ⟨Nat.le_of_ble_eq_true rfl, Nat.le_of_ble_eq_true rfl⟩ rfl rfl (Nat.le_of_ble_eq_true rfl) dX2_tells_48 hl.1 rfl (ci := 1) rfl (q0 := 0) rfl hP hK hD hS hA [0, 2, 3, 4] [1] [1, 0, 2, 3, 4] rfl rfl (by decide) (by decide) (by decide) (by decide) rfl (fun H locs hP hD hS => ?_)
              refine lv_iload_n hx hb dX2_tells_51 rfl (lv_at hl 2 rfl) ?_
              obtain ⟨x50, u51, he52, hb35⟩ := zz_b2E hb35
              refine zz_PI (As := [.long x47, .int p2]) (rest := []) ⟨hx, hb, hml, hown, hts⟩ (ct_X1_houseAt l dC dI cI cJ cB cZ x47 p2 x50 u51 he52) gX2_tells_X1_houseAt hd_X1_houseAt rfl rfl rfl ⟨Nat.le_of_ble_eq_true rfl, Nat.le_of_ble_eq_true rfl⟩ ⟨Nat.le_of_ble_eq_true rfl, Nat.le_of_ble_eq_true rfl⟩ rfl rfl (Nat.le_of_ble_eq_true rfl) dX2_tells_52 hl.1 hP hK hS hA (fun H locs hP hS => ?_)
              obtain rfl := Option.some.inj hb35
              obtain rfl := Option.some.inj hy35
              exact zz_iret () hx hb hr hlocks dX2_tells_55 (Option.some.inj hz35) hP hK hD hS
  exact hL35 zz_fuel 0 _ _ ls hit35 hP hD hS (lv_sub hl [1, 2, 3, 4, 0] rfl)
theorem hd_X2_foremost : yX2_foremost.cls ≠ "java/lang/invoke/MethodHandle" ∧ yX2_foremost.cls ≠ "java/lang/invoke/VarHandle" ∧ (parseMethodDescriptor yX2_foremost.desc).map (fun d => d.parameters.length) = some 1 := by decide +kernel
set_option maxRecDepth 20000 in
theorem in_X2_foremost_X2 : ∀ w ∈ u_ws RX2 TX2 6, w ∈ wsX2_foremost := by decide +kernel
set_option maxRecDepth 20000 in
theorem lk_X2_foremost_0 : Cond.fieldLink RX2 29 "TwoHousesOneChild$Paper" "size" "I" ∈ wsX2_foremost := by decide +kernel
set_option maxRecDepth 20000 in
theorem lk_X2_foremost_1 : Cond.fieldLink RX2 18 "TwoHousesOneChild$Paper" "told" "[J" ∈ wsX2_foremost := by decide +kernel
set_option maxRecDepth 20000 in
theorem lk_X2_foremost_2 : Cond.fieldLink RX2 15 "TwoHousesOneChild$Paper" "ranks" "[I" ∈ wsX2_foremost := by decide +kernel
set_option maxRecDepth 20000 in
theorem lk_X2_foremost_3 : Cond.fieldLink RX2 9 "TwoHousesOneChild$Paper" "numbers" "[I" ∈ wsX2_foremost := by decide +kernel
set_option maxHeartbeats 4000000 in
set_option maxRecDepth 100000 in
theorem ct_X2_foremost (l : Launch) (dC : Nat → ClassId) (dI : Nat → Nat → Nat) (cI cJ cB cZ : ClassId) (a_t a_t_numbers a_t_ranks a_t_told a_t_ones a_t_turnsByYear : Nat) (t_size : Int32) (t_numbers : (Nat → Int32)) (t_ranks : (Nat → Int32)) (t_told : (Nat → Int64)) (p1 : Int32) (rr : Int32) (u0 : Unit) (h : fn_X2_foremost t_size t_numbers t_ranks t_told p1 = some (rr, u0)) : zz_M l yX2_foremost wsX2_foremost ({ frames := 1, cells := 0, slots := 0, locals := 22 }) (dC, dI) (zz_T cI cJ cB cZ) [.ref a_t, .int p1] [(a_t, .inr (1, [.int t_size, .ref a_t_numbers, .ref a_t_ranks, .ref a_t_told, .ref a_t_ones, .ref a_t_turnsByYear])), (a_t_numbers, .inl (cI, 10, .inl t_numbers)), (a_t_ranks, .inl (cI, 10, .inl t_ranks)), (a_t_told, .inl (cJ, 10, .inr (.inl t_told)))] (zz_QI (dC, dI) (zz_T cI cJ cB cZ) (rr, u0) (fun (u : Unit) => [(a_t, .inr (1, [.int t_size, .ref a_t_numbers, .ref a_t_ranks, .ref a_t_told, .ref a_t_ones, .ref a_t_turnsByYear])), (a_t_numbers, .inl (cI, 10, .inl t_numbers)), (a_t_ranks, .inl (cI, 10, .inl t_ranks)), (a_t_told, .inl (cJ, 10, .inr (.inl t_told)))])) := by
  unfold fn_X2_foremost at h
  refine zz_of (by decide) rfl (Nat.le_of_ble_eq_true rfl) ?_
  intro p e s m below meth c A ls hx hb hr hml hts hown hlocks hA hS hP hK hD hl
  have hown : s.vm.findClass RX2 = some m.cls := hown
  have hl : lv_has ls 5 [(0, .ref a_t), (1, .int p1)] := hl
  refine lv_iconst (v := 0) hx hb dX2_foremost_0 (by decide) ?_
  refine lv_istore_n (lv' := [(2, .int 0), (0, .ref a_t), (1, .int p1)]) hx hb dX2_foremost_1 rfl hl (by decide) rfl (fun ls hl => ?_)
  refine lv_bipush (v := (-9)) hx hb dX2_foremost_2 (by decide) ?_
  refine lv_istore_n (lv' := [(3, .int (-9)), (2, .int 0), (0, .ref a_t), (1, .int p1)]) hx hb dX2_foremost_4 rfl hl (by decide) rfl (fun ls hl => ?_)
  refine lv_iconst (v := 0) hx hb dX2_foremost_5 (by decide) ?_
  refine lv_istore (lv' := [(4, .int 0), (3, .int (-9)), (2, .int 0), (0, .ref a_t), (1, .int p1)]) hx hb dX2_foremost_6 hl (by decide) rfl (fun ls hl => ?_)
  obtain ⟨x46, hit45, h⟩ := zz_b1E h
  refine zz_cut (fun V => ∀ (H : Heap) (locs : List Loc) (ls : Array Slot), va_P (dC, dI) vwCl [(a_t, .inr (1, [.int t_size, .ref a_t_numbers, .ref a_t_ranks, .ref a_t_told, .ref a_t_ones, .ref a_t_turnsByYear])), (a_t_numbers, .inl (cI, 10, .inl t_numbers)), (a_t_ranks, .inl (cI, 10, .inl t_ranks)), (a_t_told, .inl (cJ, 10, .inr (.inl t_told)))] H → va_D A [(a_t, .inr (1, [.int t_size, .ref a_t_numbers, .ref a_t_ranks, .ref a_t_told, .ref a_t_ones, .ref a_t_turnsByYear])), (a_t_numbers, .inl (cI, 10, .inl t_numbers)), (a_t_ranks, .inl (cI, 10, .inl t_ranks)), (a_t_told, .inl (cJ, 10, .inr (.inl t_told)))] → va_S A s.heap H locs → lv_has ls 5 [(2, .int x46)] → V H locs (F0 m 84 ls [])) ?_ (fun hE45 => ?_)
  · intro H locs ls hP hD hS hl
    refine lv_iload_n hx hb dX2_foremost_84 rfl (lv_at hl 0 rfl) ?_
    exact zz_iret () hx hb hr hlocks dX2_foremost_85 (Option.some.inj h) hP hK hD hS
  refine zz_cut (fun V => ∀ (n : Nat) (x43 : Int32) (x44 : Int32) (x45 : Int32) (H : Heap) (locs : List Loc) (ls : Array Slot), zz_it (fun z => fb_X2_foremost_8 p1 t_size t_told t_ranks t_numbers z.1 z.2.1 z.2.2) n (x43, x44, x45) = some x46 → va_P (dC, dI) vwCl [(a_t, .inr (1, [.int t_size, .ref a_t_numbers, .ref a_t_ranks, .ref a_t_told, .ref a_t_ones, .ref a_t_turnsByYear])), (a_t_numbers, .inl (cI, 10, .inl t_numbers)), (a_t_ranks, .inl (cI, 10, .inl t_ranks)), (a_t_told, .inl (cJ, 10, .inr (.inl t_told)))] H → va_D A [(a_t, .inr (1, [.int t_size, .ref a_t_numbers, .ref a_t_ranks, .ref a_t_told, .ref a_t_ones, .ref a_t_turnsByYear])), (a_t_numbers, .inl (cI, 10, .inl t_numbers)), (a_t_ranks, .inl (cI, 10, .inl t_ranks)), (a_t_told, .inl (cJ, 10, .inr (.inl t_told)))] → va_S A s.heap H locs → lv_has ls 5 [(0, .ref a_t), (1, .int p1), (2, .int x43), (3, .int x44), (4, .int x45)] → V H locs (F0 m 8 ls [])) ?_ (fun hL45 => ?_)
  · intro n
    induction n with
    | zero => intro x43 x44 x45 H locs ls hit45; exact (zz_it0 hit45).elim
    | succ n ih45 =>
      intro x43 x44 x45 H locs ls hit45 hP hD hS hl
      obtain ⟨y45, hb45, hy45⟩ := zz_itE hit45
      have hb45 : fb_X2_foremost_8 p1 t_size t_told t_ranks t_numbers x43 x44 x45 = some y45 := hb45
      unfold fb_X2_foremost_8 at hb45
      refine lv_iload hx hb dX2_foremost_8 (lv_at hl 4 rfl) ?_
      refine lv_aload_n hx hb dX2_foremost_10 rfl (lv_at hl 0 rfl) ?_
      refine va_get (ci := 1) (v := .int t_size) (C := RX2) (T := TX2) (N := 6) hx hb hts in_X2_foremost_X2 hown hK hP 0 rfl rfl 0 (by decide) (hts _ lk_X2_foremost_0) (fun _ h9 => h9) rfl dX2_foremost_11 ?_
      refine lv_icmp_ge (tgt := 84) hx hb dX2_foremost_14 (by decide) (fun c47 => ?_) (fun c47 => ?_)
      · have hb45 := zz_if c47 hb45
        obtain rfl := Option.some.inj hb45
        have hy45 := Option.some.inj hy45
        cases hy45
        exact hE45 _ _ ls hP hD hS (lv_sub hl [2] rfl)
      · have hb45 := zz_ifn c47 hb45
        refine lv_iload hx hb dX2_foremost_17 (lv_at hl 4 rfl) ?_
        refine lv_bipush (v := 10) hx hb dX2_foremost_19 (by decide) ?_
        refine lv_icmp_ge (tgt := 84) hx hb dX2_foremost_21 (by decide) (fun c48 => ?_) (fun c48 => ?_)
        · have hb45 := zz_if c48 hb45
          obtain rfl := Option.some.inj hb45
          have hy45 := Option.some.inj hy45
          cases hy45
          exact hE45 _ _ ls hP hD hS (lv_sub hl [2] rfl)
        · have hb45 := zz_ifn c48 hb45
          refine lv_aload_n hx hb dX2_foremost_24 rfl (lv_at hl 0 rfl) ?_
          refine va_get (ci := 1) (v := .ref a_t_told) (C := RX2) (T := TX2) (N := 6) hx hb hts in_X2_foremost_X2 hown hK hP 0 rfl rfl 3 (by decide) (hts _ lk_X2_foremost_1) (fun _ h9 => h9) rfl dX2_foremost_25 ?_
          refine lv_iload hx hb dX2_foremost_28 (lv_at hl 4 rfl) ?_
          obtain ⟨hi49, hb45⟩ := zz_chkE hb45
          refine va_lald hx hb hK hP 3 1 rfl rfl hi49 dX2_foremost_30 ?_
          refine lv_iload_n hx hb dX2_foremost_31 rfl (lv_at hl 1 rfl) ?_
          obtain ⟨x50, u51, he52, hb45⟩ := zz_b2E hb45
          refine zz_PI (As := [.long (t_told x45.toNatClampNeg), .int p1]) (rest := []) ⟨hx, hb, hml, hown, hts⟩ (ct_X1_holds l dC dI cI cJ cB cZ (t_told x45.toNatClampNeg) p1 x50 u51 he52) gX2_foremost_X1_holds hd_X1_holds rfl rfl rfl ⟨Nat.le_of_ble_eq_true rfl, Nat.le_of_ble_eq_true rfl⟩ ⟨Nat.le_of_ble_eq_true rfl, Nat.le_of_ble_eq_true rfl⟩ rfl rfl (Nat.le_of_ble_eq_true rfl) dX2_foremost_32 hl.1 hP hK hS hA (fun H locs hP hS => ?_)
          refine lv_if_ne (tgt := 41) hx hb dX2_foremost_35 (by decide) (fun c53 => ?_) (fun c53 => ?_)
          · have hb45 := zz_ifn c53 hb45
            refine lv_iload_n hx hb dX2_foremost_41 rfl (lv_at hl 3 rfl) ?_
            refine lv_bipush (v := (-9)) hx hb dX2_foremost_42 (by decide) ?_
            obtain ⟨x57, hj58, hb45⟩ := zz_b1E hb45
            refine zz_cut (fun V => ∀ (H : Heap) (locs : List Loc) (ls : Array Slot), va_P (dC, dI) vwCl [(a_t, .inr (1, [.int t_size, .ref a_t_numbers, .ref a_t_ranks, .ref a_t_told, .ref a_t_ones, .ref a_t_turnsByYear])), (a_t_numbers, .inl (cI, 10, .inl t_numbers)), (a_t_ranks, .inl (cI, 10, .inl t_ranks)), (a_t_told, .inl (cJ, 10, .inr (.inl t_told)))] H → va_D A [(a_t, .inr (1, [.int t_size, .ref a_t_numbers, .ref a_t_ranks, .ref a_t_told, .ref a_t_ones, .ref a_t_turnsByYear])), (a_t_numbers, .inl (cI, 10, .inl t_numbers)), (a_t_ranks, .inl (cI, 10, .inl t_ranks)), (a_t_told, .inl (cJ, 10, .inr (.inl t_told)))] → va_S A s.heap H locs → lv_has ls 5 [(0, .ref a_t), (1, .int p1), (2, .int x43), (3, .int x57), (4, .int x45)] → V H locs (F0 m 55 ls [])) ?_ (fun hJ58 => ?_)
            · intro H locs ls hP hD hS hl
              refine lv_aload_n hx hb dX2_foremost_55 rfl (lv_at hl 0 rfl) ?_
              refine va_get (ci := 1) (v := .ref a_t_ranks) (C := RX2) (T := TX2) (N := 6) hx hb hts in_X2_foremost_X2 hown hK hP 0 rfl rfl 2 (by decide) (hts _ lk_X2_foremost_2) (fun _ h9 => h9) rfl dX2_foremost_56 ?_
              refine lv_iload hx hb dX2_foremost_59 (lv_at hl 4 rfl) ?_
              obtain ⟨hi59, hb45⟩ := zz_chkE hb45
              refine va_iald hx hb hK hP 2 0 rfl rfl hi59 dX2_foremost_61 ?_
              refine lv_iload_n hx hb dX2_foremost_62 rfl (lv_at hl 3 rfl) ?_
              refine lv_icmp_ne (tgt := 78) hx hb dX2_foremost_63 (by decide) (fun c60 => ?_) (fun c60 => ?_)
              · have hb45 := zz_ifn c60 hb45
                obtain ⟨x61, ex61⟩ : ∃ z : Int32, z = x45 + 1 := ⟨_, rfl⟩
                have hb45 := zz_nmE ex61 hb45
                refine lv_iinc (v := x61) (lv' := [(4, .int x61), (0, .ref a_t), (1, .int p1), (2, .int x43), (3, .int x57)]) hx hb dX2_foremost_78 hl (k := 4) rfl (by rw [ex61]; rfl) (by decide) rfl (fun ls hl => ?_)
                refine lv_goto (tgt := 8) hx hb dX2_foremost_81 (by decide) ?_
                obtain rfl := Option.some.inj hb45
                exact ih45 x43 x57 x61 _ _ ls hy45 hP hD hS (lv_sub hl [1, 2, 3, 4, 0] rfl)
              · have hb45 := zz_if c60 hb45
                refine lv_iload_n hx hb dX2_foremost_66 rfl (lv_at hl 2 rfl) ?_
                refine lv_iconst (v := 1) hx hb dX2_foremost_67 (by decide) ?_
                refine lv_aload_n hx hb dX2_foremost_68 rfl (lv_at hl 0 rfl) ?_
                refine va_get (ci := 1) (v := .ref a_t_numbers) (C := RX2) (T := TX2) (N := 6) hx hb hts in_X2_foremost_X2 hown hK hP 0 rfl rfl 1 (by decide) (hts _ lk_X2_foremost_3) (fun _ h9 => h9) rfl dX2_foremost_69 ?_
                refine lv_iload hx hb dX2_foremost_72 (lv_at hl 4 rfl) ?_
                obtain ⟨hi62, hb45⟩ := zz_chkE hb45
                refine va_iald hx hb hK hP 1 0 rfl rfl hi62 dX2_foremost_74 ?_
                refine lv_ishl hx hb dX2_foremost_75 ?_
                refine lv_ior hx hb dX2_foremost_76 ?_
                refine lv_topi (fun x63 ex63 => ?_)
                have hb45 := zz_nmE ex63 hb45
                refine lv_istore_n (lv' := [(2, .int x63), (0, .ref a_t), (1, .int p1), (3, .int x57), (4, .int x45)]) hx hb dX2_foremost_77 rfl hl (by decide) rfl (fun ls hl => ?_)
                obtain ⟨x64, ex64⟩ : ∃ z : Int32, z = x45 + 1 := ⟨_, rfl⟩
                have hb45 := zz_nmE ex64 hb45
                refine lv_iinc (v := x64) (lv' := [(4, .int x64), (2, .int x63), (0, .ref a_t), (1, .int p1), (3, .int x57)]) hx hb dX2_foremost_78 hl (k := 4) rfl (by rw [ex64]; rfl) (by decide) rfl (fun ls hl => ?_)
                refine lv_goto (tgt := 8) hx hb dX2_foremost_81 (by decide) ?_
                obtain rfl := Option.some.inj hb45
                exact ih45 x63 x57 x64 _ _ ls hy45 hP hD hS (lv_sub hl [2, 3, 1, 4, 0] rfl)
            refine lv_icmp_ne (tgt := 55) hx hb dX2_foremost_44 (by decide) (fun c54 => ?_) (fun c54 => ?_)
            · have hj58 := zz_ifn c54 hj58
              cases hj58
              exact hJ58 _ _ ls hP hD hS (lv_sub hl [0, 1, 2, 3, 4] rfl)
            · have hj58 := zz_if c54 hj58
              refine lv_aload_n hx hb dX2_foremost_47 rfl (lv_at hl 0 rfl) ?_
              refine va_get (ci := 1) (v := .ref a_t_ranks) (C := RX2) (T := TX2) (N := 6) hx hb hts in_X2_foremost_X2 hown hK hP 0 rfl rfl 2 (by decide) (hts _ lk_X2_foremost_2) (fun _ h9 => h9) rfl dX2_foremost_48 ?_
              refine lv_iload hx hb dX2_foremost_51 (lv_at hl 4 rfl) ?_
              obtain ⟨hi65, hj58⟩ := zz_chkE hj58
              refine va_iald hx hb hK hP 2 0 rfl rfl hi65 dX2_foremost_53 ?_
              refine lv_topi (fun x66 ex66 => ?_)
              have hj58 := zz_nmE ex66 hj58
              refine lv_istore_n (lv' := [(3, .int x66), (0, .ref a_t), (1, .int p1), (2, .int x43), (4, .int x45)]) hx hb dX2_foremost_54 rfl hl (by decide) rfl (fun ls hl => ?_)
              cases hj58
              exact hJ58 _ _ ls hP hD hS (lv_sub hl [1, 2, 3, 0, 4] rfl)
          · have hb45 := zz_if c53 hb45
            refine lv_goto (tgt := 78) hx hb dX2_foremost_38 (by decide) ?_
            obtain ⟨x67, ex67⟩ : ∃ z : Int32, z = x45 + 1 := ⟨_, rfl⟩
            have hb45 := zz_nmE ex67 hb45
            refine lv_iinc (v := x67) (lv' := [(4, .int x67), (0, .ref a_t), (1, .int p1), (2, .int x43), (3, .int x44)]) hx hb dX2_foremost_78 hl (k := 4) rfl (by rw [ex67]; rfl) (by decide) rfl (fun ls hl => ?_)
            refine lv_goto (tgt := 8) hx hb dX2_foremost_81 (by decide) ?_
            obtain rfl := Option.some.inj hb45
            exact ih45 x43 x44 x67 _ _ ls hy45 hP hD hS (lv_sub hl [1, 2, 3, 4, 0] rfl)
  exact hL45 zz_fuel 0 (-9) 0 _ _ ls hit45 hP hD hS (lv_sub hl [3, 4, 2, 1, 0] rfl)
theorem hd_X7_priceOf : yX7_priceOf.cls ≠ "java/lang/invoke/MethodHandle" ∧ yX7_priceOf.cls ≠ "java/lang/invoke/VarHandle" ∧ (parseMethodDescriptor yX7_priceOf.desc).map (fun d => d.parameters.length) = some 2 := by decide +kernel
set_option maxRecDepth 20000 in
theorem in_X7_priceOf_X7 : ∀ w ∈ u_ws RX7 TX7 5, w ∈ wsX7_priceOf := by decide +kernel
set_option maxRecDepth 20000 in
theorem lk_X7_priceOf_0 : Cond.fieldLink RX7 21 "TwoHousesOneChild$Wishes" "against" "[I" ∈ wsX7_priceOf := by decide +kernel
set_option maxHeartbeats 4000000 in
set_option maxRecDepth 100000 in
theorem ct_X7_priceOf (l : Launch) (dC : Nat → ClassId) (dI : Nat → Nat → Nat) (cI cJ cB cZ : ClassId) (a_t a_t_against : Nat) (t_longest : Int32) (t_perLong : Int32) (t_perHanding : Int32) (t_wants : Int32) (t_against : (Nat → Int32)) (p1 : Int32) (p2 : Int32) (rr : Int32) (u0 : Unit) (h : fn_X7_priceOf t_against p1 p2 = some (rr, u0)) : zz_M l yX7_priceOf wsX7_priceOf ({ frames := 0, cells := 0, slots := 0, locals := 0 }) (dC, dI) (zz_T cI cJ cB cZ) [.ref a_t, .int p1, .int p2] [(a_t, .inr (6, [.int t_longest, .int t_perLong, .int t_perHanding, .int t_wants, .ref a_t_against])), (a_t_against, .inl (cI, 112, .inl t_against))] (zz_QI (dC, dI) (zz_T cI cJ cB cZ) (rr, u0) (fun (u : Unit) => [(a_t, .inr (6, [.int t_longest, .int t_perLong, .int t_perHanding, .int t_wants, .ref a_t_against])), (a_t_against, .inl (cI, 112, .inl t_against))])) := by
  unfold fn_X7_priceOf at h
  refine zz_of (by decide) rfl (Nat.le_of_ble_eq_true rfl) ?_
  intro p e s m below meth c A ls hx hb hr hml hts hown hlocks hA hS hP hK hD hl
  have hown : s.vm.findClass RX7 = some m.cls := hown
  have hl : lv_has ls 4 [(0, .ref a_t), (1, .int p1), (2, .int p2)] := hl
  refine lv_iload_n hx hb dX7_priceOf_0 rfl (lv_at hl 2 rfl) ?_
  refine lv_bipush (v := 56) hx hb dX7_priceOf_1 (by decide) ?_
  refine lv_imul hx hb dX7_priceOf_3 ?_
  refine lv_iload_n hx hb dX7_priceOf_4 rfl (lv_at hl 1 rfl) ?_
  refine lv_iadd hx hb dX7_priceOf_5 ?_
  refine lv_topi (fun x1 ex1 => ?_)
  have h := zz_nmE ex1 h
  refine lv_istore_n (lv' := [(3, .int x1), (0, .ref a_t), (1, .int p1), (2, .int p2)]) hx hb dX7_priceOf_6 rfl hl (by decide) rfl (fun ls hl => ?_)
  refine lv_iload_n hx hb dX7_priceOf_7 rfl (lv_at hl 0 rfl) ?_
  refine lv_if_lt (tgt := 29) hx hb dX7_priceOf_8 (by decide) (fun c2 => ?_) (fun c2 => ?_)
  · have h := zz_if c2 h
    refine lv_iconst (v := 0) hx hb dX7_priceOf_29 (by decide) ?_
    exact zz_iret () hx hb hr hlocks dX7_priceOf_30 (Option.some.inj h) hP hK hD hS
  · have h := zz_ifn c2 h
    refine lv_iload_n hx hb dX7_priceOf_11 rfl (lv_at hl 0 rfl) ?_
    refine lv_aload_n hx hb dX7_priceOf_12 rfl (lv_at hl 1 rfl) ?_
    refine va_get (ci := 6) (v := .ref a_t_against) (C := RX7) (T := TX7) (N := 5) hx hb hts in_X7_priceOf_X7 hown hK hP 0 rfl rfl 4 (by decide) (hts _ lk_X7_priceOf_0) (fun _ h9 => h9) rfl dX7_priceOf_13 ?_
    refine va_alen (v := 112) hx hb hK hP 1 0 rfl rfl rfl dX7_priceOf_16 ?_
    refine lv_icmp_ge (tgt := 29) hx hb dX7_priceOf_17 (by decide) (fun c3 => ?_) (fun c3 => ?_)
    · have h := zz_if c3 h
      refine lv_iconst (v := 0) hx hb dX7_priceOf_29 (by decide) ?_
      exact zz_iret () hx hb hr hlocks dX7_priceOf_30 (Option.some.inj h) hP hK hD hS
    · have h := zz_ifn c3 h
      refine lv_aload_n hx hb dX7_priceOf_20 rfl (lv_at hl 1 rfl) ?_
      refine va_get (ci := 6) (v := .ref a_t_against) (C := RX7) (T := TX7) (N := 5) hx hb hts in_X7_priceOf_X7 hown hK hP 0 rfl rfl 4 (by decide) (hts _ lk_X7_priceOf_0) (fun _ h9 => h9) rfl dX7_priceOf_21 ?_
      refine lv_iload_n hx hb dX7_priceOf_24 rfl (lv_at hl 0 rfl) ?_
      obtain ⟨hi4, h⟩ := zz_chkE h
      refine va_iald hx hb hK hP 1 0 rfl rfl hi4 dX7_priceOf_25 ?_
      refine lv_goto (tgt := 30) hx hb dX7_priceOf_26 (by decide) ?_
      exact zz_iret () hx hb hr hlocks dX7_priceOf_30 (Option.some.inj h) hP hK hD hS
theorem hd_X3_priceWithin : yX3_priceWithin.cls ≠ "java/lang/invoke/MethodHandle" ∧ yX3_priceWithin.cls ≠ "java/lang/invoke/VarHandle" ∧ (parseMethodDescriptor yX3_priceWithin.desc).map (fun d => d.parameters.length) = some 4 := by decide +kernel
set_option maxRecDepth 20000 in
theorem lk_X3_priceWithin_0 : Cond.constant RX3 50 (1000000) ∈ wsX3_priceWithin := by decide +kernel
set_option maxHeartbeats 4000000 in
set_option maxRecDepth 100000 in
theorem ct_X3_priceWithin (l : Launch) (dC : Nat → ClassId) (dI : Nat → Nat → Nat) (cI cJ cB cZ : ClassId) (a_r0 a_r0_against : Nat) (r0_longest : Int32) (r0_perLong : Int32) (r0_perHanding : Int32) (r0_wants : Int32) (r0_against : (Nat → Int32)) (p1 : Int32) (p2 : Int32) (p3 : Int64) (rr : Int32) (u0 : Unit) (h : fn_X3_priceWithin r0_against p1 p2 p3 = some (rr, u0)) : zz_M l yX3_priceWithin wsX3_priceWithin ({ frames := 1, cells := 0, slots := 0, locals := 23 }) (dC, dI) (zz_T cI cJ cB cZ) [.ref a_r0, .int p1, .int p2, .long p3] [(a_r0, .inr (6, [.int r0_longest, .int r0_perLong, .int r0_perHanding, .int r0_wants, .ref a_r0_against])), (a_r0_against, .inl (cI, 112, .inl r0_against))] (zz_QI (dC, dI) (zz_T cI cJ cB cZ) (rr, u0) (fun (u : Unit) => [(a_r0, .inr (6, [.int r0_longest, .int r0_perLong, .int r0_perHanding, .int r0_wants, .ref a_r0_against])), (a_r0_against, .inl (cI, 112, .inl r0_against))])) := by
  unfold fn_X3_priceWithin at h
  refine zz_of (by decide) rfl (Nat.le_of_ble_eq_true rfl) ?_
  intro p e s m below meth c A ls hx hb hr hml hts hown hlocks hA hS hP hK hD hl
  have hown : s.vm.findClass RX3 = some m.cls := hown
  have hl : lv_has ls 5 [(0, .ref a_r0), (1, .int p1), (2, .int p2), (3, .long p3)] := hl
  refine lv_lload_n hx hb dX3_priceWithin_0 rfl (lv_at hl 3 rfl) ?_
  refine lv_iload_n hx hb dX3_priceWithin_1 rfl (lv_at hl 1 rfl) ?_
  obtain ⟨x1, u2, he3, h⟩ := zz_b2E h
  refine zz_PI (As := [.long p3, .int p1]) (rest := []) ⟨hx, hb, hml, hown, hts⟩ (ct_X1_holds l dC dI cI cJ cB cZ p3 p1 x1 u2 he3) gX3_priceWithin_X1_holds hd_X1_holds rfl rfl rfl ⟨Nat.le_of_ble_eq_true rfl, Nat.le_of_ble_eq_true rfl⟩ ⟨Nat.le_of_ble_eq_true rfl, Nat.le_of_ble_eq_true rfl⟩ rfl rfl (Nat.le_of_ble_eq_true rfl) dX3_priceWithin_2 hl.1 hP hK hS hA (fun H locs hP hS => ?_)
  refine lv_if_eq (tgt := 13) hx hb dX3_priceWithin_5 (by decide) (fun c4 => ?_) (fun c4 => ?_)
  · have h := zz_if c4 h
    refine lv_aload_n hx hb dX3_priceWithin_13 rfl (lv_at hl 0 rfl) ?_
    refine lv_iload_n hx hb dX3_priceWithin_14 rfl (lv_at hl 1 rfl) ?_
    refine lv_iload_n hx hb dX3_priceWithin_15 rfl (lv_at hl 2 rfl) ?_
    obtain ⟨x5, u6, he7, h⟩ := zz_b2E h
    refine zz_VI (q := (RX7, TX7, 5)) (As := [.int p1, .int p2]) (rest := []) (wr := []) (wm := [(a_r0, .inr (6, [.int r0_longest, .int r0_perLong, .int r0_perHanding, .int r0_wants, .ref a_r0_against])), (a_r0_against, .inl (cI, 112, .inl r0_against))]) ⟨hx, hb, hml, hown, hts⟩ (ct_X7_priceOf l dC dI cI cJ cB cZ a_r0 a_r0_against r0_longest r0_perLong r0_perHanding r0_wants r0_against p1 p2 x5 u6 he7) gX3_priceWithin_X7_priceOf hd_X7_priceOf rfl rfl rfl ⟨Nat.le_of_ble_eq_true rfl, Nat.le_of_ble_eq_true rfl⟩ ⟨Nat.le_of_ble_eq_true rfl, Nat.le_of_ble_eq_true rfl⟩ rfl rfl (Nat.le_of_ble_eq_true rfl) dX3_priceWithin_16 hl.1 rfl (ci := 6) rfl (q0 := 0) rfl hP hK hD hS hA [0, 1] [] [0, 1] rfl rfl (by decide) (by decide) (by decide) (by decide) rfl (fun H locs hP hD hS => ?_)
    exact zz_iret () hx hb hr hlocks dX3_priceWithin_19 (Option.some.inj h) hP hK hD hS
  · have h := zz_ifn c4 h
    refine lv_ldc (v := 1000000) hx hb hown (hts _ lk_X3_priceWithin_0) dX3_priceWithin_8 ?_
    refine lv_goto (tgt := 19) hx hb dX3_priceWithin_10 (by decide) ?_
    exact zz_iret () hx hb hr hlocks dX3_priceWithin_19 (Option.some.inj h) hP hK hD hS
theorem hd_X3_placeOf : yX3_placeOf.cls ≠ "java/lang/invoke/MethodHandle" ∧ yX3_placeOf.cls ≠ "java/lang/invoke/VarHandle" ∧ (parseMethodDescriptor yX3_placeOf.desc).map (fun d => d.parameters.length) = some 2 := by decide +kernel
set_option maxHeartbeats 4000000 in
set_option maxRecDepth 100000 in
theorem ct_X3_placeOf (l : Launch) (dC : Nat → ClassId) (dI : Nat → Nat → Nat) (cI cJ cB cZ : ClassId) (p0 : Int32) (p1 : Int32) (rr : Int32) (u0 : Unit) (h : fn_X3_placeOf p0 p1 = some (rr, u0)) : zz_M l yX3_placeOf wsX3_placeOf ({ frames := 0, cells := 0, slots := 0, locals := 0 }) (dC, dI) (zz_T cI cJ cB cZ) [.int p0, .int p1] [] (zz_QI (dC, dI) (zz_T cI cJ cB cZ) (rr, u0) (fun (u : Unit) => [])) := by
  unfold fn_X3_placeOf at h
  refine zz_of (by decide) rfl (Nat.le_of_ble_eq_true rfl) ?_
  intro p e s m below meth c A ls hx hb hr hml hts hown hlocks hA hS hP hK hD hl
  have hown : s.vm.findClass RX3 = some m.cls := hown
  have hl : lv_has ls 2 [(0, .int p0), (1, .int p1)] := hl
  refine lv_iload_n hx hb dX3_placeOf_0 rfl (lv_at hl 0 rfl) ?_
  refine lv_bipush (v := 15) hx hb dX3_placeOf_1 (by decide) ?_
  refine lv_imul hx hb dX3_placeOf_3 ?_
  refine lv_iload_n hx hb dX3_placeOf_4 rfl (lv_at hl 1 rfl) ?_
  refine lv_iadd hx hb dX3_placeOf_5 ?_
  exact zz_iret () hx hb hr hlocks dX3_placeOf_6 (Option.some.inj h) hP hK hD hS
theorem hd_X3_stepAhead : yX3_stepAhead.cls ≠ "java/lang/invoke/MethodHandle" ∧ yX3_stepAhead.cls ≠ "java/lang/invoke/VarHandle" ∧ (parseMethodDescriptor yX3_stepAhead.desc).map (fun d => d.parameters.length) = some 4 := by decide +kernel
set_option maxRecDepth 20000 in
theorem in_X3_stepAhead_X3 : ∀ w ∈ u_ws RX3 TX3 4, w ∈ wsX3_stepAhead := by decide +kernel
set_option maxRecDepth 20000 in
theorem in_X3_stepAhead_X7 : ∀ w ∈ u_ws RX7 TX7 5, w ∈ wsX3_stepAhead := by decide +kernel
set_option maxRecDepth 20000 in
theorem lk_X3_stepAhead_0 : Cond.fieldLink RX3 11 "TwoHousesOneChild$Planner" "costBehind" "[I" ∈ wsX3_stepAhead := by decide +kernel
set_option maxRecDepth 20000 in
theorem lk_X3_stepAhead_1 : Cond.fieldLink RX3 15 "TwoHousesOneChild$Planner" "planBehind" "[J" ∈ wsX3_stepAhead := by decide +kernel
set_option maxRecDepth 20000 in
theorem lk_X3_stepAhead_2 : Cond.fieldLink RX3 56 "TwoHousesOneChild$Wishes" "longest" "I" ∈ wsX3_stepAhead := by decide +kernel
set_option maxRecDepth 20000 in
theorem lk_X3_stepAhead_3 : Cond.initialized "java/lang/Math" ∈ wsX3_stepAhead := by decide +kernel
set_option maxRecDepth 20000 in
theorem lk_X3_stepAhead_4 : Cond.methodLink RX3 31 Lib.Math.min.name ∈ wsX3_stepAhead := by decide +kernel
set_option maxRecDepth 20000 in
theorem lk_X3_stepAhead_5 : Cond.static Lib.Math.min.name ∈ wsX3_stepAhead := by decide +kernel
set_option maxRecDepth 20000 in
theorem lk_X3_stepAhead_6 : Cond.code Lib.Math.min.name Lib.Math.min.code 2 (some .int) ∈ wsX3_stepAhead := by decide +kernel
set_option maxRecDepth 20000 in
theorem lk_X3_stepAhead_7 : Cond.methodLink RX3 59 Lib.Math.max.name ∈ wsX3_stepAhead := by decide +kernel
set_option maxRecDepth 20000 in
theorem lk_X3_stepAhead_8 : Cond.static Lib.Math.max.name ∈ wsX3_stepAhead := by decide +kernel
set_option maxRecDepth 20000 in
theorem lk_X3_stepAhead_9 : Cond.code Lib.Math.max.name Lib.Math.max.code 2 (some .int) ∈ wsX3_stepAhead := by decide +kernel
set_option maxRecDepth 20000 in
theorem lk_X3_stepAhead_10 : Cond.fieldLink RX3 62 "TwoHousesOneChild$Wishes" "perLong" "I" ∈ wsX3_stepAhead := by decide +kernel
set_option maxRecDepth 20000 in
theorem lk_X3_stepAhead_11 : Cond.fieldLink RX3 65 "TwoHousesOneChild$Wishes" "perHanding" "I" ∈ wsX3_stepAhead := by decide +kernel
set_option maxHeartbeats 4000000 in
set_option maxRecDepth 100000 in
theorem ct_X3_stepAhead (l : Launch) (dC : Nat → ClassId) (dI : Nat → Nat → Nat) (cI cJ cB cZ : ClassId) (a_r1 a_t a_t_costBehind a_t_planBehind a_r1_against : Nat) (r1_longest : Int32) (r1_perLong : Int32) (r1_perHanding : Int32) (r1_wants : Int32) (t_leastCost : Int32) (t_bestPlan : Int64) (t_costBehind : (Nat → Int32)) (t_planBehind : (Nat → Int64)) (p2 : Int32) (p3 : Int32) (p4 : Int32) (o1 : (Nat → Int32)) (o2 : (Nat → Int64)) (h : fn_X3_stepAhead r1_longest r1_perLong r1_perHanding t_costBehind t_planBehind p2 p3 p4 = some (o1, o2)) : zz_M l yX3_stepAhead wsX3_stepAhead ({ frames := 1, cells := 0, slots := 0, locals := 21 }) (dC, dI) (zz_T cI cJ cB cZ) [.ref a_t, .ref a_r1, .int p2, .int p3, .int p4] [(a_r1, .inr (6, [.int r1_longest, .int r1_perLong, .int r1_perHanding, .int r1_wants, .ref a_r1_against])), (a_t, .inr (2, [.ref a_t_costBehind, .ref a_t_planBehind, .int t_leastCost, .long t_bestPlan])), (a_t_costBehind, .inl (cI, 30, .inl t_costBehind)), (a_t_planBehind, .inl (cJ, 30, .inr (.inl t_planBehind)))] (zz_QV (dC, dI) (zz_T cI cJ cB cZ) (o1, o2) (fun (u : (Nat → Int32) × (Nat → Int64)) => [(a_r1, .inr (6, [.int r1_longest, .int r1_perLong, .int r1_perHanding, .int r1_wants, .ref a_r1_against])), (a_t, .inr (2, [.ref a_t_costBehind, .ref a_t_planBehind, .int t_leastCost, .long t_bestPlan])), (a_t_costBehind, .inl (cI, 30, .inl u.1)), (a_t_planBehind, .inl (cJ, 30, .inr (.inl u.2)))])) := by
  unfold fn_X3_stepAhead at h
  refine zz_of (by decide) rfl (Nat.le_of_ble_eq_true rfl) ?_
  intro p e s m below meth c A ls hx hb hr hml hts hown hlocks hA hS hP hK hD hl
  have hown : s.vm.findClass RX3 = some m.cls := hown
  have hl : lv_has ls 23 [(0, .ref a_t), (1, .ref a_r1), (2, .int p2), (3, .int p3), (4, .int p4)] := hl
  refine lv_iload_n hx hb dX3_stepAhead_0 rfl (lv_at hl 3 rfl) ?_
  refine lv_aload_n hx hb dX3_stepAhead_1 rfl (lv_at hl 0 rfl) ?_
  refine va_get (ci := 2) (v := .ref a_t_costBehind) (C := RX3) (T := TX3) (N := 4) hx hb hts in_X3_stepAhead_X3 hown hK hP 1 rfl rfl 0 (by decide) (hts _ lk_X3_stepAhead_0) (fun _ h9 => h9) rfl dX3_stepAhead_2 ?_
  refine lv_iconst (v := 0) hx hb dX3_stepAhead_5 (by decide) ?_
  refine lv_iconst (v := 1) hx hb dX3_stepAhead_6 (by decide) ?_
  obtain ⟨x1, u2, he3, h⟩ := zz_b2E h
  refine zz_PI (As := [.int 0, .int 1]) (rest := [.ref a_t_costBehind, .int p3]) ⟨hx, hb, hml, hown, hts⟩ (ct_X3_placeOf l dC dI cI cJ cB cZ (0 : Int32) (1 : Int32) x1 u2 he3) gX3_stepAhead_X3_placeOf hd_X3_placeOf rfl rfl rfl ⟨Nat.le_of_ble_eq_true rfl, Nat.le_of_ble_eq_true rfl⟩ ⟨Nat.le_of_ble_eq_true rfl, Nat.le_of_ble_eq_true rfl⟩ rfl rfl (Nat.le_of_ble_eq_true rfl) dX3_stepAhead_7 hl.1 hP hK hS hA (fun H locs hP hS => ?_)
  obtain ⟨hi4, h⟩ := zz_chkE h
  refine va_iald hx hb hK hP 2 0 rfl rfl hi4 dX3_stepAhead_10 ?_
  refine lv_iadd hx hb dX3_stepAhead_11 ?_
  refine lv_topi (fun x5 ex5 => ?_)
  have h := zz_nmE ex5 h
  refine lv_istore (lv' := [(5, .int x5), (0, .ref a_t), (1, .ref a_r1), (2, .int p2), (3, .int p3), (4, .int p4)]) hx hb dX3_stepAhead_12 hl (by decide) rfl (fun ls hl => ?_)
  refine lv_iload hx hb dX3_stepAhead_14 (lv_at hl 5 rfl) ?_
  refine lv_aload_n hx hb dX3_stepAhead_16 rfl (lv_at hl 1 rfl) ?_
  refine va_get (ci := 2) (v := .ref a_t_costBehind) (C := RX3) (T := TX3) (N := 4) hx hb hts in_X3_stepAhead_X3 hown hK hP 1 rfl rfl 0 (by decide) (hts _ lk_X3_stepAhead_0) (fun _ h9 => h9) rfl dX3_stepAhead_17 ?_
  refine lv_iconst (v := 1) hx hb dX3_stepAhead_20 (by decide) ?_
  refine lv_iconst (v := 1) hx hb dX3_stepAhead_21 (by decide) ?_
  obtain ⟨x6, u7, he8, h⟩ := zz_b2E h
  refine zz_PI (As := [.int 1, .int 1]) (rest := [.ref a_t_costBehind, .int p4]) ⟨hx, hb, hml, hown, hts⟩ (ct_X3_placeOf l dC dI cI cJ cB cZ (1 : Int32) (1 : Int32) x6 u7 he8) gX3_stepAhead_X3_placeOf hd_X3_placeOf rfl rfl rfl ⟨Nat.le_of_ble_eq_true rfl, Nat.le_of_ble_eq_true rfl⟩ ⟨Nat.le_of_ble_eq_true rfl, Nat.le_of_ble_eq_true rfl⟩ rfl rfl (Nat.le_of_ble_eq_true rfl) dX3_stepAhead_22 hl.1 hP hK hS hA (fun H locs hP hS => ?_)
  obtain ⟨hi9, h⟩ := zz_chkE h
  refine va_iald hx hb hK hP 2 0 rfl rfl hi9 dX3_stepAhead_25 ?_
  refine lv_iadd hx hb dX3_stepAhead_26 ?_
  refine lv_topi (fun x10 ex10 => ?_)
  have h := zz_nmE ex10 h
  refine lv_istore (lv' := [(6, .int x10), (5, .int x5), (0, .ref a_t), (1, .ref a_r1), (2, .int p2), (3, .int p3), (4, .int p4)]) hx hb dX3_stepAhead_27 hl (by decide) rfl (fun ls hl => ?_)
  refine lv_aload_n hx hb dX3_stepAhead_29 rfl (lv_at hl 2 rfl) ?_
  refine va_get (ci := 2) (v := .ref a_t_planBehind) (C := RX3) (T := TX3) (N := 4) hx hb hts in_X3_stepAhead_X3 hown hK hP 1 rfl rfl 1 (by decide) (hts _ lk_X3_stepAhead_1) (fun _ h9 => h9) rfl dX3_stepAhead_30 ?_
  refine lv_iconst (v := 0) hx hb dX3_stepAhead_33 (by decide) ?_
  refine lv_iconst (v := 1) hx hb dX3_stepAhead_34 (by decide) ?_
  obtain ⟨x11, u12, he13, h⟩ := zz_b2E h
  refine zz_PI (As := [.int 0, .int 1]) (rest := [.ref a_t_planBehind]) ⟨hx, hb, hml, hown, hts⟩ (ct_X3_placeOf l dC dI cI cJ cB cZ (0 : Int32) (1 : Int32) x11 u12 he13) gX3_stepAhead_X3_placeOf hd_X3_placeOf rfl rfl rfl ⟨Nat.le_of_ble_eq_true rfl, Nat.le_of_ble_eq_true rfl⟩ ⟨Nat.le_of_ble_eq_true rfl, Nat.le_of_ble_eq_true rfl⟩ rfl rfl (Nat.le_of_ble_eq_true rfl) dX3_stepAhead_35 hl.1 hP hK hS hA (fun H locs hP hS => ?_)
  obtain ⟨hi14, h⟩ := zz_chkE h
  refine va_lald hx hb hK hP 3 1 rfl rfl hi14 dX3_stepAhead_38 ?_
  refine lv_topl (fun x15 ex15 => ?_)
  have h := zz_nmE ex15 h
  refine lv_lstore (lv' := [(7, .long x15), (6, .int x10), (5, .int x5), (0, .ref a_t), (1, .ref a_r1), (2, .int p2), (3, .int p3), (4, .int p4)]) hx hb dX3_stepAhead_39 hl (by decide) rfl (fun ls hl => ?_)
  refine lv_aload_n hx hb dX3_stepAhead_41 rfl (lv_at hl 3 rfl) ?_
  refine va_get (ci := 2) (v := .ref a_t_planBehind) (C := RX3) (T := TX3) (N := 4) hx hb hts in_X3_stepAhead_X3 hown hK hP 1 rfl rfl 1 (by decide) (hts _ lk_X3_stepAhead_1) (fun _ h9 => h9) rfl dX3_stepAhead_42 ?_
  refine lv_iconst (v := 1) hx hb dX3_stepAhead_45 (by decide) ?_
  refine lv_iconst (v := 1) hx hb dX3_stepAhead_46 (by decide) ?_
  obtain ⟨x16, u17, he18, h⟩ := zz_b2E h
  refine zz_PI (As := [.int 1, .int 1]) (rest := [.ref a_t_planBehind]) ⟨hx, hb, hml, hown, hts⟩ (ct_X3_placeOf l dC dI cI cJ cB cZ (1 : Int32) (1 : Int32) x16 u17 he18) gX3_stepAhead_X3_placeOf hd_X3_placeOf rfl rfl rfl ⟨Nat.le_of_ble_eq_true rfl, Nat.le_of_ble_eq_true rfl⟩ ⟨Nat.le_of_ble_eq_true rfl, Nat.le_of_ble_eq_true rfl⟩ rfl rfl (Nat.le_of_ble_eq_true rfl) dX3_stepAhead_47 hl.1 hP hK hS hA (fun H locs hP hS => ?_)
  obtain ⟨hi19, h⟩ := zz_chkE h
  refine va_lald hx hb hK hP 3 1 rfl rfl hi19 dX3_stepAhead_50 ?_
  refine lv_lconst (v := 1) hx hb dX3_stepAhead_51 (by decide) ?_
  refine lv_iload_n hx hb dX3_stepAhead_52 rfl (lv_at hl 5 rfl) ?_
  refine lv_lshl (v := (1 : Int64) <<< (p2.toInt64 &&& 63)) hx hb dX3_stepAhead_53 rfl ?_
  refine lv_lor hx hb dX3_stepAhead_54 ?_
  refine lv_topl (fun x20 ex20 => ?_)
  have h := zz_nmE ex20 h
  refine lv_lstore (lv' := [(9, .long x20), (7, .long x15), (6, .int x10), (5, .int x5), (0, .ref a_t), (1, .ref a_r1), (2, .int p2), (3, .int p3), (4, .int p4)]) hx hb dX3_stepAhead_55 hl (by decide) rfl (fun ls hl => ?_)
  refine lv_iconst (v := 1) hx hb dX3_stepAhead_57 (by decide) ?_
  refine lv_aload_n hx hb dX3_stepAhead_58 rfl (lv_at hl 5 rfl) ?_
  refine va_get (ci := 6) (v := .int r1_longest) (C := RX7) (T := TX7) (N := 5) hx hb hts in_X3_stepAhead_X7 hown hK hP 0 rfl rfl 0 (by decide) (hts _ lk_X3_stepAhead_2) (fun _ h9 => h9) rfl dX3_stepAhead_59 ?_
  refine lv_bipush (v := 14) hx hb dX3_stepAhead_62 (by decide) ?_
  refine va_mmin hx hb (hml.trans hl.1.symm) hown (hts _ lk_X3_stepAhead_4) (hts _ lk_X3_stepAhead_5) (hts _ lk_X3_stepAhead_3) (hts _ lk_X3_stepAhead_6) (Nat.le_of_ble_eq_true rfl) (Nat.le_of_ble_eq_true rfl) (Nat.le_of_ble_eq_true rfl) (Nat.le_of_ble_eq_true rfl) dX3_stepAhead_64 ?_
  refine va_mmax hx hb (hml.trans hl.1.symm) hown (hts _ lk_X3_stepAhead_7) (hts _ lk_X3_stepAhead_8) (hts _ lk_X3_stepAhead_3) (hts _ lk_X3_stepAhead_9) (Nat.le_of_ble_eq_true rfl) (Nat.le_of_ble_eq_true rfl) (Nat.le_of_ble_eq_true rfl) (Nat.le_of_ble_eq_true rfl) dX3_stepAhead_67 ?_
  refine lv_topi (fun x21 ex21 => ?_)
  have h := zz_nmE ex21 h
  refine lv_istore (lv' := [(11, .int x21), (9, .long x20), (7, .long x15), (6, .int x10), (5, .int x5), (0, .ref a_t), (1, .ref a_r1), (2, .int p2), (3, .int p3), (4, .int p4)]) hx hb dX3_stepAhead_70 hl (by decide) rfl (fun ls hl => ?_)
  refine lv_iconst (v := 1) hx hb dX3_stepAhead_72 (by decide) ?_
  refine lv_istore (lv' := [(12, .int 1), (11, .int x21), (9, .long x20), (7, .long x15), (6, .int x10), (5, .int x5), (0, .ref a_t), (1, .ref a_r1), (2, .int p2), (3, .int p3), (4, .int p4)]) hx hb dX3_stepAhead_73 hl (by decide) rfl (fun ls hl => ?_)
  obtain ⟨g149, g150, hit148, h⟩ := zz_b2E h
  refine zz_cut (fun V => ∀ (H : Heap) (locs : List Loc) (ls : Array Slot), va_P (dC, dI) vwCl [(a_r1, .inr (6, [.int r1_longest, .int r1_perLong, .int r1_perHanding, .int r1_wants, .ref a_r1_against])), (a_t, .inr (2, [.ref a_t_costBehind, .ref a_t_planBehind, .int t_leastCost, .long t_bestPlan])), (a_t_costBehind, .inl (cI, 30, .inl g149)), (a_t_planBehind, .inl (cJ, 30, .inr (.inl g150)))] H → va_D A [(a_r1, .inr (6, [.int r1_longest, .int r1_perLong, .int r1_perHanding, .int r1_wants, .ref a_r1_against])), (a_t, .inr (2, [.ref a_t_costBehind, .ref a_t_planBehind, .int t_leastCost, .long t_bestPlan])), (a_t_costBehind, .inl (cI, 30, .inl g149)), (a_t_planBehind, .inl (cJ, 30, .inr (.inl g150)))] → va_S A s.heap H locs → lv_has ls 23 [] → V H locs (F0 m 319 ls [])) ?_ (fun hE148 => ?_)
  · intro H locs ls hP hD hS hl
    exact zz_vret (g149, g150) hx hb hr hlocks dX3_stepAhead_319 (Option.some.inj h) hP hK hD hS
  refine zz_cut (fun V => ∀ (n : Nat) (x146 : Int32) (g147 : (Nat → Int32)) (g148 : (Nat → Int64)) (H : Heap) (locs : List Loc) (ls : Array Slot), zz_it (fun z => fb_X3_stepAhead_75 p2 p3 p4 x5 x10 x15 x20 r1_perLong r1_perHanding x21 z.1 z.2.1 z.2.2) n (x146, g147, g148) = some (g149, g150) → va_P (dC, dI) vwCl [(a_r1, .inr (6, [.int r1_longest, .int r1_perLong, .int r1_perHanding, .int r1_wants, .ref a_r1_against])), (a_t, .inr (2, [.ref a_t_costBehind, .ref a_t_planBehind, .int t_leastCost, .long t_bestPlan])), (a_t_costBehind, .inl (cI, 30, .inl g147)), (a_t_planBehind, .inl (cJ, 30, .inr (.inl g148)))] H → va_D A [(a_r1, .inr (6, [.int r1_longest, .int r1_perLong, .int r1_perHanding, .int r1_wants, .ref a_r1_against])), (a_t, .inr (2, [.ref a_t_costBehind, .ref a_t_planBehind, .int t_leastCost, .long t_bestPlan])), (a_t_costBehind, .inl (cI, 30, .inl g147)), (a_t_planBehind, .inl (cJ, 30, .inr (.inl g148)))] → va_S A s.heap H locs → lv_has ls 23 [(0, .ref a_t), (1, .ref a_r1), (2, .int p2), (3, .int p3), (4, .int p4), (5, .int x5), (6, .int x10), (7, .long x15), (9, .long x20), (11, .int x21), (12, .int x146)] → V H locs (F0 m 75 ls [])) ?_ (fun hL148 => ?_)
  · intro n
    induction n with
    | zero => intro x146 g147 g148 H locs ls hit148; exact (zz_it0 hit148).elim
    | succ n ih148 =>
      intro x146 g147 g148 H locs ls hit148 hP hD hS hl
      obtain ⟨y148, hb148, hy148⟩ := zz_itE hit148
      have hb148 : fb_X3_stepAhead_75 p2 p3 p4 x5 x10 x15 x20 r1_perLong r1_perHanding x21 x146 g147 g148 = some y148 := hb148
      unfold fb_X3_stepAhead_75 at hb148
      refine lv_iload hx hb dX3_stepAhead_75 (lv_at hl 10 rfl) ?_
      refine lv_iload hx hb dX3_stepAhead_77 (lv_at hl 9 rfl) ?_
      refine lv_icmp_gt (tgt := 319) hx hb dX3_stepAhead_79 (by decide) (fun c151 => ?_) (fun c151 => ?_)
      · have hb148 := zz_if c151 hb148
        obtain rfl := Option.some.inj hb148
        have hy148 := Option.some.inj hy148
        cases hy148
        exact hE148 _ _ ls hP hD hS (lv_sub hl [] rfl)
      · have hb148 := zz_ifn c151 hb148
        refine lv_iload hx hb dX3_stepAhead_82 (lv_at hl 10 rfl) ?_
        refine lv_iconst (v := 1) hx hb dX3_stepAhead_84 (by decide) ?_
        refine lv_iadd hx hb dX3_stepAhead_85 ?_
        refine lv_iload hx hb dX3_stepAhead_86 (lv_at hl 9 rfl) ?_
        refine va_mmin hx hb (hml.trans hl.1.symm) hown (hts _ lk_X3_stepAhead_4) (hts _ lk_X3_stepAhead_5) (hts _ lk_X3_stepAhead_3) (hts _ lk_X3_stepAhead_6) (Nat.le_of_ble_eq_true rfl) (Nat.le_of_ble_eq_true rfl) (Nat.le_of_ble_eq_true rfl) (Nat.le_of_ble_eq_true rfl) dX3_stepAhead_88 ?_
        refine lv_topi (fun x152 ex152 => ?_)
        have hb148 := zz_nmE ex152 hb148
        refine lv_istore (lv' := [(13, .int x152), (0, .ref a_t), (1, .ref a_r1), (2, .int p2), (3, .int p3), (4, .int p4), (5, .int x5), (6, .int x10), (7, .long x15), (9, .long x20), (11, .int x21), (12, .int x146)]) hx hb dX3_stepAhead_91 hl (by decide) rfl (fun ls hl => ?_)
        refine lv_iload hx hb dX3_stepAhead_93 (lv_at hl 11 rfl) ?_
        refine lv_iload hx hb dX3_stepAhead_95 (lv_at hl 10 rfl) ?_
        obtain ⟨x154, hj155, hb148⟩ := zz_b1E hb148
        refine zz_cut (fun V => ∀ (H : Heap) (locs : List Loc) (ls : Array Slot), va_P (dC, dI) vwCl [(a_r1, .inr (6, [.int r1_longest, .int r1_perLong, .int r1_perHanding, .int r1_wants, .ref a_r1_against])), (a_t, .inr (2, [.ref a_t_costBehind, .ref a_t_planBehind, .int t_leastCost, .long t_bestPlan])), (a_t_costBehind, .inl (cI, 30, .inl g147)), (a_t_planBehind, .inl (cJ, 30, .inr (.inl g148)))] H → va_D A [(a_r1, .inr (6, [.int r1_longest, .int r1_perLong, .int r1_perHanding, .int r1_wants, .ref a_r1_against])), (a_t, .inr (2, [.ref a_t_costBehind, .ref a_t_planBehind, .int t_leastCost, .long t_bestPlan])), (a_t_costBehind, .inl (cI, 30, .inl g147)), (a_t_planBehind, .inl (cJ, 30, .inr (.inl g148)))] → va_S A s.heap H locs → lv_has ls 23 [(0, .ref a_t), (1, .ref a_r1), (2, .int p2), (3, .int p3), (4, .int p4), (5, .int x5), (6, .int x10), (7, .long x15), (9, .long x20), (11, .int x21), (12, .int x146), (13, .int x152)] → V H locs (F0 m 108 ls [.int x154])) ?_ (fun hJ155 => ?_)
        · intro H locs ls hP hD hS hl
          refine lv_istore (lv' := [(14, .int x154), (0, .ref a_t), (1, .ref a_r1), (2, .int p2), (3, .int p3), (4, .int p4), (5, .int x5), (6, .int x10), (7, .long x15), (9, .long x20), (11, .int x21), (12, .int x146), (13, .int x152)]) hx hb dX3_stepAhead_108 hl (by decide) rfl (fun ls hl => ?_)
          refine lv_iconst (v := 0) hx hb dX3_stepAhead_110 (by decide) ?_
          refine lv_iload hx hb dX3_stepAhead_111 (lv_at hl 11 rfl) ?_
          obtain ⟨x156, u157, he158, hb148⟩ := zz_b2E hb148
          refine zz_PI (As := [.int 0, .int x146]) (rest := []) ⟨hx, hb, hml, hown, hts⟩ (ct_X3_placeOf l dC dI cI cJ cB cZ (0 : Int32) x146 x156 u157 he158) gX3_stepAhead_X3_placeOf hd_X3_placeOf rfl rfl rfl ⟨Nat.le_of_ble_eq_true rfl, Nat.le_of_ble_eq_true rfl⟩ ⟨Nat.le_of_ble_eq_true rfl, Nat.le_of_ble_eq_true rfl⟩ rfl rfl (Nat.le_of_ble_eq_true rfl) dX3_stepAhead_113 hl.1 hP hK hS hA (fun H locs hP hS => ?_)
          refine lv_istore (lv' := [(15, .int x156), (14, .int x154), (0, .ref a_t), (1, .ref a_r1), (2, .int p2), (3, .int p3), (4, .int p4), (5, .int x5), (6, .int x10), (7, .long x15), (9, .long x20), (11, .int x21), (12, .int x146), (13, .int x152)]) hx hb dX3_stepAhead_116 hl (by decide) rfl (fun ls hl => ?_)
          refine lv_iconst (v := 1) hx hb dX3_stepAhead_118 (by decide) ?_
          refine lv_iload hx hb dX3_stepAhead_119 (lv_at hl 12 rfl) ?_
          obtain ⟨x159, u160, he161, hb148⟩ := zz_b2E hb148
          refine zz_PI (As := [.int 1, .int x146]) (rest := []) ⟨hx, hb, hml, hown, hts⟩ (ct_X3_placeOf l dC dI cI cJ cB cZ (1 : Int32) x146 x159 u160 he161) gX3_stepAhead_X3_placeOf hd_X3_placeOf rfl rfl rfl ⟨Nat.le_of_ble_eq_true rfl, Nat.le_of_ble_eq_true rfl⟩ ⟨Nat.le_of_ble_eq_true rfl, Nat.le_of_ble_eq_true rfl⟩ rfl rfl (Nat.le_of_ble_eq_true rfl) dX3_stepAhead_121 hl.1 hP hK hS hA (fun H locs hP hS => ?_)
          refine lv_istore (lv' := [(16, .int x159), (15, .int x156), (14, .int x154), (0, .ref a_t), (1, .ref a_r1), (2, .int p2), (3, .int p3), (4, .int p4), (5, .int x5), (6, .int x10), (7, .long x15), (9, .long x20), (11, .int x21), (12, .int x146), (13, .int x152)]) hx hb dX3_stepAhead_124 hl (by decide) rfl (fun ls hl => ?_)
          refine lv_iload_n hx hb dX3_stepAhead_126 rfl (lv_at hl 6 rfl) ?_
          refine lv_iload hx hb dX3_stepAhead_127 (lv_at hl 2 rfl) ?_
          refine lv_iadd hx hb dX3_stepAhead_129 ?_
          refine lv_aload_n hx hb dX3_stepAhead_130 rfl (lv_at hl 3 rfl) ?_
          refine va_get (ci := 2) (v := .ref a_t_costBehind) (C := RX3) (T := TX3) (N := 4) hx hb hts in_X3_stepAhead_X3 hown hK hP 1 rfl rfl 0 (by decide) (hts _ lk_X3_stepAhead_0) (fun _ h9 => h9) rfl dX3_stepAhead_131 ?_
          refine lv_iconst (v := 0) hx hb dX3_stepAhead_134 (by decide) ?_
          refine lv_iload hx hb dX3_stepAhead_135 (lv_at hl 14 rfl) ?_
          obtain ⟨x162, u163, he164, hb148⟩ := zz_b2E hb148
          refine zz_PI (As := [.int 0, .int x152]) (rest := [.ref a_t_costBehind, .int (p3 + x154)]) ⟨hx, hb, hml, hown, hts⟩ (ct_X3_placeOf l dC dI cI cJ cB cZ (0 : Int32) x152 x162 u163 he164) gX3_stepAhead_X3_placeOf hd_X3_placeOf rfl rfl rfl ⟨Nat.le_of_ble_eq_true rfl, Nat.le_of_ble_eq_true rfl⟩ ⟨Nat.le_of_ble_eq_true rfl, Nat.le_of_ble_eq_true rfl⟩ rfl rfl (Nat.le_of_ble_eq_true rfl) dX3_stepAhead_137 hl.1 hP hK hS hA (fun H locs hP hS => ?_)
          obtain ⟨hi165, hb148⟩ := zz_chkE hb148
          refine va_iald hx hb hK hP 2 0 rfl rfl hi165 dX3_stepAhead_140 ?_
          refine lv_iadd hx hb dX3_stepAhead_141 ?_
          refine lv_topi (fun x166 ex166 => ?_)
          have hb148 := zz_nmE ex166 hb148
          refine lv_istore (lv' := [(17, .int x166), (16, .int x159), (15, .int x156), (14, .int x154), (0, .ref a_t), (1, .ref a_r1), (2, .int p2), (3, .int p3), (4, .int p4), (5, .int x5), (6, .int x10), (7, .long x15), (9, .long x20), (11, .int x21), (12, .int x146), (13, .int x152)]) hx hb dX3_stepAhead_142 hl (by decide) rfl (fun ls hl => ?_)
          refine lv_iload hx hb dX3_stepAhead_144 (lv_at hl 8 rfl) ?_
          refine lv_iload hx hb dX3_stepAhead_146 (lv_at hl 3 rfl) ?_
          refine lv_iadd hx hb dX3_stepAhead_148 ?_
          refine lv_aload_n hx hb dX3_stepAhead_149 rfl (lv_at hl 4 rfl) ?_
          refine va_get (ci := 2) (v := .ref a_t_costBehind) (C := RX3) (T := TX3) (N := 4) hx hb hts in_X3_stepAhead_X3 hown hK hP 1 rfl rfl 0 (by decide) (hts _ lk_X3_stepAhead_0) (fun _ h9 => h9) rfl dX3_stepAhead_150 ?_
          refine lv_iconst (v := 1) hx hb dX3_stepAhead_153 (by decide) ?_
          refine lv_iload hx hb dX3_stepAhead_154 (lv_at hl 15 rfl) ?_
          obtain ⟨x167, u168, he169, hb148⟩ := zz_b2E hb148
          refine zz_PI (As := [.int 1, .int x152]) (rest := [.ref a_t_costBehind, .int (p4 + x154)]) ⟨hx, hb, hml, hown, hts⟩ (ct_X3_placeOf l dC dI cI cJ cB cZ (1 : Int32) x152 x167 u168 he169) gX3_stepAhead_X3_placeOf hd_X3_placeOf rfl rfl rfl ⟨Nat.le_of_ble_eq_true rfl, Nat.le_of_ble_eq_true rfl⟩ ⟨Nat.le_of_ble_eq_true rfl, Nat.le_of_ble_eq_true rfl⟩ rfl rfl (Nat.le_of_ble_eq_true rfl) dX3_stepAhead_156 hl.1 hP hK hS hA (fun H locs hP hS => ?_)
          obtain ⟨hi170, hb148⟩ := zz_chkE hb148
          refine va_iald hx hb hK hP 2 0 rfl rfl hi170 dX3_stepAhead_159 ?_
          refine lv_iadd hx hb dX3_stepAhead_160 ?_
          refine lv_topi (fun x171 ex171 => ?_)
          have hb148 := zz_nmE ex171 hb148
          refine lv_istore (lv' := [(18, .int x171), (17, .int x166), (16, .int x159), (15, .int x156), (14, .int x154), (0, .ref a_t), (1, .ref a_r1), (2, .int p2), (3, .int p3), (4, .int p4), (5, .int x5), (6, .int x10), (7, .long x15), (9, .long x20), (11, .int x21), (12, .int x146), (13, .int x152)]) hx hb dX3_stepAhead_161 hl (by decide) rfl (fun ls hl => ?_)
          refine lv_aload_n hx hb dX3_stepAhead_163 rfl (lv_at hl 5 rfl) ?_
          refine va_get (ci := 2) (v := .ref a_t_planBehind) (C := RX3) (T := TX3) (N := 4) hx hb hts in_X3_stepAhead_X3 hown hK hP 1 rfl rfl 1 (by decide) (hts _ lk_X3_stepAhead_1) (fun _ h9 => h9) rfl dX3_stepAhead_164 ?_
          refine lv_iconst (v := 1) hx hb dX3_stepAhead_167 (by decide) ?_
          refine lv_iload hx hb dX3_stepAhead_168 (lv_at hl 16 rfl) ?_
          obtain ⟨x172, u173, he174, hb148⟩ := zz_b2E hb148
          refine zz_PI (As := [.int 1, .int x152]) (rest := [.ref a_t_planBehind]) ⟨hx, hb, hml, hown, hts⟩ (ct_X3_placeOf l dC dI cI cJ cB cZ (1 : Int32) x152 x172 u173 he174) gX3_stepAhead_X3_placeOf hd_X3_placeOf rfl rfl rfl ⟨Nat.le_of_ble_eq_true rfl, Nat.le_of_ble_eq_true rfl⟩ ⟨Nat.le_of_ble_eq_true rfl, Nat.le_of_ble_eq_true rfl⟩ rfl rfl (Nat.le_of_ble_eq_true rfl) dX3_stepAhead_170 hl.1 hP hK hS hA (fun H locs hP hS => ?_)
          obtain ⟨hi175, hb148⟩ := zz_chkE hb148
          refine va_lald hx hb hK hP 3 1 rfl rfl hi175 dX3_stepAhead_173 ?_
          refine lv_lconst (v := 1) hx hb dX3_stepAhead_174 (by decide) ?_
          refine lv_iload_n hx hb dX3_stepAhead_175 rfl (lv_at hl 7 rfl) ?_
          refine lv_lshl (v := (1 : Int64) <<< (p2.toInt64 &&& 63)) hx hb dX3_stepAhead_176 rfl ?_
          refine lv_lor hx hb dX3_stepAhead_177 ?_
          refine lv_topl (fun x176 ex176 => ?_)
          have hb148 := zz_nmE ex176 hb148
          refine lv_lstore (lv' := [(19, .long x176), (18, .int x171), (17, .int x166), (16, .int x159), (15, .int x156), (14, .int x154), (0, .ref a_t), (1, .ref a_r1), (2, .int p2), (3, .int p3), (4, .int p4), (5, .int x5), (6, .int x10), (7, .long x15), (9, .long x20), (11, .int x21), (12, .int x146), (13, .int x152)]) hx hb dX3_stepAhead_178 hl (by decide) rfl (fun ls hl => ?_)
          refine lv_iload hx hb dX3_stepAhead_180 (lv_at hl 2 rfl) ?_
          refine lv_iload hx hb dX3_stepAhead_182 (lv_at hl 12 rfl) ?_
          refine lv_aload_n hx hb dX3_stepAhead_184 rfl (lv_at hl 7 rfl) ?_
          refine va_get (ci := 6) (v := .int r1_perHanding) (C := RX7) (T := TX7) (N := 5) hx hb hts in_X3_stepAhead_X7 hown hK hP 0 rfl rfl 2 (by decide) (hts _ lk_X3_stepAhead_11) (fun _ h9 => h9) rfl dX3_stepAhead_185 ?_
          refine lv_iadd hx hb dX3_stepAhead_188 ?_
          obtain ⟨x178, hj179, hb148⟩ := zz_b1E hb148
          refine zz_cut (fun V => ∀ (H : Heap) (locs : List Loc) (ls : Array Slot), va_P (dC, dI) vwCl [(a_r1, .inr (6, [.int r1_longest, .int r1_perLong, .int r1_perHanding, .int r1_wants, .ref a_r1_against])), (a_t, .inr (2, [.ref a_t_costBehind, .ref a_t_planBehind, .int t_leastCost, .long t_bestPlan])), (a_t_costBehind, .inl (cI, 30, .inl g147)), (a_t_planBehind, .inl (cJ, 30, .inr (.inl g148)))] H → va_D A [(a_r1, .inr (6, [.int r1_longest, .int r1_perLong, .int r1_perHanding, .int r1_wants, .ref a_r1_against])), (a_t, .inr (2, [.ref a_t_costBehind, .ref a_t_planBehind, .int t_leastCost, .long t_bestPlan])), (a_t_costBehind, .inl (cI, 30, .inl g147)), (a_t_planBehind, .inl (cJ, 30, .inr (.inl g148)))] → va_S A s.heap H locs → lv_has ls 23 [(0, .ref a_t), (1, .ref a_r1), (2, .int p2), (3, .int p3), (4, .int p4), (5, .int x5), (6, .int x10), (7, .long x15), (9, .long x20), (11, .int x21), (12, .int x146), (13, .int x152), (15, .int x156), (16, .int x159), (17, .int x166), (18, .int x171), (19, .long x176)] → V H locs (F0 m 197 ls [.int x178])) ?_ (fun hJ179 => ?_)
          · intro H locs ls hP hD hS hl
            refine lv_istore (lv' := [(21, .int x178), (0, .ref a_t), (1, .ref a_r1), (2, .int p2), (3, .int p3), (4, .int p4), (5, .int x5), (6, .int x10), (7, .long x15), (9, .long x20), (11, .int x21), (12, .int x146), (13, .int x152), (15, .int x156), (16, .int x159), (17, .int x166), (18, .int x171), (19, .long x176)]) hx hb dX3_stepAhead_197 hl (by decide) rfl (fun ls hl => ?_)
            refine lv_aload_n hx hb dX3_stepAhead_199 rfl (lv_at hl 1 rfl) ?_
            refine va_get (ci := 2) (v := .ref a_t_costBehind) (C := RX3) (T := TX3) (N := 4) hx hb hts in_X3_stepAhead_X3 hown hK hP 1 rfl rfl 0 (by decide) (hts _ lk_X3_stepAhead_0) (fun _ h9 => h9) rfl dX3_stepAhead_200 ?_
            refine lv_iload hx hb dX3_stepAhead_203 (lv_at hl 13 rfl) ?_
            refine lv_iload hx hb dX3_stepAhead_205 (lv_at hl 0 rfl) ?_
            obtain ⟨x181, hj182, hb148⟩ := zz_b1E hb148
            refine zz_cut (fun V => ∀ (H : Heap) (locs : List Loc) (ls : Array Slot), va_P (dC, dI) vwCl [(a_r1, .inr (6, [.int r1_longest, .int r1_perLong, .int r1_perHanding, .int r1_wants, .ref a_r1_against])), (a_t, .inr (2, [.ref a_t_costBehind, .ref a_t_planBehind, .int t_leastCost, .long t_bestPlan])), (a_t_costBehind, .inl (cI, 30, .inl g147)), (a_t_planBehind, .inl (cJ, 30, .inr (.inl g148)))] H → va_D A [(a_r1, .inr (6, [.int r1_longest, .int r1_perLong, .int r1_perHanding, .int r1_wants, .ref a_r1_against])), (a_t, .inr (2, [.ref a_t_costBehind, .ref a_t_planBehind, .int t_leastCost, .long t_bestPlan])), (a_t_costBehind, .inl (cI, 30, .inl g147)), (a_t_planBehind, .inl (cJ, 30, .inr (.inl g148)))] → va_S A s.heap H locs → lv_has ls 23 [(0, .ref a_t), (1, .ref a_r1), (2, .int p2), (3, .int p3), (4, .int p4), (5, .int x5), (6, .int x10), (7, .long x15), (9, .long x20), (11, .int x21), (12, .int x146), (13, .int x152), (15, .int x156), (16, .int x159), (18, .int x171), (19, .long x176), (21, .int x178)] → V H locs (F0 m 222 ls [.int x181, .int x156, .ref a_t_costBehind])) ?_ (fun hJ182 => ?_)
            · intro H locs ls hP hD hS hl
              obtain ⟨hi183, hb148⟩ := zz_chkE hb148
              refine zz_iast hx hb hK hP hD hS 2 0 rfl rfl hi183 dX3_stepAhead_222 (fun g184 => [(a_r1, .inr (6, [.int r1_longest, .int r1_perLong, .int r1_perHanding, .int r1_wants, .ref a_r1_against])), (a_t, .inr (2, [.ref a_t_costBehind, .ref a_t_planBehind, .int t_leastCost, .long t_bestPlan])), (a_t_costBehind, .inl (cI, 30, .inl g184)), (a_t_planBehind, .inl (cJ, 30, .inr (.inl g148)))]) (fun _ => rfl) (fun g184 H locs eg184 hP hD hS => ?_)
              have hb148 := zz_nmE eg184 hb148
              refine lv_aload_n hx hb dX3_stepAhead_223 rfl (lv_at hl 0 rfl) ?_
              refine va_get (ci := 2) (v := .ref a_t_planBehind) (C := RX3) (T := TX3) (N := 4) hx hb hts in_X3_stepAhead_X3 hown hK hP 1 rfl rfl 1 (by decide) (hts _ lk_X3_stepAhead_1) (fun _ h9 => h9) rfl dX3_stepAhead_224 ?_
              refine lv_iload hx hb dX3_stepAhead_227 (lv_at hl 12 rfl) ?_
              refine lv_iload hx hb dX3_stepAhead_229 (lv_at hl 16 rfl) ?_
              obtain ⟨x190, hj191, hb148⟩ := zz_b1E hb148
              refine zz_cut (fun V => ∀ (H : Heap) (locs : List Loc) (ls : Array Slot), va_P (dC, dI) vwCl [(a_r1, .inr (6, [.int r1_longest, .int r1_perLong, .int r1_perHanding, .int r1_wants, .ref a_r1_against])), (a_t, .inr (2, [.ref a_t_costBehind, .ref a_t_planBehind, .int t_leastCost, .long t_bestPlan])), (a_t_costBehind, .inl (cI, 30, .inl g184)), (a_t_planBehind, .inl (cJ, 30, .inr (.inl g148)))] H → va_D A [(a_r1, .inr (6, [.int r1_longest, .int r1_perLong, .int r1_perHanding, .int r1_wants, .ref a_r1_against])), (a_t, .inr (2, [.ref a_t_costBehind, .ref a_t_planBehind, .int t_leastCost, .long t_bestPlan])), (a_t_costBehind, .inl (cI, 30, .inl g184)), (a_t_planBehind, .inl (cJ, 30, .inr (.inl g148)))] → va_S A s.heap H locs → lv_has ls 23 [(0, .ref a_t), (1, .ref a_r1), (2, .int p2), (3, .int p3), (4, .int p4), (5, .int x5), (6, .int x10), (7, .long x15), (9, .long x20), (11, .int x21), (12, .int x146), (16, .int x159), (18, .int x171), (19, .long x176)] → V H locs (F0 m 250 ls [.long x190, .int x156, .ref a_t_planBehind])) ?_ (fun hJ191 => ?_)
              · intro H locs ls hP hD hS hl
                obtain ⟨hi192, hb148⟩ := zz_chkE hb148
                refine zz_last hx hb hK hP hD hS 3 1 rfl rfl hi192 dX3_stepAhead_250 (fun g193 => [(a_r1, .inr (6, [.int r1_longest, .int r1_perLong, .int r1_perHanding, .int r1_wants, .ref a_r1_against])), (a_t, .inr (2, [.ref a_t_costBehind, .ref a_t_planBehind, .int t_leastCost, .long t_bestPlan])), (a_t_costBehind, .inl (cI, 30, .inl g184)), (a_t_planBehind, .inl (cJ, 30, .inr (.inl g193)))]) (fun _ => rfl) (fun g193 H locs eg193 hP hD hS => ?_)
                have hb148 := zz_nmE eg193 hb148
                refine lv_iload hx hb dX3_stepAhead_251 (lv_at hl 5 rfl) ?_
                refine lv_aload_n hx hb dX3_stepAhead_253 rfl (lv_at hl 1 rfl) ?_
                refine va_get (ci := 6) (v := .int r1_perHanding) (C := RX7) (T := TX7) (N := 5) hx hb hts in_X3_stepAhead_X7 hown hK hP 0 rfl rfl 2 (by decide) (hts _ lk_X3_stepAhead_11) (fun _ h9 => h9) rfl dX3_stepAhead_254 ?_
                refine lv_iadd hx hb dX3_stepAhead_257 ?_
                refine lv_iload hx hb dX3_stepAhead_258 (lv_at hl 12 rfl) ?_
                obtain ⟨x195, hj196, hb148⟩ := zz_b1E hb148
                refine zz_cut (fun V => ∀ (H : Heap) (locs : List Loc) (ls : Array Slot), va_P (dC, dI) vwCl [(a_r1, .inr (6, [.int r1_longest, .int r1_perLong, .int r1_perHanding, .int r1_wants, .ref a_r1_against])), (a_t, .inr (2, [.ref a_t_costBehind, .ref a_t_planBehind, .int t_leastCost, .long t_bestPlan])), (a_t_costBehind, .inl (cI, 30, .inl g184)), (a_t_planBehind, .inl (cJ, 30, .inr (.inl g193)))] H → va_D A [(a_r1, .inr (6, [.int r1_longest, .int r1_perLong, .int r1_perHanding, .int r1_wants, .ref a_r1_against])), (a_t, .inr (2, [.ref a_t_costBehind, .ref a_t_planBehind, .int t_leastCost, .long t_bestPlan])), (a_t_costBehind, .inl (cI, 30, .inl g184)), (a_t_planBehind, .inl (cJ, 30, .inr (.inl g193)))] → va_S A s.heap H locs → lv_has ls 23 [(0, .ref a_t), (1, .ref a_r1), (2, .int p2), (3, .int p3), (4, .int p4), (5, .int x5), (6, .int x10), (7, .long x15), (9, .long x20), (11, .int x21), (12, .int x146), (16, .int x159), (18, .int x171), (19, .long x176)] → V H locs (F0 m 268 ls [.int x195])) ?_ (fun hJ196 => ?_)
                · intro H locs ls hP hD hS hl
                  refine lv_istore (lv' := [(22, .int x195), (0, .ref a_t), (1, .ref a_r1), (2, .int p2), (3, .int p3), (4, .int p4), (5, .int x5), (6, .int x10), (7, .long x15), (9, .long x20), (11, .int x21), (12, .int x146), (16, .int x159), (18, .int x171), (19, .long x176)]) hx hb dX3_stepAhead_268 hl (by decide) rfl (fun ls hl => ?_)
                  refine lv_aload_n hx hb dX3_stepAhead_270 rfl (lv_at hl 1 rfl) ?_
                  refine va_get (ci := 2) (v := .ref a_t_costBehind) (C := RX3) (T := TX3) (N := 4) hx hb hts in_X3_stepAhead_X3 hown hK hP 1 rfl rfl 0 (by decide) (hts _ lk_X3_stepAhead_0) (fun _ h9 => h9) rfl dX3_stepAhead_271 ?_
                  refine lv_iload hx hb dX3_stepAhead_274 (lv_at hl 12 rfl) ?_
                  refine lv_iload hx hb dX3_stepAhead_276 (lv_at hl 0 rfl) ?_
                  obtain ⟨x198, hj199, hb148⟩ := zz_b1E hb148
                  refine zz_cut (fun V => ∀ (H : Heap) (locs : List Loc) (ls : Array Slot), va_P (dC, dI) vwCl [(a_r1, .inr (6, [.int r1_longest, .int r1_perLong, .int r1_perHanding, .int r1_wants, .ref a_r1_against])), (a_t, .inr (2, [.ref a_t_costBehind, .ref a_t_planBehind, .int t_leastCost, .long t_bestPlan])), (a_t_costBehind, .inl (cI, 30, .inl g184)), (a_t_planBehind, .inl (cJ, 30, .inr (.inl g193)))] H → va_D A [(a_r1, .inr (6, [.int r1_longest, .int r1_perLong, .int r1_perHanding, .int r1_wants, .ref a_r1_against])), (a_t, .inr (2, [.ref a_t_costBehind, .ref a_t_planBehind, .int t_leastCost, .long t_bestPlan])), (a_t_costBehind, .inl (cI, 30, .inl g184)), (a_t_planBehind, .inl (cJ, 30, .inr (.inl g193)))] → va_S A s.heap H locs → lv_has ls 23 [(0, .ref a_t), (1, .ref a_r1), (2, .int p2), (3, .int p3), (4, .int p4), (5, .int x5), (6, .int x10), (7, .long x15), (9, .long x20), (11, .int x21), (12, .int x146), (16, .int x159), (19, .long x176), (22, .int x195)] → V H locs (F0 m 293 ls [.int x198, .int x159, .ref a_t_costBehind])) ?_ (fun hJ199 => ?_)
                  · intro H locs ls hP hD hS hl
                    obtain ⟨hi200, hb148⟩ := zz_chkE hb148
                    refine zz_iast hx hb hK hP hD hS 2 0 rfl rfl hi200 dX3_stepAhead_293 (fun g201 => [(a_r1, .inr (6, [.int r1_longest, .int r1_perLong, .int r1_perHanding, .int r1_wants, .ref a_r1_against])), (a_t, .inr (2, [.ref a_t_costBehind, .ref a_t_planBehind, .int t_leastCost, .long t_bestPlan])), (a_t_costBehind, .inl (cI, 30, .inl g201)), (a_t_planBehind, .inl (cJ, 30, .inr (.inl g193)))]) (fun _ => rfl) (fun g201 H locs eg201 hP hD hS => ?_)
                    have hb148 := zz_nmE eg201 hb148
                    refine lv_aload_n hx hb dX3_stepAhead_294 rfl (lv_at hl 0 rfl) ?_
                    refine va_get (ci := 2) (v := .ref a_t_planBehind) (C := RX3) (T := TX3) (N := 4) hx hb hts in_X3_stepAhead_X3 hown hK hP 1 rfl rfl 1 (by decide) (hts _ lk_X3_stepAhead_1) (fun _ h9 => h9) rfl dX3_stepAhead_295 ?_
                    refine lv_iload hx hb dX3_stepAhead_298 (lv_at hl 11 rfl) ?_
                    refine lv_iload hx hb dX3_stepAhead_300 (lv_at hl 13 rfl) ?_
                    refine lv_if_eq (tgt := 310) hx hb dX3_stepAhead_302 (by decide) (fun c202 => ?_) (fun c202 => ?_)
                    · have hb148 := zz_if c202 hb148
                      refine lv_lload hx hb dX3_stepAhead_310 (lv_at hl 12 rfl) ?_
                      obtain ⟨hi203, hb148⟩ := zz_chkE hb148
                      refine zz_last hx hb hK hP hD hS 3 1 rfl rfl hi203 dX3_stepAhead_312 (fun g204 => [(a_r1, .inr (6, [.int r1_longest, .int r1_perLong, .int r1_perHanding, .int r1_wants, .ref a_r1_against])), (a_t, .inr (2, [.ref a_t_costBehind, .ref a_t_planBehind, .int t_leastCost, .long t_bestPlan])), (a_t_costBehind, .inl (cI, 30, .inl g201)), (a_t_planBehind, .inl (cJ, 30, .inr (.inl g204)))]) (fun _ => rfl) (fun g204 H locs eg204 hP hD hS => ?_)
                      have hb148 := zz_nmE eg204 hb148
                      obtain ⟨x205, ex205⟩ : ∃ z : Int32, z = x146 + 1 := ⟨_, rfl⟩
                      have hb148 := zz_nmE ex205 hb148
                      refine lv_iinc (v := x205) (lv' := [(12, .int x205), (0, .ref a_t), (1, .ref a_r1), (2, .int p2), (3, .int p3), (4, .int p4), (5, .int x5), (6, .int x10), (7, .long x15), (9, .long x20), (11, .int x21), (16, .int x159), (19, .long x176), (22, .int x195)]) hx hb dX3_stepAhead_313 hl (k := 10) rfl (by rw [ex205]; rfl) (by decide) rfl (fun ls hl => ?_)
                      refine lv_goto (tgt := 75) hx hb dX3_stepAhead_316 (by decide) ?_
                      obtain rfl := Option.some.inj hb148
                      exact ih148 x205 g201 g204 _ _ ls hy148 hP hD hS (lv_sub hl [1, 2, 3, 4, 5, 6, 7, 8, 9, 10, 0] rfl)
                    · have hb148 := zz_ifn c202 hb148
                      refine lv_lload hx hb dX3_stepAhead_305 (lv_at hl 7 rfl) ?_
                      refine lv_goto (tgt := 312) hx hb dX3_stepAhead_307 (by decide) ?_
                      obtain ⟨hi206, hb148⟩ := zz_chkE hb148
                      refine zz_last hx hb hK hP hD hS 3 1 rfl rfl hi206 dX3_stepAhead_312 (fun g207 => [(a_r1, .inr (6, [.int r1_longest, .int r1_perLong, .int r1_perHanding, .int r1_wants, .ref a_r1_against])), (a_t, .inr (2, [.ref a_t_costBehind, .ref a_t_planBehind, .int t_leastCost, .long t_bestPlan])), (a_t_costBehind, .inl (cI, 30, .inl g201)), (a_t_planBehind, .inl (cJ, 30, .inr (.inl g207)))]) (fun _ => rfl) (fun g207 H locs eg207 hP hD hS => ?_)
                      have hb148 := zz_nmE eg207 hb148
                      obtain ⟨x208, ex208⟩ : ∃ z : Int32, z = x146 + 1 := ⟨_, rfl⟩
                      have hb148 := zz_nmE ex208 hb148
                      refine lv_iinc (v := x208) (lv' := [(12, .int x208), (0, .ref a_t), (1, .ref a_r1), (2, .int p2), (3, .int p3), (4, .int p4), (5, .int x5), (6, .int x10), (7, .long x15), (9, .long x20), (11, .int x21), (16, .int x159), (19, .long x176), (22, .int x195)]) hx hb dX3_stepAhead_313 hl (k := 10) rfl (by rw [ex208]; rfl) (by decide) rfl (fun ls hl => ?_)
                      refine lv_goto (tgt := 75) hx hb dX3_stepAhead_316 (by decide) ?_
                      obtain rfl := Option.some.inj hb148
                      exact ih148 x208 g201 g207 _ _ ls hy148 hP hD hS (lv_sub hl [1, 2, 3, 4, 5, 6, 7, 8, 9, 10, 0] rfl)
                  refine lv_if_eq (tgt := 291) hx hb dX3_stepAhead_278 (by decide) (fun c197 => ?_) (fun c197 => ?_)
                  · have hj199 := zz_if c197 hj199
                    refine lv_iload hx hb dX3_stepAhead_291 (lv_at hl 13 rfl) ?_
                    cases hj199
                    exact hJ199 _ _ ls hP hD hS (lv_sub hl [1, 2, 3, 4, 5, 6, 7, 8, 9, 10, 11, 12, 14, 0] rfl)
                  · have hj199 := zz_ifn c197 hj199
                    refine lv_iload hx hb dX3_stepAhead_281 (lv_at hl 6 rfl) ?_
                    refine lv_aload_n hx hb dX3_stepAhead_283 rfl (lv_at hl 2 rfl) ?_
                    refine va_get (ci := 6) (v := .int r1_perHanding) (C := RX7) (T := TX7) (N := 5) hx hb hts in_X3_stepAhead_X7 hown hK hP 0 rfl rfl 2 (by decide) (hts _ lk_X3_stepAhead_11) (fun _ h9 => h9) rfl dX3_stepAhead_284 ?_
                    refine lv_iadd hx hb dX3_stepAhead_287 ?_
                    refine lv_goto (tgt := 293) hx hb dX3_stepAhead_288 (by decide) ?_
                    cases hj199
                    exact hJ199 _ _ ls hP hD hS (lv_sub hl [1, 2, 3, 4, 5, 6, 7, 8, 9, 10, 11, 12, 14, 0] rfl)
                refine lv_icmp_gt (tgt := 267) hx hb dX3_stepAhead_260 (by decide) (fun c194 => ?_) (fun c194 => ?_)
                · have hj196 := zz_if c194 hj196
                  refine lv_iconst (v := 0) hx hb dX3_stepAhead_267 (by decide) ?_
                  cases hj196
                  exact hJ196 _ _ ls hP hD hS (lv_sub hl [0, 1, 2, 3, 4, 5, 6, 7, 8, 9, 10, 11, 12, 13] rfl)
                · have hj196 := zz_ifn c194 hj196
                  refine lv_iconst (v := 1) hx hb dX3_stepAhead_263 (by decide) ?_
                  refine lv_goto (tgt := 268) hx hb dX3_stepAhead_264 (by decide) ?_
                  cases hj196
                  exact hJ196 _ _ ls hP hD hS (lv_sub hl [0, 1, 2, 3, 4, 5, 6, 7, 8, 9, 10, 11, 12, 13] rfl)
              refine lv_if_eq (tgt := 248) hx hb dX3_stepAhead_231 (by decide) (fun c185 => ?_) (fun c185 => ?_)
              · have hj191 := zz_if c185 hj191
                refine lv_lload hx hb dX3_stepAhead_248 (lv_at hl 8 rfl) ?_
                cases hj191
                exact hJ191 _ _ ls hP hD hS (lv_sub hl [0, 1, 2, 3, 4, 5, 6, 7, 8, 9, 10, 13, 14, 15] rfl)
              · have hj191 := zz_ifn c185 hj191
                refine lv_aload_n hx hb dX3_stepAhead_234 rfl (lv_at hl 0 rfl) ?_
                refine va_get (ci := 2) (v := .ref a_t_planBehind) (C := RX3) (T := TX3) (N := 4) hx hb hts in_X3_stepAhead_X3 hown hK hP 1 rfl rfl 1 (by decide) (hts _ lk_X3_stepAhead_1) (fun _ h9 => h9) rfl dX3_stepAhead_235 ?_
                refine lv_iconst (v := 0) hx hb dX3_stepAhead_238 (by decide) ?_
                refine lv_iload hx hb dX3_stepAhead_239 (lv_at hl 11 rfl) ?_
                obtain ⟨x209, u210, he211, hj191⟩ := zz_b2E hj191
                refine zz_PI (As := [.int 0, .int x152]) (rest := [.ref a_t_planBehind, .int x156, .ref a_t_planBehind]) ⟨hx, hb, hml, hown, hts⟩ (ct_X3_placeOf l dC dI cI cJ cB cZ (0 : Int32) x152 x209 u210 he211) gX3_stepAhead_X3_placeOf hd_X3_placeOf rfl rfl rfl ⟨Nat.le_of_ble_eq_true rfl, Nat.le_of_ble_eq_true rfl⟩ ⟨Nat.le_of_ble_eq_true rfl, Nat.le_of_ble_eq_true rfl⟩ rfl rfl (Nat.le_of_ble_eq_true rfl) dX3_stepAhead_241 hl.1 hP hK hS hA (fun H locs hP hS => ?_)
                obtain ⟨hi212, hj191⟩ := zz_chkE hj191
                refine va_lald hx hb hK hP 3 1 rfl rfl hi212 dX3_stepAhead_244 ?_
                refine lv_goto (tgt := 250) hx hb dX3_stepAhead_245 (by decide) ?_
                cases hj191
                exact hJ191 _ _ ls hP hD hS (lv_sub hl [0, 1, 2, 3, 4, 5, 6, 7, 8, 9, 10, 13, 14, 15] rfl)
            refine lv_if_eq (tgt := 215) hx hb dX3_stepAhead_207 (by decide) (fun c180 => ?_) (fun c180 => ?_)
            · have hj182 := zz_if c180 hj182
              refine lv_iload hx hb dX3_stepAhead_215 (lv_at hl 7 rfl) ?_
              refine lv_aload_n hx hb dX3_stepAhead_217 rfl (lv_at hl 2 rfl) ?_
              refine va_get (ci := 6) (v := .int r1_perHanding) (C := RX7) (T := TX7) (N := 5) hx hb hts in_X3_stepAhead_X7 hown hK hP 0 rfl rfl 2 (by decide) (hts _ lk_X3_stepAhead_11) (fun _ h9 => h9) rfl dX3_stepAhead_218 ?_
              refine lv_iadd hx hb dX3_stepAhead_221 ?_
              cases hj182
              exact hJ182 _ _ ls hP hD hS (lv_sub hl [1, 2, 3, 4, 5, 6, 7, 8, 9, 10, 11, 12, 13, 14, 16, 17, 0] rfl)
            · have hj182 := zz_ifn c180 hj182
              refine lv_iload hx hb dX3_stepAhead_210 (lv_at hl 15 rfl) ?_
              refine lv_goto (tgt := 222) hx hb dX3_stepAhead_212 (by decide) ?_
              cases hj182
              exact hJ182 _ _ ls hP hD hS (lv_sub hl [1, 2, 3, 4, 5, 6, 7, 8, 9, 10, 11, 12, 13, 14, 16, 17, 0] rfl)
          refine lv_icmp_gt (tgt := 196) hx hb dX3_stepAhead_189 (by decide) (fun c177 => ?_) (fun c177 => ?_)
          · have hj179 := zz_if c177 hj179
            refine lv_iconst (v := 0) hx hb dX3_stepAhead_196 (by decide) ?_
            cases hj179
            exact hJ179 _ _ ls hP hD hS (lv_sub hl [6, 7, 8, 9, 10, 11, 12, 13, 14, 15, 16, 17, 4, 3, 2, 1, 0] rfl)
          · have hj179 := zz_ifn c177 hj179
            refine lv_iconst (v := 1) hx hb dX3_stepAhead_192 (by decide) ?_
            refine lv_goto (tgt := 197) hx hb dX3_stepAhead_193 (by decide) ?_
            cases hj179
            exact hJ179 _ _ ls hP hD hS (lv_sub hl [6, 7, 8, 9, 10, 11, 12, 13, 14, 15, 16, 17, 4, 3, 2, 1, 0] rfl)
        refine lv_icmp_ne (tgt := 107) hx hb dX3_stepAhead_97 (by decide) (fun c153 => ?_) (fun c153 => ?_)
        · have hj155 := zz_ifn c153 hj155
          refine lv_iconst (v := 0) hx hb dX3_stepAhead_107 (by decide) ?_
          cases hj155
          exact hJ155 _ _ ls hP hD hS (lv_sub hl [1, 2, 3, 4, 5, 6, 7, 8, 9, 10, 11, 0] rfl)
        · have hj155 := zz_if c153 hj155
          refine lv_aload_n hx hb dX3_stepAhead_100 rfl (lv_at hl 2 rfl) ?_
          refine va_get (ci := 6) (v := .int r1_perLong) (C := RX7) (T := TX7) (N := 5) hx hb hts in_X3_stepAhead_X7 hown hK hP 0 rfl rfl 1 (by decide) (hts _ lk_X3_stepAhead_10) (fun _ h9 => h9) rfl dX3_stepAhead_101 ?_
          refine lv_goto (tgt := 108) hx hb dX3_stepAhead_104 (by decide) ?_
          cases hj155
          exact hJ155 _ _ ls hP hD hS (lv_sub hl [1, 2, 3, 4, 5, 6, 7, 8, 9, 10, 11, 0] rfl)
  exact hL148 zz_fuel 1 t_costBehind t_planBehind _ _ ls hit148 hP hD hS (lv_sub hl [6, 7, 8, 9, 10, 5, 4, 3, 2, 1, 0] rfl)
theorem hd_X3_find : yX3_find.cls ≠ "java/lang/invoke/MethodHandle" ∧ yX3_find.cls ≠ "java/lang/invoke/VarHandle" ∧ (parseMethodDescriptor yX3_find.desc).map (fun d => d.parameters.length) = some 3 := by decide +kernel
set_option maxRecDepth 20000 in
theorem in_X3_find_X3 : ∀ w ∈ u_ws RX3 TX3 4, w ∈ wsX3_find := by decide +kernel
set_option maxRecDepth 20000 in
theorem lk_X3_find_0 : Cond.fieldLink RX3 11 "TwoHousesOneChild$Planner" "costBehind" "[I" ∈ wsX3_find := by decide +kernel
set_option maxRecDepth 20000 in
theorem lk_X3_find_1 : Cond.fieldLink RX3 15 "TwoHousesOneChild$Planner" "planBehind" "[J" ∈ wsX3_find := by decide +kernel
set_option maxRecDepth 20000 in
theorem lk_X3_find_2 : Cond.initialized "java/lang/Math" ∈ wsX3_find := by decide +kernel
set_option maxRecDepth 20000 in
theorem lk_X3_find_3 : Cond.methodLink RX3 31 Lib.Math.min.name ∈ wsX3_find := by decide +kernel
set_option maxRecDepth 20000 in
theorem lk_X3_find_4 : Cond.static Lib.Math.min.name ∈ wsX3_find := by decide +kernel
set_option maxRecDepth 20000 in
theorem lk_X3_find_5 : Cond.code Lib.Math.min.name Lib.Math.min.code 2 (some .int) ∈ wsX3_find := by decide +kernel
set_option maxRecDepth 20000 in
theorem lk_X3_find_6 : Cond.fieldLink RX3 36 "TwoHousesOneChild$Planner" "leastCost" "I" ∈ wsX3_find := by decide +kernel
set_option maxRecDepth 20000 in
theorem lk_X3_find_7 : Cond.fieldLink RX3 40 "TwoHousesOneChild$Planner" "bestPlan" "J" ∈ wsX3_find := by decide +kernel
set_option maxHeartbeats 4000000 in
set_option maxRecDepth 100000 in
theorem ct_X3_find (l : Launch) (dC : Nat → ClassId) (dI : Nat → Nat → Nat) (cI cJ cB cZ : ClassId) (a_r1 a_r1_against a_t a_t_costBehind a_t_planBehind : Nat) (r1_longest : Int32) (r1_perLong : Int32) (r1_perHanding : Int32) (r1_wants : Int32) (r1_against : (Nat → Int32)) (t_leastCost : Int32) (t_bestPlan : Int64) (t_costBehind : (Nat → Int32)) (t_planBehind : (Nat → Int64)) (p2 : Int64) (p4 : Int64) (o1 : Int32) (o2 : Int64) (o3 : (Nat → Int32)) (o4 : (Nat → Int64)) (h : fn_X3_find r1_longest r1_perLong r1_perHanding r1_against t_costBehind t_planBehind p2 p4 = some (o1, o2, o3, o4)) : zz_M l yX3_find wsX3_find ({ frames := 2, cells := 0, slots := 0, locals := 63 }) (dC, dI) (zz_T cI cJ cB cZ) [.ref a_t, .ref a_r1, .long p2, .long p4] [(a_r1, .inr (6, [.int r1_longest, .int r1_perLong, .int r1_perHanding, .int r1_wants, .ref a_r1_against])), (a_r1_against, .inl (cI, 112, .inl r1_against)), (a_t, .inr (2, [.ref a_t_costBehind, .ref a_t_planBehind, .int t_leastCost, .long t_bestPlan])), (a_t_costBehind, .inl (cI, 30, .inl t_costBehind)), (a_t_planBehind, .inl (cJ, 30, .inr (.inl t_planBehind)))] (zz_QV (dC, dI) (zz_T cI cJ cB cZ) (o1, o2, o3, o4) (fun (u : Int32 × Int64 × (Nat → Int32) × (Nat → Int64)) => [(a_r1, .inr (6, [.int r1_longest, .int r1_perLong, .int r1_perHanding, .int r1_wants, .ref a_r1_against])), (a_r1_against, .inl (cI, 112, .inl r1_against)), (a_t, .inr (2, [.ref a_t_costBehind, .ref a_t_planBehind, .int u.1, .long u.2.1])), (a_t_costBehind, .inl (cI, 30, .inl u.2.2.1)), (a_t_planBehind, .inl (cJ, 30, .inr (.inl u.2.2.2)))])) := by
  unfold fn_X3_find at h
  refine zz_of (by decide) rfl (Nat.le_of_ble_eq_true rfl) ?_
  intro p e s m below meth c A ls hx hb hr hml hts hown hlocks hA hS hP hK hD hl
  have hown : s.vm.findClass RX3 = some m.cls := hown
  have hl : lv_has ls 9 [(0, .ref a_t), (1, .ref a_r1), (2, .long p2), (4, .long p4)] := hl
  refine lv_iconst (v := 0) hx hb dX3_find_0 (by decide) ?_
  refine lv_istore (lv' := [(6, .int 0), (0, .ref a_t), (1, .ref a_r1), (2, .long p2), (4, .long p4)]) hx hb dX3_find_1 hl (by decide) rfl (fun ls hl => ?_)
  obtain ⟨g16, g17, hit15, h⟩ := zz_b2E h
  refine zz_cut (fun V => ∀ (H : Heap) (locs : List Loc) (ls : Array Slot), va_P (dC, dI) vwCl [(a_r1, .inr (6, [.int r1_longest, .int r1_perLong, .int r1_perHanding, .int r1_wants, .ref a_r1_against])), (a_r1_against, .inl (cI, 112, .inl r1_against)), (a_t, .inr (2, [.ref a_t_costBehind, .ref a_t_planBehind, .int t_leastCost, .long t_bestPlan])), (a_t_costBehind, .inl (cI, 30, .inl g16)), (a_t_planBehind, .inl (cJ, 30, .inr (.inl g17)))] H → va_D A [(a_r1, .inr (6, [.int r1_longest, .int r1_perLong, .int r1_perHanding, .int r1_wants, .ref a_r1_against])), (a_r1_against, .inl (cI, 112, .inl r1_against)), (a_t, .inr (2, [.ref a_t_costBehind, .ref a_t_planBehind, .int t_leastCost, .long t_bestPlan])), (a_t_costBehind, .inl (cI, 30, .inl g16)), (a_t_planBehind, .inl (cJ, 30, .inr (.inl g17)))] → va_S A s.heap H locs → lv_has ls 9 [(0, .ref a_t), (1, .ref a_r1), (2, .long p2), (4, .long p4)] → V H locs (F0 m 35 ls [])) ?_ (fun hE15 => ?_)
  · intro H locs ls hP hD hS hl
    refine lv_bipush (v := 55) hx hb dX3_find_35 (by decide) ?_
    refine lv_istore (lv' := [(6, .int 55), (0, .ref a_t), (1, .ref a_r1), (2, .long p2), (4, .long p4)]) hx hb dX3_find_37 hl (by decide) rfl (fun ls hl => ?_)
    obtain ⟨g43, g44, hit42, h⟩ := zz_b2E h
    refine zz_cut (fun V => ∀ (H : Heap) (locs : List Loc) (ls : Array Slot), va_P (dC, dI) vwCl [(a_r1, .inr (6, [.int r1_longest, .int r1_perLong, .int r1_perHanding, .int r1_wants, .ref a_r1_against])), (a_r1_against, .inl (cI, 112, .inl r1_against)), (a_t, .inr (2, [.ref a_t_costBehind, .ref a_t_planBehind, .int t_leastCost, .long t_bestPlan])), (a_t_costBehind, .inl (cI, 30, .inl g43)), (a_t_planBehind, .inl (cJ, 30, .inr (.inl g44)))] H → va_D A [(a_r1, .inr (6, [.int r1_longest, .int r1_perLong, .int r1_perHanding, .int r1_wants, .ref a_r1_against])), (a_r1_against, .inl (cI, 112, .inl r1_against)), (a_t, .inr (2, [.ref a_t_costBehind, .ref a_t_planBehind, .int t_leastCost, .long t_bestPlan])), (a_t_costBehind, .inl (cI, 30, .inl g43)), (a_t_planBehind, .inl (cJ, 30, .inr (.inl g44)))] → va_S A s.heap H locs → lv_has ls 9 [(0, .ref a_t), (1, .ref a_r1), (2, .long p2), (4, .long p4)] → V H locs (F0 m 82 ls [])) ?_ (fun hE42 => ?_)
    · intro H locs ls hP hD hS hl
      refine lv_aload_n hx hb dX3_find_82 rfl (lv_at hl 1 rfl) ?_
      refine lv_iconst (v := 0) hx hb dX3_find_83 (by decide) ?_
      refine lv_iconst (v := 0) hx hb dX3_find_84 (by decide) ?_
      refine lv_lload hx hb dX3_find_85 (lv_at hl 3 rfl) ?_
      obtain ⟨x45, u46, he47, h⟩ := zz_b2E h
      refine zz_SI (As := [.ref a_r1, .int 0, .int 0, .long p4]) (rest := []) (wr := [(a_t, .inr (2, [.ref a_t_costBehind, .ref a_t_planBehind, .int t_leastCost, .long t_bestPlan])), (a_t_costBehind, .inl (cI, 30, .inl g43)), (a_t_planBehind, .inl (cJ, 30, .inr (.inl g44)))]) (wm := [(a_r1, .inr (6, [.int r1_longest, .int r1_perLong, .int r1_perHanding, .int r1_wants, .ref a_r1_against])), (a_r1_against, .inl (cI, 112, .inl r1_against)), (a_t, .inr (2, [.ref a_t_costBehind, .ref a_t_planBehind, .int t_leastCost, .long t_bestPlan])), (a_t_costBehind, .inl (cI, 30, .inl g43)), (a_t_planBehind, .inl (cJ, 30, .inr (.inl g44)))]) ⟨hx, hb, hml, hown, hts⟩ (ct_X3_priceWithin l dC dI cI cJ cB cZ a_r1 a_r1_against r1_longest r1_perLong r1_perHanding r1_wants r1_against (0 : Int32) (0 : Int32) p4 x45 u46 he47) gX3_find_X3_priceWithin hd_X3_priceWithin rfl rfl rfl ⟨Nat.le_of_ble_eq_true rfl, Nat.le_of_ble_eq_true rfl⟩ ⟨Nat.le_of_ble_eq_true rfl, Nat.le_of_ble_eq_true rfl⟩ rfl rfl (Nat.le_of_ble_eq_true rfl) dX3_find_87 hl.1 hP hK hD hS hA [0, 1] [2, 3, 4] [3, 4, 0, 1, 2] rfl rfl (by decide) (by decide) (by decide) (by decide) rfl (fun H locs hP hD hS => ?_)
      refine lv_aload_n hx hb dX3_find_90 rfl (lv_at hl 0 rfl) ?_
      refine va_get (ci := 2) (v := .ref a_t_costBehind) (C := RX3) (T := TX3) (N := 4) hx hb hts in_X3_find_X3 hown hK hP 2 rfl rfl 0 (by decide) (hts _ lk_X3_find_0) (fun _ h9 => h9) rfl dX3_find_91 ?_
      refine lv_iconst (v := 0) hx hb dX3_find_94 (by decide) ?_
      refine lv_iconst (v := 1) hx hb dX3_find_95 (by decide) ?_
      obtain ⟨x48, u49, he50, h⟩ := zz_b2E h
      refine zz_PI (As := [.int 0, .int 1]) (rest := [.ref a_t_costBehind, .int x45]) ⟨hx, hb, hml, hown, hts⟩ (ct_X3_placeOf l dC dI cI cJ cB cZ (0 : Int32) (1 : Int32) x48 u49 he50) gX3_find_X3_placeOf hd_X3_placeOf rfl rfl rfl ⟨Nat.le_of_ble_eq_true rfl, Nat.le_of_ble_eq_true rfl⟩ ⟨Nat.le_of_ble_eq_true rfl, Nat.le_of_ble_eq_true rfl⟩ rfl rfl (Nat.le_of_ble_eq_true rfl) dX3_find_96 hl.1 hP hK hS hA (fun H locs hP hS => ?_)
      obtain ⟨hi51, h⟩ := zz_chkE h
      refine va_iald hx hb hK hP 3 0 rfl rfl hi51 dX3_find_99 ?_
      refine lv_iadd hx hb dX3_find_100 ?_
      refine lv_topi (fun x52 ex52 => ?_)
      have h := zz_nmE ex52 h
      refine lv_istore (lv' := [(6, .int x52), (0, .ref a_t), (1, .ref a_r1), (2, .long p2), (4, .long p4)]) hx hb dX3_find_101 hl (by decide) rfl (fun ls hl => ?_)
      refine lv_aload_n hx hb dX3_find_103 rfl (lv_at hl 2 rfl) ?_
      refine lv_iconst (v := 0) hx hb dX3_find_104 (by decide) ?_
      refine lv_iconst (v := 1) hx hb dX3_find_105 (by decide) ?_
      refine lv_lload_n hx hb dX3_find_106 rfl (lv_at hl 3 rfl) ?_
      obtain ⟨x53, u54, he55, h⟩ := zz_b2E h
      refine zz_SI (As := [.ref a_r1, .int 0, .int 1, .long p2]) (rest := []) (wr := [(a_t, .inr (2, [.ref a_t_costBehind, .ref a_t_planBehind, .int t_leastCost, .long t_bestPlan])), (a_t_costBehind, .inl (cI, 30, .inl g43)), (a_t_planBehind, .inl (cJ, 30, .inr (.inl g44)))]) (wm := [(a_r1, .inr (6, [.int r1_longest, .int r1_perLong, .int r1_perHanding, .int r1_wants, .ref a_r1_against])), (a_r1_against, .inl (cI, 112, .inl r1_against)), (a_t, .inr (2, [.ref a_t_costBehind, .ref a_t_planBehind, .int t_leastCost, .long t_bestPlan])), (a_t_costBehind, .inl (cI, 30, .inl g43)), (a_t_planBehind, .inl (cJ, 30, .inr (.inl g44)))]) ⟨hx, hb, hml, hown, hts⟩ (ct_X3_priceWithin l dC dI cI cJ cB cZ a_r1 a_r1_against r1_longest r1_perLong r1_perHanding r1_wants r1_against (0 : Int32) (1 : Int32) p2 x53 u54 he55) gX3_find_X3_priceWithin hd_X3_priceWithin rfl rfl rfl ⟨Nat.le_of_ble_eq_true rfl, Nat.le_of_ble_eq_true rfl⟩ ⟨Nat.le_of_ble_eq_true rfl, Nat.le_of_ble_eq_true rfl⟩ rfl rfl (Nat.le_of_ble_eq_true rfl) dX3_find_107 hl.1 hP hK hD hS hA [0, 1] [2, 3, 4] [3, 4, 0, 1, 2] rfl rfl (by decide) (by decide) (by decide) (by decide) rfl (fun H locs hP hD hS => ?_)
      refine lv_aload_n hx hb dX3_find_110 rfl (lv_at hl 1 rfl) ?_
      refine va_get (ci := 2) (v := .ref a_t_costBehind) (C := RX3) (T := TX3) (N := 4) hx hb hts in_X3_find_X3 hown hK hP 2 rfl rfl 0 (by decide) (hts _ lk_X3_find_0) (fun _ h9 => h9) rfl dX3_find_111 ?_
      refine lv_iconst (v := 1) hx hb dX3_find_114 (by decide) ?_
      refine lv_iconst (v := 1) hx hb dX3_find_115 (by decide) ?_
      obtain ⟨x56, u57, he58, h⟩ := zz_b2E h
      refine zz_PI (As := [.int 1, .int 1]) (rest := [.ref a_t_costBehind, .int x53]) ⟨hx, hb, hml, hown, hts⟩ (ct_X3_placeOf l dC dI cI cJ cB cZ (1 : Int32) (1 : Int32) x56 u57 he58) gX3_find_X3_placeOf hd_X3_placeOf rfl rfl rfl ⟨Nat.le_of_ble_eq_true rfl, Nat.le_of_ble_eq_true rfl⟩ ⟨Nat.le_of_ble_eq_true rfl, Nat.le_of_ble_eq_true rfl⟩ rfl rfl (Nat.le_of_ble_eq_true rfl) dX3_find_116 hl.1 hP hK hS hA (fun H locs hP hS => ?_)
      obtain ⟨hi59, h⟩ := zz_chkE h
      refine va_iald hx hb hK hP 3 0 rfl rfl hi59 dX3_find_119 ?_
      refine lv_iadd hx hb dX3_find_120 ?_
      refine lv_topi (fun x60 ex60 => ?_)
      have h := zz_nmE ex60 h
      refine lv_istore (lv' := [(7, .int x60), (6, .int x52), (0, .ref a_t), (1, .ref a_r1), (2, .long p2), (4, .long p4)]) hx hb dX3_find_121 hl (by decide) rfl (fun ls hl => ?_)
      refine lv_aload_n hx hb dX3_find_123 rfl (lv_at hl 2 rfl) ?_
      refine lv_iload hx hb dX3_find_124 (lv_at hl 1 rfl) ?_
      refine lv_iload hx hb dX3_find_126 (lv_at hl 0 rfl) ?_
      refine va_mmin hx hb (hml.trans hl.1.symm) hown (hts _ lk_X3_find_3) (hts _ lk_X3_find_4) (hts _ lk_X3_find_2) (hts _ lk_X3_find_5) (Nat.le_of_ble_eq_true rfl) (Nat.le_of_ble_eq_true rfl) (Nat.le_of_ble_eq_true rfl) (Nat.le_of_ble_eq_true rfl) dX3_find_128 ?_
      refine lv_topi (fun x61 ex61 => ?_)
      have h := zz_nmE ex61 h
      refine va_put (ci := 2) (v := .int x61) (ty := .int) (C := RX3) (T := TX3) (N := 4) hx hb hts in_X3_find_X3 tyX3 tyX3_ok nmX3 hown hK hP hD hS 2 rfl rfl 2 (by decide) (hts _ lk_X3_find_6) (fun _ h9 => h9) rfl (by decide +kernel) rfl rfl (Nat.le_of_ble_eq_true rfl) dX3_find_131 (fun H locs hP hD hS => ?_)
      have hP : va_P (dC, dI) vwCl [(a_r1, .inr (6, [.int r1_longest, .int r1_perLong, .int r1_perHanding, .int r1_wants, .ref a_r1_against])), (a_r1_against, .inl (cI, 112, .inl r1_against)), (a_t, .inr (2, [.ref a_t_costBehind, .ref a_t_planBehind, .int x61, .long t_bestPlan])), (a_t_costBehind, .inl (cI, 30, .inl g43)), (a_t_planBehind, .inl (cJ, 30, .inr (.inl g44)))] H := hP
      have hD : va_D A [(a_r1, .inr (6, [.int r1_longest, .int r1_perLong, .int r1_perHanding, .int r1_wants, .ref a_r1_against])), (a_r1_against, .inl (cI, 112, .inl r1_against)), (a_t, .inr (2, [.ref a_t_costBehind, .ref a_t_planBehind, .int x61, .long t_bestPlan])), (a_t_costBehind, .inl (cI, 30, .inl g43)), (a_t_planBehind, .inl (cJ, 30, .inr (.inl g44)))] := hD
      refine lv_aload_n hx hb dX3_find_134 rfl (lv_at hl 2 rfl) ?_
      refine lv_iload hx hb dX3_find_135 (lv_at hl 1 rfl) ?_
      refine lv_iload hx hb dX3_find_137 (lv_at hl 0 rfl) ?_
      refine lv_icmp_gt (tgt := 155) hx hb dX3_find_139 (by decide) (fun c62 => ?_) (fun c62 => ?_)
      · have h := zz_if c62 h
        refine lv_aload_n hx hb dX3_find_155 rfl (lv_at hl 2 rfl) ?_
        refine va_get (ci := 2) (v := .ref a_t_planBehind) (C := RX3) (T := TX3) (N := 4) hx hb hts in_X3_find_X3 hown hK hP 2 rfl rfl 1 (by decide) (hts _ lk_X3_find_1) (fun _ h9 => h9) rfl dX3_find_156 ?_
        refine lv_iconst (v := 1) hx hb dX3_find_159 (by decide) ?_
        refine lv_iconst (v := 1) hx hb dX3_find_160 (by decide) ?_
        obtain ⟨x63, u64, he65, h⟩ := zz_b2E h
        refine zz_PI (As := [.int 1, .int 1]) (rest := [.ref a_t_planBehind, .ref a_t]) ⟨hx, hb, hml, hown, hts⟩ (ct_X3_placeOf l dC dI cI cJ cB cZ (1 : Int32) (1 : Int32) x63 u64 he65) gX3_find_X3_placeOf hd_X3_placeOf rfl rfl rfl ⟨Nat.le_of_ble_eq_true rfl, Nat.le_of_ble_eq_true rfl⟩ ⟨Nat.le_of_ble_eq_true rfl, Nat.le_of_ble_eq_true rfl⟩ rfl rfl (Nat.le_of_ble_eq_true rfl) dX3_find_161 hl.1 hP hK hS hA (fun H locs hP hS => ?_)
        obtain ⟨hi66, h⟩ := zz_chkE h
        refine va_lald hx hb hK hP 4 1 rfl rfl hi66 dX3_find_164 ?_
        refine lv_lconst (v := 1) hx hb dX3_find_165 (by decide) ?_
        refine lv_lor hx hb dX3_find_166 ?_
        refine lv_topl (fun x67 ex67 => ?_)
        have h := zz_nmE ex67 h
        refine va_put (ci := 2) (v := .long x67) (ty := .long) (C := RX3) (T := TX3) (N := 4) hx hb hts in_X3_find_X3 tyX3 tyX3_ok nmX3 hown hK hP hD hS 2 rfl rfl 3 (by decide) (hts _ lk_X3_find_7) (fun _ h9 => h9) rfl (by decide +kernel) rfl rfl (Nat.le_of_ble_eq_true rfl) dX3_find_167 (fun H locs hP hD hS => ?_)
        have hP : va_P (dC, dI) vwCl [(a_r1, .inr (6, [.int r1_longest, .int r1_perLong, .int r1_perHanding, .int r1_wants, .ref a_r1_against])), (a_r1_against, .inl (cI, 112, .inl r1_against)), (a_t, .inr (2, [.ref a_t_costBehind, .ref a_t_planBehind, .int x61, .long x67])), (a_t_costBehind, .inl (cI, 30, .inl g43)), (a_t_planBehind, .inl (cJ, 30, .inr (.inl g44)))] H := hP
        have hD : va_D A [(a_r1, .inr (6, [.int r1_longest, .int r1_perLong, .int r1_perHanding, .int r1_wants, .ref a_r1_against])), (a_r1_against, .inl (cI, 112, .inl r1_against)), (a_t, .inr (2, [.ref a_t_costBehind, .ref a_t_planBehind, .int x61, .long x67])), (a_t_costBehind, .inl (cI, 30, .inl g43)), (a_t_planBehind, .inl (cJ, 30, .inr (.inl g44)))] := hD
        exact zz_vret (x61, x67, g43, g44) hx hb hr hlocks dX3_find_170 (Option.some.inj h) hP hK hD hS
      · have h := zz_ifn c62 h
        refine lv_aload_n hx hb dX3_find_142 rfl (lv_at hl 2 rfl) ?_
        refine va_get (ci := 2) (v := .ref a_t_planBehind) (C := RX3) (T := TX3) (N := 4) hx hb hts in_X3_find_X3 hown hK hP 2 rfl rfl 1 (by decide) (hts _ lk_X3_find_1) (fun _ h9 => h9) rfl dX3_find_143 ?_
        refine lv_iconst (v := 0) hx hb dX3_find_146 (by decide) ?_
        refine lv_iconst (v := 1) hx hb dX3_find_147 (by decide) ?_
        obtain ⟨x68, u69, he70, h⟩ := zz_b2E h
        refine zz_PI (As := [.int 0, .int 1]) (rest := [.ref a_t_planBehind, .ref a_t]) ⟨hx, hb, hml, hown, hts⟩ (ct_X3_placeOf l dC dI cI cJ cB cZ (0 : Int32) (1 : Int32) x68 u69 he70) gX3_find_X3_placeOf hd_X3_placeOf rfl rfl rfl ⟨Nat.le_of_ble_eq_true rfl, Nat.le_of_ble_eq_true rfl⟩ ⟨Nat.le_of_ble_eq_true rfl, Nat.le_of_ble_eq_true rfl⟩ rfl rfl (Nat.le_of_ble_eq_true rfl) dX3_find_148 hl.1 hP hK hS hA (fun H locs hP hS => ?_)
        obtain ⟨hi71, h⟩ := zz_chkE h
        refine va_lald hx hb hK hP 4 1 rfl rfl hi71 dX3_find_151 ?_
        refine lv_goto (tgt := 167) hx hb dX3_find_152 (by decide) ?_
        refine lv_topl (fun x72 ex72 => ?_)
        have h := zz_nmE ex72 h
        refine va_put (ci := 2) (v := .long x72) (ty := .long) (C := RX3) (T := TX3) (N := 4) hx hb hts in_X3_find_X3 tyX3 tyX3_ok nmX3 hown hK hP hD hS 2 rfl rfl 3 (by decide) (hts _ lk_X3_find_7) (fun _ h9 => h9) rfl (by decide +kernel) rfl rfl (Nat.le_of_ble_eq_true rfl) dX3_find_167 (fun H locs hP hD hS => ?_)
        have hP : va_P (dC, dI) vwCl [(a_r1, .inr (6, [.int r1_longest, .int r1_perLong, .int r1_perHanding, .int r1_wants, .ref a_r1_against])), (a_r1_against, .inl (cI, 112, .inl r1_against)), (a_t, .inr (2, [.ref a_t_costBehind, .ref a_t_planBehind, .int x61, .long x72])), (a_t_costBehind, .inl (cI, 30, .inl g43)), (a_t_planBehind, .inl (cJ, 30, .inr (.inl g44)))] H := hP
        have hD : va_D A [(a_r1, .inr (6, [.int r1_longest, .int r1_perLong, .int r1_perHanding, .int r1_wants, .ref a_r1_against])), (a_r1_against, .inl (cI, 112, .inl r1_against)), (a_t, .inr (2, [.ref a_t_costBehind, .ref a_t_planBehind, .int x61, .long x72])), (a_t_costBehind, .inl (cI, 30, .inl g43)), (a_t_planBehind, .inl (cJ, 30, .inr (.inl g44)))] := hD
        exact zz_vret (x61, x72, g43, g44) hx hb hr hlocks dX3_find_170 (Option.some.inj h) hP hK hD hS
    refine zz_cut (fun V => ∀ (n : Nat) (x40 : Int32) (g41 : (Nat → Int32)) (g42 : (Nat → Int64)) (H : Heap) (locs : List Loc) (ls : Array Slot), zz_it (fun z => fb_X3_find_39 p2 p4 r1_longest r1_perLong r1_perHanding r1_against z.1 z.2.1 z.2.2) n (x40, g41, g42) = some (g43, g44) → va_P (dC, dI) vwCl [(a_r1, .inr (6, [.int r1_longest, .int r1_perLong, .int r1_perHanding, .int r1_wants, .ref a_r1_against])), (a_r1_against, .inl (cI, 112, .inl r1_against)), (a_t, .inr (2, [.ref a_t_costBehind, .ref a_t_planBehind, .int t_leastCost, .long t_bestPlan])), (a_t_costBehind, .inl (cI, 30, .inl g41)), (a_t_planBehind, .inl (cJ, 30, .inr (.inl g42)))] H → va_D A [(a_r1, .inr (6, [.int r1_longest, .int r1_perLong, .int r1_perHanding, .int r1_wants, .ref a_r1_against])), (a_r1_against, .inl (cI, 112, .inl r1_against)), (a_t, .inr (2, [.ref a_t_costBehind, .ref a_t_planBehind, .int t_leastCost, .long t_bestPlan])), (a_t_costBehind, .inl (cI, 30, .inl g41)), (a_t_planBehind, .inl (cJ, 30, .inr (.inl g42)))] → va_S A s.heap H locs → lv_has ls 9 [(0, .ref a_t), (1, .ref a_r1), (2, .long p2), (4, .long p4), (6, .int x40)] → V H locs (F0 m 39 ls [])) ?_ (fun hL42 => ?_)
    · intro n
      induction n with
      | zero => intro x40 g41 g42 H locs ls hit42; exact (zz_it0 hit42).elim
      | succ n ih42 =>
        intro x40 g41 g42 H locs ls hit42 hP hD hS hl
        obtain ⟨y42, hb42, hy42⟩ := zz_itE hit42
        have hb42 : fb_X3_find_39 p2 p4 r1_longest r1_perLong r1_perHanding r1_against x40 g41 g42 = some y42 := hb42
        unfold fb_X3_find_39 at hb42
        refine lv_iload hx hb dX3_find_39 (lv_at hl 4 rfl) ?_
        refine lv_if_le (tgt := 82) hx hb dX3_find_41 (by decide) (fun c73 => ?_) (fun c73 => ?_)
        · have hb42 := zz_if c73 hb42
          obtain rfl := Option.some.inj hb42
          have hy42 := Option.some.inj hy42
          cases hy42
          exact hE42 _ _ ls hP hD hS (lv_sub hl [0, 1, 2, 3] rfl)
        · have hb42 := zz_ifn c73 hb42
          refine lv_aload_n hx hb dX3_find_44 rfl (lv_at hl 1 rfl) ?_
          refine lv_iload hx hb dX3_find_45 (lv_at hl 4 rfl) ?_
          refine lv_iconst (v := 0) hx hb dX3_find_47 (by decide) ?_
          refine lv_lload hx hb dX3_find_48 (lv_at hl 3 rfl) ?_
          obtain ⟨x74, u75, he76, hb42⟩ := zz_b2E hb42
          refine zz_SI (As := [.ref a_r1, .int x40, .int 0, .long p4]) (rest := []) (wr := [(a_t, .inr (2, [.ref a_t_costBehind, .ref a_t_planBehind, .int t_leastCost, .long t_bestPlan])), (a_t_costBehind, .inl (cI, 30, .inl g41)), (a_t_planBehind, .inl (cJ, 30, .inr (.inl g42)))]) (wm := [(a_r1, .inr (6, [.int r1_longest, .int r1_perLong, .int r1_perHanding, .int r1_wants, .ref a_r1_against])), (a_r1_against, .inl (cI, 112, .inl r1_against)), (a_t, .inr (2, [.ref a_t_costBehind, .ref a_t_planBehind, .int t_leastCost, .long t_bestPlan])), (a_t_costBehind, .inl (cI, 30, .inl g41)), (a_t_planBehind, .inl (cJ, 30, .inr (.inl g42)))]) ⟨hx, hb, hml, hown, hts⟩ (ct_X3_priceWithin l dC dI cI cJ cB cZ a_r1 a_r1_against r1_longest r1_perLong r1_perHanding r1_wants r1_against x40 (0 : Int32) p4 x74 u75 he76) gX3_find_X3_priceWithin hd_X3_priceWithin rfl rfl rfl ⟨Nat.le_of_ble_eq_true rfl, Nat.le_of_ble_eq_true rfl⟩ ⟨Nat.le_of_ble_eq_true rfl, Nat.le_of_ble_eq_true rfl⟩ rfl rfl (Nat.le_of_ble_eq_true rfl) dX3_find_50 hl.1 hP hK hD hS hA [0, 1] [2, 3, 4] [3, 4, 0, 1, 2] rfl rfl (by decide) (by decide) (by decide) (by decide) rfl (fun H locs hP hD hS => ?_)
          refine lv_istore (lv' := [(7, .int x74), (0, .ref a_t), (1, .ref a_r1), (2, .long p2), (4, .long p4), (6, .int x40)]) hx hb dX3_find_53 hl (by decide) rfl (fun ls hl => ?_)
          refine lv_aload_n hx hb dX3_find_55 rfl (lv_at hl 2 rfl) ?_
          refine lv_iload hx hb dX3_find_56 (lv_at hl 5 rfl) ?_
          refine lv_iconst (v := 1) hx hb dX3_find_58 (by decide) ?_
          refine lv_lload_n hx hb dX3_find_59 rfl (lv_at hl 3 rfl) ?_
          obtain ⟨x77, u78, he79, hb42⟩ := zz_b2E hb42
          refine zz_SI (As := [.ref a_r1, .int x40, .int 1, .long p2]) (rest := []) (wr := [(a_t, .inr (2, [.ref a_t_costBehind, .ref a_t_planBehind, .int t_leastCost, .long t_bestPlan])), (a_t_costBehind, .inl (cI, 30, .inl g41)), (a_t_planBehind, .inl (cJ, 30, .inr (.inl g42)))]) (wm := [(a_r1, .inr (6, [.int r1_longest, .int r1_perLong, .int r1_perHanding, .int r1_wants, .ref a_r1_against])), (a_r1_against, .inl (cI, 112, .inl r1_against)), (a_t, .inr (2, [.ref a_t_costBehind, .ref a_t_planBehind, .int t_leastCost, .long t_bestPlan])), (a_t_costBehind, .inl (cI, 30, .inl g41)), (a_t_planBehind, .inl (cJ, 30, .inr (.inl g42)))]) ⟨hx, hb, hml, hown, hts⟩ (ct_X3_priceWithin l dC dI cI cJ cB cZ a_r1 a_r1_against r1_longest r1_perLong r1_perHanding r1_wants r1_against x40 (1 : Int32) p2 x77 u78 he79) gX3_find_X3_priceWithin hd_X3_priceWithin rfl rfl rfl ⟨Nat.le_of_ble_eq_true rfl, Nat.le_of_ble_eq_true rfl⟩ ⟨Nat.le_of_ble_eq_true rfl, Nat.le_of_ble_eq_true rfl⟩ rfl rfl (Nat.le_of_ble_eq_true rfl) dX3_find_60 hl.1 hP hK hD hS hA [0, 1] [2, 3, 4] [3, 4, 0, 1, 2] rfl rfl (by decide) (by decide) (by decide) (by decide) rfl (fun H locs hP hD hS => ?_)
          refine lv_istore (lv' := [(8, .int x77), (7, .int x74), (0, .ref a_t), (1, .ref a_r1), (2, .long p2), (4, .long p4), (6, .int x40)]) hx hb dX3_find_63 hl (by decide) rfl (fun ls hl => ?_)
          refine lv_aload_n hx hb dX3_find_65 rfl (lv_at hl 2 rfl) ?_
          refine lv_aload_n hx hb dX3_find_66 rfl (lv_at hl 3 rfl) ?_
          refine lv_iload hx hb dX3_find_67 (lv_at hl 6 rfl) ?_
          refine lv_iload hx hb dX3_find_69 (lv_at hl 1 rfl) ?_
          refine lv_iload hx hb dX3_find_71 (lv_at hl 0 rfl) ?_
          obtain ⟨g80, g81, he82, hb42⟩ := zz_b2E hb42
          refine zz_VV (q := (RX3, TX3, 4)) (As := [.ref a_r1, .int x40, .int x74, .int x77]) (rest := []) (wr := [(a_r1_against, .inl (cI, 112, .inl r1_against))]) (wm := [(a_r1, .inr (6, [.int r1_longest, .int r1_perLong, .int r1_perHanding, .int r1_wants, .ref a_r1_against])), (a_r1_against, .inl (cI, 112, .inl r1_against)), (a_t, .inr (2, [.ref a_t_costBehind, .ref a_t_planBehind, .int t_leastCost, .long t_bestPlan])), (a_t_costBehind, .inl (cI, 30, .inl g80)), (a_t_planBehind, .inl (cJ, 30, .inr (.inl g81)))]) ⟨hx, hb, hml, hown, hts⟩ (ct_X3_stepAhead l dC dI cI cJ cB cZ a_r1 a_t a_t_costBehind a_t_planBehind a_r1_against r1_longest r1_perLong r1_perHanding r1_wants t_leastCost t_bestPlan g41 g42 x40 x74 x77 g80 g81 he82) gX3_find_X3_stepAhead hd_X3_stepAhead rfl rfl rfl ⟨Nat.le_of_ble_eq_true rfl, Nat.le_of_ble_eq_true rfl⟩ ⟨Nat.le_of_ble_eq_true rfl, Nat.le_of_ble_eq_true rfl⟩ rfl rfl (Nat.le_of_ble_eq_true rfl) dX3_find_73 hl.1 rfl (ci := 2) rfl (q0 := 2) rfl hP hK hD hS hA [0, 2, 3, 4] [1] [1, 0, 2, 3, 4] rfl rfl (by decide) (by decide) (by decide) (by decide) rfl (fun H locs hP hD hS => ?_)
          obtain ⟨x83, ex83⟩ : ∃ z : Int32, z = x40 + (-1) := ⟨_, rfl⟩
          have hb42 := zz_nmE ex83 hb42
          refine lv_iinc (v := x83) (lv' := [(6, .int x83), (8, .int x77), (7, .int x74), (0, .ref a_t), (1, .ref a_r1), (2, .long p2), (4, .long p4)]) hx hb dX3_find_76 hl (k := 6) rfl (by rw [ex83]; rfl) (by decide) rfl (fun ls hl => ?_)
          refine lv_goto (tgt := 39) hx hb dX3_find_79 (by decide) ?_
          obtain rfl := Option.some.inj hb42
          exact ih42 x83 g80 g81 _ _ ls hy42 hP hD hS (lv_sub hl [3, 4, 5, 6, 0] rfl)
    exact hL42 zz_fuel 55 g16 g17 _ _ ls hit42 hP hD hS (lv_sub hl [1, 2, 3, 4, 0] rfl)
  refine zz_cut (fun V => ∀ (n : Nat) (x13 : Int32) (g14 : (Nat → Int32)) (g15 : (Nat → Int64)) (H : Heap) (locs : List Loc) (ls : Array Slot), zz_it (fun z => fb_X3_find_3 z.1 z.2.1 z.2.2) n (x13, g14, g15) = some (g16, g17) → va_P (dC, dI) vwCl [(a_r1, .inr (6, [.int r1_longest, .int r1_perLong, .int r1_perHanding, .int r1_wants, .ref a_r1_against])), (a_r1_against, .inl (cI, 112, .inl r1_against)), (a_t, .inr (2, [.ref a_t_costBehind, .ref a_t_planBehind, .int t_leastCost, .long t_bestPlan])), (a_t_costBehind, .inl (cI, 30, .inl g14)), (a_t_planBehind, .inl (cJ, 30, .inr (.inl g15)))] H → va_D A [(a_r1, .inr (6, [.int r1_longest, .int r1_perLong, .int r1_perHanding, .int r1_wants, .ref a_r1_against])), (a_r1_against, .inl (cI, 112, .inl r1_against)), (a_t, .inr (2, [.ref a_t_costBehind, .ref a_t_planBehind, .int t_leastCost, .long t_bestPlan])), (a_t_costBehind, .inl (cI, 30, .inl g14)), (a_t_planBehind, .inl (cJ, 30, .inr (.inl g15)))] → va_S A s.heap H locs → lv_has ls 9 [(0, .ref a_t), (1, .ref a_r1), (2, .long p2), (4, .long p4), (6, .int x13)] → V H locs (F0 m 3 ls [])) ?_ (fun hL15 => ?_)
  · intro n
    induction n with
    | zero => intro x13 g14 g15 H locs ls hit15; exact (zz_it0 hit15).elim
    | succ n ih15 =>
      intro x13 g14 g15 H locs ls hit15 hP hD hS hl
      obtain ⟨y15, hb15, hy15⟩ := zz_itE hit15
      have hb15 : fb_X3_find_3 x13 g14 g15 = some y15 := hb15
      unfold fb_X3_find_3 at hb15
      refine lv_iload hx hb dX3_find_3 (lv_at hl 4 rfl) ?_
      refine lv_aload_n hx hb dX3_find_5 rfl (lv_at hl 0 rfl) ?_
      refine va_get (ci := 2) (v := .ref a_t_costBehind) (C := RX3) (T := TX3) (N := 4) hx hb hts in_X3_find_X3 hown hK hP 2 rfl rfl 0 (by decide) (hts _ lk_X3_find_0) (fun _ h9 => h9) rfl dX3_find_6 ?_
      refine va_alen (v := 30) hx hb hK hP 3 0 rfl rfl rfl dX3_find_9 ?_
      refine lv_icmp_ge (tgt := 35) hx hb dX3_find_10 (by decide) (fun c84 => ?_) (fun c84 => ?_)
      · have hb15 := zz_if c84 hb15
        obtain rfl := Option.some.inj hb15
        have hy15 := Option.some.inj hy15
        cases hy15
        exact hE15 _ _ ls hP hD hS (lv_sub hl [0, 1, 2, 3] rfl)
      · have hb15 := zz_ifn c84 hb15
        refine lv_aload_n hx hb dX3_find_13 rfl (lv_at hl 0 rfl) ?_
        refine va_get (ci := 2) (v := .ref a_t_costBehind) (C := RX3) (T := TX3) (N := 4) hx hb hts in_X3_find_X3 hown hK hP 2 rfl rfl 0 (by decide) (hts _ lk_X3_find_0) (fun _ h9 => h9) rfl dX3_find_14 ?_
        refine lv_iload hx hb dX3_find_17 (lv_at hl 4 rfl) ?_
        refine lv_iconst (v := 0) hx hb dX3_find_19 (by decide) ?_
        obtain ⟨hi85, hb15⟩ := zz_chkE hb15
        refine zz_iast hx hb hK hP hD hS 3 0 rfl rfl hi85 dX3_find_20 (fun g86 => [(a_r1, .inr (6, [.int r1_longest, .int r1_perLong, .int r1_perHanding, .int r1_wants, .ref a_r1_against])), (a_r1_against, .inl (cI, 112, .inl r1_against)), (a_t, .inr (2, [.ref a_t_costBehind, .ref a_t_planBehind, .int t_leastCost, .long t_bestPlan])), (a_t_costBehind, .inl (cI, 30, .inl g86)), (a_t_planBehind, .inl (cJ, 30, .inr (.inl g15)))]) (fun _ => rfl) (fun g86 H locs eg86 hP hD hS => ?_)
        have hb15 := zz_nmE eg86 hb15
        refine lv_aload_n hx hb dX3_find_21 rfl (lv_at hl 0 rfl) ?_
        refine va_get (ci := 2) (v := .ref a_t_planBehind) (C := RX3) (T := TX3) (N := 4) hx hb hts in_X3_find_X3 hown hK hP 2 rfl rfl 1 (by decide) (hts _ lk_X3_find_1) (fun _ h9 => h9) rfl dX3_find_22 ?_
        refine lv_iload hx hb dX3_find_25 (lv_at hl 4 rfl) ?_
        refine lv_lconst (v := 0) hx hb dX3_find_27 (by decide) ?_
        obtain ⟨hi87, hb15⟩ := zz_chkE hb15
        refine zz_last hx hb hK hP hD hS 4 1 rfl rfl hi87 dX3_find_28 (fun g88 => [(a_r1, .inr (6, [.int r1_longest, .int r1_perLong, .int r1_perHanding, .int r1_wants, .ref a_r1_against])), (a_r1_against, .inl (cI, 112, .inl r1_against)), (a_t, .inr (2, [.ref a_t_costBehind, .ref a_t_planBehind, .int t_leastCost, .long t_bestPlan])), (a_t_costBehind, .inl (cI, 30, .inl g86)), (a_t_planBehind, .inl (cJ, 30, .inr (.inl g88)))]) (fun _ => rfl) (fun g88 H locs eg88 hP hD hS => ?_)
        have hb15 := zz_nmE eg88 hb15
        obtain ⟨x89, ex89⟩ : ∃ z : Int32, z = x13 + 1 := ⟨_, rfl⟩
        have hb15 := zz_nmE ex89 hb15
        refine lv_iinc (v := x89) (lv' := [(6, .int x89), (0, .ref a_t), (1, .ref a_r1), (2, .long p2), (4, .long p4)]) hx hb dX3_find_29 hl (k := 4) rfl (by rw [ex89]; rfl) (by decide) rfl (fun ls hl => ?_)
        refine lv_goto (tgt := 3) hx hb dX3_find_32 (by decide) ?_
        obtain rfl := Option.some.inj hb15
        exact ih15 x89 g86 g88 _ _ ls hy15 hP hD hS (lv_sub hl [1, 2, 3, 4, 0] rfl)
  exact hL15 zz_fuel 0 t_costBehind t_planBehind _ _ ls hit15 hP hD hS (lv_sub hl [1, 2, 3, 4, 0] rfl)
theorem hd_X4_whoseIs : yX4_whoseIs.cls ≠ "java/lang/invoke/MethodHandle" ∧ yX4_whoseIs.cls ≠ "java/lang/invoke/VarHandle" ∧ (parseMethodDescriptor yX4_whoseIs.desc).map (fun d => d.parameters.length) = some 1 := by decide +kernel
set_option maxHeartbeats 4000000 in
set_option maxRecDepth 100000 in
theorem ct_X4_whoseIs (l : Launch) (dC : Nat → ClassId) (dI : Nat → Nat → Nat) (cI cJ cB cZ : ClassId) (a_t : Nat) (t_zero : Int64) (t_one : Int64) (t_fights : Int64) (p1 : Int32) (rr : Int32) (u0 : Unit) (h : fn_X4_whoseIs t_zero t_one t_fights p1 = some (rr, u0)) : zz_M l yX4_whoseIs wsX4_whoseIs ({ frames := 1, cells := 0, slots := 0, locals := 22 }) (dC, dI) (zz_T cI cJ cB cZ) [.ref a_t, .int p1] [(a_t, .inr (3, [.long t_zero, .long t_one, .long t_fights]))] (zz_QI (dC, dI) (zz_T cI cJ cB cZ) (rr, u0) (fun (u : Unit) => [(a_t, .inr (3, [.long t_zero, .long t_one, .long t_fights]))])) := by
  unfold fn_X4_whoseIs at h
  refine zz_of (by decide) rfl (Nat.le_of_ble_eq_true rfl) ?_
  intro p e s m below meth c A ls hx hb hr hml hts hown hlocks hA hS hP hK hD hl
  have hown : s.vm.findClass RX4 = some m.cls := hown
  have hl : lv_has ls 3 [(0, .ref a_t), (1, .int p1)] := hl
  refine lv_iconst (v := 0) hx hb dX4_whoseIs_0 (by decide) ?_
  refine lv_istore_n (lv' := [(2, .int 0), (0, .ref a_t), (1, .int p1)]) hx hb dX4_whoseIs_1 rfl hl (by decide) rfl (fun ls hl => ?_)
  obtain ⟨x20, hit19, h⟩ := zz_b1E h
  refine zz_cut (fun V => ∀ (H : Heap) (locs : List Loc) (ls : Array Slot), va_P (dC, dI) vwCl [(a_t, .inr (3, [.long t_zero, .long t_one, .long t_fights]))] H → va_D A [(a_t, .inr (3, [.long t_zero, .long t_one, .long t_fights]))] → va_S A s.heap H locs → lv_has ls 3 [(2, .int x20)] → V H locs (F0 m 25 ls [])) ?_ (fun hE19 => ?_)
  · intro H locs ls hP hD hS hl
    refine lv_iload_n hx hb dX4_whoseIs_25 rfl (lv_at hl 0 rfl) ?_
    exact zz_iret () hx hb hr hlocks dX4_whoseIs_26 (Option.some.inj h) hP hK hD hS
  refine zz_cut (fun V => ∀ (n : Nat) (x19 : Int32) (H : Heap) (locs : List Loc) (ls : Array Slot), zz_it (fun z => fb_X4_whoseIs_2 p1 t_zero t_one t_fights z) n x19 = some x20 → va_P (dC, dI) vwCl [(a_t, .inr (3, [.long t_zero, .long t_one, .long t_fights]))] H → va_D A [(a_t, .inr (3, [.long t_zero, .long t_one, .long t_fights]))] → va_S A s.heap H locs → lv_has ls 3 [(0, .ref a_t), (1, .int p1), (2, .int x19)] → V H locs (F0 m 2 ls [])) ?_ (fun hL19 => ?_)
  · intro n
    induction n with
    | zero => intro x19 H locs ls hit19; exact (zz_it0 hit19).elim
    | succ n ih19 =>
      intro x19 H locs ls hit19 hP hD hS hl
      obtain ⟨y19, hb19, hy19⟩ := zz_itE hit19
      have hb19 : fb_X4_whoseIs_2 p1 t_zero t_one t_fights x19 = some y19 := hb19
      unfold fb_X4_whoseIs_2 at hb19
      refine lv_iload_n hx hb dX4_whoseIs_2 rfl (lv_at hl 2 rfl) ?_
      refine lv_iconst (v := 3) hx hb dX4_whoseIs_3 (by decide) ?_
      refine lv_icmp_ge (tgt := 25) hx hb dX4_whoseIs_4 (by decide) (fun c21 => ?_) (fun c21 => ?_)
      · have hb19 := zz_if c21 hb19
        obtain rfl := Option.some.inj hb19
        have hy19 := Option.some.inj hy19
        cases hy19
        exact hE19 _ _ ls hP hD hS (lv_sub hl [2] rfl)
      · have hb19 := zz_ifn c21 hb19
        refine lv_aload_n hx hb dX4_whoseIs_7 rfl (lv_at hl 0 rfl) ?_
        refine lv_iload_n hx hb dX4_whoseIs_8 rfl (lv_at hl 2 rfl) ?_
        obtain ⟨x22, u23, he24, hb19⟩ := zz_b2E hb19
        refine zz_VL (q := (RX4, TX4, 3)) (As := [.int x19]) (rest := []) (wr := []) (wm := [(a_t, .inr (3, [.long t_zero, .long t_one, .long t_fights]))]) ⟨hx, hb, hml, hown, hts⟩ (ct_X4_nightsThatAre l dC dI cI cJ cB cZ a_t t_zero t_one t_fights x19 x22 u23 he24) gX4_whoseIs_X4_nightsThatAre hd_X4_nightsThatAre rfl rfl rfl ⟨Nat.le_of_ble_eq_true rfl, Nat.le_of_ble_eq_true rfl⟩ ⟨Nat.le_of_ble_eq_true rfl, Nat.le_of_ble_eq_true rfl⟩ rfl rfl (Nat.le_of_ble_eq_true rfl) dX4_whoseIs_9 hl.1 rfl (ci := 3) rfl (q0 := 0) rfl hP hK hD hS hA [0] [] [0] rfl rfl (by decide) (by decide) (by decide) (by decide) rfl (fun H locs hP hD hS => ?_)
        refine lv_iload_n hx hb dX4_whoseIs_12 rfl (lv_at hl 1 rfl) ?_
        obtain ⟨x25, u26, he27, hb19⟩ := zz_b2E hb19
        refine zz_PI (As := [.long x22, .int p1]) (rest := []) ⟨hx, hb, hml, hown, hts⟩ (ct_X1_holds l dC dI cI cJ cB cZ x22 p1 x25 u26 he27) gX4_whoseIs_X1_holds hd_X1_holds rfl rfl rfl ⟨Nat.le_of_ble_eq_true rfl, Nat.le_of_ble_eq_true rfl⟩ ⟨Nat.le_of_ble_eq_true rfl, Nat.le_of_ble_eq_true rfl⟩ rfl rfl (Nat.le_of_ble_eq_true rfl) dX4_whoseIs_13 hl.1 hP hK hS hA (fun H locs hP hS => ?_)
        refine lv_if_ne (tgt := 25) hx hb dX4_whoseIs_16 (by decide) (fun c28 => ?_) (fun c28 => ?_)
        · have hb19 := zz_ifn c28 hb19
          obtain rfl := Option.some.inj hb19
          have hy19 := Option.some.inj hy19
          cases hy19
          exact hE19 _ _ ls hP hD hS (lv_sub hl [2] rfl)
        · have hb19 := zz_if c28 hb19
          obtain ⟨x29, ex29⟩ : ∃ z : Int32, z = x19 + 1 := ⟨_, rfl⟩
          have hb19 := zz_nmE ex29 hb19
          refine lv_iinc (v := x29) (lv' := [(2, .int x29), (0, .ref a_t), (1, .int p1)]) hx hb dX4_whoseIs_19 hl (k := 2) rfl (by rw [ex29]; rfl) (by decide) rfl (fun ls hl => ?_)
          refine lv_goto (tgt := 2) hx hb dX4_whoseIs_22 (by decide) ?_
          obtain rfl := Option.some.inj hb19
          exact ih19 x29 _ _ ls hy19 hP hD hS (lv_sub hl [1, 2, 0] rfl)
  exact hL19 zz_fuel 0 _ _ ls hit19 hP hD hS (lv_sub hl [1, 2, 0] rfl)
