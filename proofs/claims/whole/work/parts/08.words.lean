abbrev sIadd : gSem := sBin (fun x y => x + y)
abbrev sIsub : gSem := sBin (fun x y => x - y)
abbrev sImul : gSem := sBin (fun x y => x * y)
abbrev sIand : gSem := sBin (fun x y => x &&& y)
abbrev sIor : gSem := sBin (fun x y => x ||| y)
abbrev sIxor : gSem := sBin (fun x y => x ^^^ y)
abbrev sIshl : gSem := sBin (fun x y => x <<< (y &&& 31))
abbrev sIshr : gSem := sBin (fun x y => x >>> (y &&& 31))
abbrev sIushr : gSem := sBin (fun x y => (x.toUInt32 >>> (y.toUInt32 &&& Int32.toUInt32 31)).toInt32)
abbrev sLadd : gSem := sBinL (fun x y => x + y)
abbrev sLsub : gSem := sBinL (fun x y => x - y)
abbrev sLmul : gSem := sBinL (fun x y => x * y)
abbrev sLand : gSem := sBinL (fun x y => x &&& y)
abbrev sLor : gSem := sBinL (fun x y => x ||| y)
abbrev sLshl : gSem := sShL (fun x y => x <<< (y.toInt64 &&& 63))
abbrev sLshr : gSem := sShL (fun x y => x >>> (y.toInt64 &&& 63))
abbrev sIdiv : gSem := sDiv (fun x y => x / y)
abbrev sIrem : gSem := sDiv (fun x y => x - x / y * y)
abbrev sLdiv : gSem := sDivL (fun x y => x / y)
abbrev sLrem : gSem := sDivL (fun x y => x - x / y * y)
abbrev sI2b : gSem := sUn (fun x => x.toInt8.toInt32)
abbrev sI2s : gSem := sUn (fun x => x.toInt16.toInt32)
abbrev sMmax : gSem := sMM (fun x y => if x < y then y else x)
abbrev sMmin : gSem := sMM (fun x y => if y < x then y else x)
abbrev sIfeq (t : Nat) : gSem := sIf1 (fun x => decide (x = 0)) t
abbrev sIfne (t : Nat) : gSem := sIf1 (fun x => decide (¬ x = 0)) t
abbrev sIflt (t : Nat) : gSem := sIf1 (fun x => decide (x < 0)) t
abbrev sIfge (t : Nat) : gSem := sIf1 (fun x => decide (0 ≤ x)) t
abbrev sIfgt (t : Nat) : gSem := sIf1 (fun x => decide (0 < x)) t
abbrev sIfle (t : Nat) : gSem := sIf1 (fun x => decide (x ≤ 0)) t
abbrev sCmpeq (t : Nat) : gSem := sIf2 (fun x y => decide (x = y)) t
abbrev sCmpne (t : Nat) : gSem := sIf2 (fun x y => decide (¬ x = y)) t
abbrev sCmplt (t : Nat) : gSem := sIf2 (fun x y => decide (x < y)) t
abbrev sCmpge (t : Nat) : gSem := sIf2 (fun x y => decide (y ≤ x)) t
abbrev sCmpgt (t : Nat) : gSem := sIf2 (fun x y => decide (y < x)) t
abbrev sCmple (t : Nat) : gSem := sIf2 (fun x y => decide (x ≤ y)) t
theorem inW0 : ∀ w ∈ u_ws RX0 TX0 1, w ∈ gW := by decide +kernel
theorem inW1 : ∀ w ∈ u_ws RX1 TX1 4, w ∈ gW := by decide +kernel
theorem inW2 : ∀ w ∈ u_ws RX2 TX2 4, w ∈ gW := by decide +kernel
theorem inW3 : ∀ w ∈ u_ws RX3 TX3 2, w ∈ gW := by decide +kernel
theorem inW4 : ∀ w ∈ u_ws RX4 TX4 1, w ∈ gW := by decide +kernel
theorem inW5 : ∀ w ∈ u_ws RX5 TX5 1, w ∈ gW := by decide +kernel
theorem inW6 : ∀ w ∈ u_ws RX6 TX6 10, w ∈ gW := by decide +kernel
theorem inW7 : ∀ w ∈ u_ws RX7 TX7 4, w ∈ gW := by decide +kernel
theorem inW8 : ∀ w ∈ u_ws RX8 TX8 3, w ∈ gW := by decide +kernel
theorem inW9 : ∀ w ∈ u_ws RX9 TX9 8, w ∈ gW := by decide +kernel
theorem inW10 : ∀ w ∈ u_ws RX10 TX10 13, w ∈ gW := by decide +kernel
theorem inW11 : ∀ w ∈ u_ws RX11 TX11 29, w ∈ gW := by decide +kernel
theorem mp_0 : yX0_size.cls ≠ "java/lang/invoke/MethodHandle" ∧ yX0_size.cls ≠ "java/lang/invoke/VarHandle" ∧ (parseMethodDescriptor yX0_size.desc).map (fun d => d.parameters.length) = some 0 := by decide +kernel
theorem mp_1 : yX0_has.cls ≠ "java/lang/invoke/MethodHandle" ∧ yX0_has.cls ≠ "java/lang/invoke/VarHandle" ∧ (parseMethodDescriptor yX0_has.desc).map (fun d => d.parameters.length) = some 1 := by decide +kernel
theorem mp_2 : yX0_kindOf.cls ≠ "java/lang/invoke/MethodHandle" ∧ yX0_kindOf.cls ≠ "java/lang/invoke/VarHandle" ∧ (parseMethodDescriptor yX0_kindOf.desc).map (fun d => d.parameters.length) = some 1 := by decide +kernel
theorem mp_3 : yX0_beginOf.cls ≠ "java/lang/invoke/MethodHandle" ∧ yX0_beginOf.cls ≠ "java/lang/invoke/VarHandle" ∧ (parseMethodDescriptor yX0_beginOf.desc).map (fun d => d.parameters.length) = some 1 := by decide +kernel
theorem mp_4 : yX0_sparksOf.cls ≠ "java/lang/invoke/MethodHandle" ∧ yX0_sparksOf.cls ≠ "java/lang/invoke/VarHandle" ∧ (parseMethodDescriptor yX0_sparksOf.desc).map (fun d => d.parameters.length) = some 1 := by decide +kernel
theorem mp_5 : yX1_follow.cls ≠ "java/lang/invoke/MethodHandle" ∧ yX1_follow.cls ≠ "java/lang/invoke/VarHandle" ∧ (parseMethodDescriptor yX1_follow.desc).map (fun d => d.parameters.length) = some 5 := by decide +kernel
theorem mp_6 : yX1_beginIn.cls ≠ "java/lang/invoke/MethodHandle" ∧ yX1_beginIn.cls ≠ "java/lang/invoke/VarHandle" ∧ (parseMethodDescriptor yX1_beginIn.desc).map (fun d => d.parameters.length) = some 2 := by decide +kernel
theorem mp_7 : yX1_stateIn.cls ≠ "java/lang/invoke/MethodHandle" ∧ yX1_stateIn.cls ≠ "java/lang/invoke/VarHandle" ∧ (parseMethodDescriptor yX1_stateIn.desc).map (fun d => d.parameters.length) = some 1 := by decide +kernel
theorem mp_8 : yX2_add.cls ≠ "java/lang/invoke/MethodHandle" ∧ yX2_add.cls ≠ "java/lang/invoke/VarHandle" ∧ (parseMethodDescriptor yX2_add.desc).map (fun d => d.parameters.length) = some 3 := by decide +kernel
theorem mp_9 : yX2_dropLast.cls ≠ "java/lang/invoke/MethodHandle" ∧ yX2_dropLast.cls ≠ "java/lang/invoke/VarHandle" ∧ (parseMethodDescriptor yX2_dropLast.desc).map (fun d => d.parameters.length) = some 0 := by decide +kernel
theorem mp_10 : yX2_clear.cls ≠ "java/lang/invoke/MethodHandle" ∧ yX2_clear.cls ≠ "java/lang/invoke/VarHandle" ∧ (parseMethodDescriptor yX2_clear.desc).map (fun d => d.parameters.length) = some 0 := by decide +kernel
theorem mp_11 : yX2_holding.cls ≠ "java/lang/invoke/MethodHandle" ∧ yX2_holding.cls ≠ "java/lang/invoke/VarHandle" ∧ (parseMethodDescriptor yX2_holding.desc).map (fun d => d.parameters.length) = some 3 := by decide +kernel
theorem mp_12 : yX2_hindering.cls ≠ "java/lang/invoke/MethodHandle" ∧ yX2_hindering.cls ≠ "java/lang/invoke/VarHandle" ∧ (parseMethodDescriptor yX2_hindering.desc).map (fun d => d.parameters.length) = some 3 := by decide +kernel
theorem mp_13 : yX3_grow.cls ≠ "java/lang/invoke/MethodHandle" ∧ yX3_grow.cls ≠ "java/lang/invoke/VarHandle" ∧ (parseMethodDescriptor yX3_grow.desc).map (fun d => d.parameters.length) = some 2 := by decide +kernel
theorem mp_14 : yX3_yellowIn.cls ≠ "java/lang/invoke/MethodHandle" ∧ yX3_yellowIn.cls ≠ "java/lang/invoke/VarHandle" ∧ (parseMethodDescriptor yX3_yellowIn.desc).map (fun d => d.parameters.length) = some 1 := by decide +kernel
theorem mp_15 : yX3_seemingIn.cls ≠ "java/lang/invoke/MethodHandle" ∧ yX3_seemingIn.cls ≠ "java/lang/invoke/VarHandle" ∧ (parseMethodDescriptor yX3_seemingIn.desc).map (fun d => d.parameters.length) = some 1 := by decide +kernel
theorem mp_16 : yX4_size.cls ≠ "java/lang/invoke/MethodHandle" ∧ yX4_size.cls ≠ "java/lang/invoke/VarHandle" ∧ (parseMethodDescriptor yX4_size.desc).map (fun d => d.parameters.length) = some 0 := by decide +kernel
theorem mp_17 : yX4_has.cls ≠ "java/lang/invoke/MethodHandle" ∧ yX4_has.cls ≠ "java/lang/invoke/VarHandle" ∧ (parseMethodDescriptor yX4_has.desc).map (fun d => d.parameters.length) = some 1 := by decide +kernel
theorem mp_18 : yX4_monthOf.cls ≠ "java/lang/invoke/MethodHandle" ∧ yX4_monthOf.cls ≠ "java/lang/invoke/VarHandle" ∧ (parseMethodDescriptor yX4_monthOf.desc).map (fun d => d.parameters.length) = some 1 := by decide +kernel
theorem mp_19 : yX4_bushOf.cls ≠ "java/lang/invoke/MethodHandle" ∧ yX4_bushOf.cls ≠ "java/lang/invoke/VarHandle" ∧ (parseMethodDescriptor yX4_bushOf.desc).map (fun d => d.parameters.length) = some 1 := by decide +kernel
theorem mp_20 : yX5_draw.cls ≠ "java/lang/invoke/MethodHandle" ∧ yX5_draw.cls ≠ "java/lang/invoke/VarHandle" ∧ (parseMethodDescriptor yX5_draw.desc).map (fun d => d.parameters.length) = some 1 := by decide +kernel
theorem mp_21 : yX6_reckon.cls ≠ "java/lang/invoke/MethodHandle" ∧ yX6_reckon.cls ≠ "java/lang/invoke/VarHandle" ∧ (parseMethodDescriptor yX6_reckon.desc).map (fun d => d.parameters.length) = some 1 := by decide +kernel
theorem mp_22 : yX6_runWith.cls ≠ "java/lang/invoke/MethodHandle" ∧ yX6_runWith.cls ≠ "java/lang/invoke/VarHandle" ∧ (parseMethodDescriptor yX6_runWith.desc).map (fun d => d.parameters.length) = some 2 := by decide +kernel
theorem mp_23 : yX6_countFires.cls ≠ "java/lang/invoke/MethodHandle" ∧ yX6_countFires.cls ≠ "java/lang/invoke/VarHandle" ∧ (parseMethodDescriptor yX6_countFires.desc).map (fun d => d.parameters.length) = some 1 := by decide +kernel
theorem mp_24 : yX6_gatherLooks.cls ≠ "java/lang/invoke/MethodHandle" ∧ yX6_gatherLooks.cls ≠ "java/lang/invoke/VarHandle" ∧ (parseMethodDescriptor yX6_gatherLooks.desc).map (fun d => d.parameters.length) = some 0 := by decide +kernel
theorem mp_25 : yX6_worthOf.cls ≠ "java/lang/invoke/MethodHandle" ∧ yX6_worthOf.cls ≠ "java/lang/invoke/VarHandle" ∧ (parseMethodDescriptor yX6_worthOf.desc).map (fun d => d.parameters.length) = some 2 := by decide +kernel
theorem mp_26 : yX6_behind.cls ≠ "java/lang/invoke/MethodHandle" ∧ yX6_behind.cls ≠ "java/lang/invoke/VarHandle" ∧ (parseMethodDescriptor yX6_behind.desc).map (fun d => d.parameters.length) = some 3 := by decide +kernel
theorem mp_27 : yX6_bounded.cls ≠ "java/lang/invoke/MethodHandle" ∧ yX6_bounded.cls ≠ "java/lang/invoke/VarHandle" ∧ (parseMethodDescriptor yX6_bounded.desc).map (fun d => d.parameters.length) = some 1 := by decide +kernel
theorem mp_28 : yX7_add.cls ≠ "java/lang/invoke/MethodHandle" ∧ yX7_add.cls ≠ "java/lang/invoke/VarHandle" ∧ (parseMethodDescriptor yX7_add.desc).map (fun d => d.parameters.length) = some 3 := by decide +kernel
theorem mp_29 : yX7_clear.cls ≠ "java/lang/invoke/MethodHandle" ∧ yX7_clear.cls ≠ "java/lang/invoke/VarHandle" ∧ (parseMethodDescriptor yX7_clear.desc).map (fun d => d.parameters.length) = some 0 := by decide +kernel
theorem mp_30 : yX7_comeOut.cls ≠ "java/lang/invoke/MethodHandle" ∧ yX7_comeOut.cls ≠ "java/lang/invoke/VarHandle" ∧ (parseMethodDescriptor yX7_comeOut.desc).map (fun d => d.parameters.length) = some 1 := by decide +kernel
theorem mp_31 : yX8_isLost.cls ≠ "java/lang/invoke/MethodHandle" ∧ yX8_isLost.cls ≠ "java/lang/invoke/VarHandle" ∧ (parseMethodDescriptor yX8_isLost.desc).map (fun d => d.parameters.length) = some 0 := by decide +kernel
theorem mp_32 : yX8_renew.cls ≠ "java/lang/invoke/MethodHandle" ∧ yX8_renew.cls ≠ "java/lang/invoke/VarHandle" ∧ (parseMethodDescriptor yX8_renew.desc).map (fun d => d.parameters.length) = some 2 := by decide +kernel
theorem mp_33 : yX8_discard.cls ≠ "java/lang/invoke/MethodHandle" ∧ yX8_discard.cls ≠ "java/lang/invoke/VarHandle" ∧ (parseMethodDescriptor yX8_discard.desc).map (fun d => d.parameters.length) = some 0 := by decide +kernel
theorem mp_34 : yX8_hasItems.cls ≠ "java/lang/invoke/MethodHandle" ∧ yX8_hasItems.cls ≠ "java/lang/invoke/VarHandle" ∧ (parseMethodDescriptor yX8_hasItems.desc).map (fun d => d.parameters.length) = some 2 := by decide +kernel
theorem mp_35 : yX8_item.cls ≠ "java/lang/invoke/MethodHandle" ∧ yX8_item.cls ≠ "java/lang/invoke/VarHandle" ∧ (parseMethodDescriptor yX8_item.desc).map (fun d => d.parameters.length) = some 1 := by decide +kernel
theorem mp_36 : yX8_put.cls ≠ "java/lang/invoke/MethodHandle" ∧ yX8_put.cls ≠ "java/lang/invoke/VarHandle" ∧ (parseMethodDescriptor yX8_put.desc).map (fun d => d.parameters.length) = some 2 := by decide +kernel
theorem mp_37 : yX8_narrowed.cls ≠ "java/lang/invoke/MethodHandle" ∧ yX8_narrowed.cls ≠ "java/lang/invoke/VarHandle" ∧ (parseMethodDescriptor yX8_narrowed.desc).map (fun d => d.parameters.length) = some 1 := by decide +kernel
theorem mp_38 : yX9_put.cls ≠ "java/lang/invoke/MethodHandle" ∧ yX9_put.cls ≠ "java/lang/invoke/VarHandle" ∧ (parseMethodDescriptor yX9_put.desc).map (fun d => d.parameters.length) = some 1 := by decide +kernel
theorem mp_39 : yX9_clear.cls ≠ "java/lang/invoke/MethodHandle" ∧ yX9_clear.cls ≠ "java/lang/invoke/VarHandle" ∧ (parseMethodDescriptor yX9_clear.desc).map (fun d => d.parameters.length) = some 0 := by decide +kernel
theorem mp_40 : yX9_drop.cls ≠ "java/lang/invoke/MethodHandle" ∧ yX9_drop.cls ≠ "java/lang/invoke/VarHandle" ∧ (parseMethodDescriptor yX9_drop.desc).map (fun d => d.parameters.length) = some 0 := by decide +kernel
theorem mp_41 : yX9_parse.cls ≠ "java/lang/invoke/MethodHandle" ∧ yX9_parse.cls ≠ "java/lang/invoke/VarHandle" ∧ (parseMethodDescriptor yX9_parse.desc).map (fun d => d.parameters.length) = some 0 := by decide +kernel
theorem mp_42 : yX9_firstFault.cls ≠ "java/lang/invoke/MethodHandle" ∧ yX9_firstFault.cls ≠ "java/lang/invoke/VarHandle" ∧ (parseMethodDescriptor yX9_firstFault.desc).map (fun d => d.parameters.length) = some 0 := by decide +kernel
theorem mp_43 : yX9_mayStand.cls ≠ "java/lang/invoke/MethodHandle" ∧ yX9_mayStand.cls ≠ "java/lang/invoke/VarHandle" ∧ (parseMethodDescriptor yX9_mayStand.desc).map (fun d => d.parameters.length) = some 3 := by decide +kernel
theorem mp_44 : yX10_type.cls ≠ "java/lang/invoke/MethodHandle" ∧ yX10_type.cls ≠ "java/lang/invoke/VarHandle" ∧ (parseMethodDescriptor yX10_type.desc).map (fun d => d.parameters.length) = some 2 := by decide +kernel
theorem mp_45 : yX10_wipe.cls ≠ "java/lang/invoke/MethodHandle" ∧ yX10_wipe.cls ≠ "java/lang/invoke/VarHandle" ∧ (parseMethodDescriptor yX10_wipe.desc).map (fun d => d.parameters.length) = some 1 := by decide +kernel
theorem mp_46 : yX10_undo.cls ≠ "java/lang/invoke/MethodHandle" ∧ yX10_undo.cls ≠ "java/lang/invoke/VarHandle" ∧ (parseMethodDescriptor yX10_undo.desc).map (fun d => d.parameters.length) = some 1 := by decide +kernel
theorem mp_47 : yX10_fault.cls ≠ "java/lang/invoke/MethodHandle" ∧ yX10_fault.cls ≠ "java/lang/invoke/VarHandle" ∧ (parseMethodDescriptor yX10_fault.desc).map (fun d => d.parameters.length) = some 1 := by decide +kernel
theorem mp_48 : yX10_bush.cls ≠ "java/lang/invoke/MethodHandle" ∧ yX10_bush.cls ≠ "java/lang/invoke/VarHandle" ∧ (parseMethodDescriptor yX10_bush.desc).map (fun d => d.parameters.length) = some 2 := by decide +kernel
theorem mp_49 : yX10_look.cls ≠ "java/lang/invoke/MethodHandle" ∧ yX10_look.cls ≠ "java/lang/invoke/VarHandle" ∧ (parseMethodDescriptor yX10_look.desc).map (fun d => d.parameters.length) = some 2 := by decide +kernel
theorem mp_50 : yX10_set.cls ≠ "java/lang/invoke/MethodHandle" ∧ yX10_set.cls ≠ "java/lang/invoke/VarHandle" ∧ (parseMethodDescriptor yX10_set.desc).map (fun d => d.parameters.length) = some 2 := by decide +kernel
theorem mp_51 : yX10_event.cls ≠ "java/lang/invoke/MethodHandle" ∧ yX10_event.cls ≠ "java/lang/invoke/VarHandle" ∧ (parseMethodDescriptor yX10_event.desc).map (fun d => d.parameters.length) = some 3 := by decide +kernel
theorem mp_52 : yX10_back.cls ≠ "java/lang/invoke/MethodHandle" ∧ yX10_back.cls ≠ "java/lang/invoke/VarHandle" ∧ (parseMethodDescriptor yX10_back.desc).map (fun d => d.parameters.length) = some 0 := by decide +kernel
theorem mp_53 : yX10_read.cls ≠ "java/lang/invoke/MethodHandle" ∧ yX10_read.cls ≠ "java/lang/invoke/VarHandle" ∧ (parseMethodDescriptor yX10_read.desc).map (fun d => d.parameters.length) = some 1 := by decide +kernel
theorem mp_54 : yX10_at.cls ≠ "java/lang/invoke/MethodHandle" ∧ yX10_at.cls ≠ "java/lang/invoke/VarHandle" ∧ (parseMethodDescriptor yX10_at.desc).map (fun d => d.parameters.length) = some 3 := by decide +kernel
theorem mp_55 : yX10_hill.cls ≠ "java/lang/invoke/MethodHandle" ∧ yX10_hill.cls ≠ "java/lang/invoke/VarHandle" ∧ (parseMethodDescriptor yX10_hill.desc).map (fun d => d.parameters.length) = some 2 := by decide +kernel
theorem mp_56 : yX10_bare.cls ≠ "java/lang/invoke/MethodHandle" ∧ yX10_bare.cls ≠ "java/lang/invoke/VarHandle" ∧ (parseMethodDescriptor yX10_bare.desc).map (fun d => d.parameters.length) = some 0 := by decide +kernel
theorem mp_57 : yX10_run.cls ≠ "java/lang/invoke/MethodHandle" ∧ yX10_run.cls ≠ "java/lang/invoke/VarHandle" ∧ (parseMethodDescriptor yX10_run.desc).map (fun d => d.parameters.length) = some 0 := by decide +kernel
theorem mp_58 : yX10_fake.cls ≠ "java/lang/invoke/MethodHandle" ∧ yX10_fake.cls ≠ "java/lang/invoke/VarHandle" ∧ (parseMethodDescriptor yX10_fake.desc).map (fun d => d.parameters.length) = some 0 := by decide +kernel
theorem mp_59 : yX10_last.cls ≠ "java/lang/invoke/MethodHandle" ∧ yX10_last.cls ≠ "java/lang/invoke/VarHandle" ∧ (parseMethodDescriptor yX10_last.desc).map (fun d => d.parameters.length) = some 1 := by decide +kernel
theorem mp_60 : yX10_plant.cls ≠ "java/lang/invoke/MethodHandle" ∧ yX10_plant.cls ≠ "java/lang/invoke/VarHandle" ∧ (parseMethodDescriptor yX10_plant.desc).map (fun d => d.parameters.length) = some 1 := by decide +kernel
theorem mp_61 : yX10_send.cls ≠ "java/lang/invoke/MethodHandle" ∧ yX10_send.cls ≠ "java/lang/invoke/VarHandle" ∧ (parseMethodDescriptor yX10_send.desc).map (fun d => d.parameters.length) = some 1 := by decide +kernel
theorem mp_62 : yX10_save.cls ≠ "java/lang/invoke/MethodHandle" ∧ yX10_save.cls ≠ "java/lang/invoke/VarHandle" ∧ (parseMethodDescriptor yX10_save.desc).map (fun d => d.parameters.length) = some 1 := by decide +kernel
theorem mp_63 : yX10_deal.cls ≠ "java/lang/invoke/MethodHandle" ∧ yX10_deal.cls ≠ "java/lang/invoke/VarHandle" ∧ (parseMethodDescriptor yX10_deal.desc).map (fun d => d.parameters.length) = some 1 := by decide +kernel
theorem mp_64 : yX10_seen.cls ≠ "java/lang/invoke/MethodHandle" ∧ yX10_seen.cls ≠ "java/lang/invoke/VarHandle" ∧ (parseMethodDescriptor yX10_seen.desc).map (fun d => d.parameters.length) = some 3 := by decide +kernel
theorem mp_65 : yX10_forget.cls ≠ "java/lang/invoke/MethodHandle" ∧ yX10_forget.cls ≠ "java/lang/invoke/VarHandle" ∧ (parseMethodDescriptor yX10_forget.desc).map (fun d => d.parameters.length) = some 0 := by decide +kernel
theorem mp_66 : yX10_never.cls ≠ "java/lang/invoke/MethodHandle" ∧ yX10_never.cls ≠ "java/lang/invoke/VarHandle" ∧ (parseMethodDescriptor yX10_never.desc).map (fun d => d.parameters.length) = some 0 := by decide +kernel
theorem mp_67 : yX10_was.cls ≠ "java/lang/invoke/MethodHandle" ∧ yX10_was.cls ≠ "java/lang/invoke/VarHandle" ∧ (parseMethodDescriptor yX10_was.desc).map (fun d => d.parameters.length) = some 2 := by decide +kernel
theorem mp_68 : yX10_ask.cls ≠ "java/lang/invoke/MethodHandle" ∧ yX10_ask.cls ≠ "java/lang/invoke/VarHandle" ∧ (parseMethodDescriptor yX10_ask.desc).map (fun d => d.parameters.length) = some 1 := by decide +kernel
theorem mp_69 : yX10_luck.cls ≠ "java/lang/invoke/MethodHandle" ∧ yX10_luck.cls ≠ "java/lang/invoke/VarHandle" ∧ (parseMethodDescriptor yX10_luck.desc).map (fun d => d.parameters.length) = some 3 := by decide +kernel
theorem mp_70 : yX10_century.cls ≠ "java/lang/invoke/MethodHandle" ∧ yX10_century.cls ≠ "java/lang/invoke/VarHandle" ∧ (parseMethodDescriptor yX10_century.desc).map (fun d => d.parameters.length) = some 3 := by decide +kernel
theorem mp_71 : yX10_sheet.cls ≠ "java/lang/invoke/MethodHandle" ∧ yX10_sheet.cls ≠ "java/lang/invoke/VarHandle" ∧ (parseMethodDescriptor yX10_sheet.desc).map (fun d => d.parameters.length) = some 3 := by decide +kernel
theorem mp_72 : yX10_lose.cls ≠ "java/lang/invoke/MethodHandle" ∧ yX10_lose.cls ≠ "java/lang/invoke/VarHandle" ∧ (parseMethodDescriptor yX10_lose.desc).map (fun d => d.parameters.length) = some 1 := by decide +kernel
theorem mp_73 : yX10_lay.cls ≠ "java/lang/invoke/MethodHandle" ∧ yX10_lay.cls ≠ "java/lang/invoke/VarHandle" ∧ (parseMethodDescriptor yX10_lay.desc).map (fun d => d.parameters.length) = some 4 := by decide +kernel
theorem mp_74 : yX10_get.cls ≠ "java/lang/invoke/MethodHandle" ∧ yX10_get.cls ≠ "java/lang/invoke/VarHandle" ∧ (parseMethodDescriptor yX10_get.desc).map (fun d => d.parameters.length) = some 3 := by decide +kernel
theorem mp_75 : yX10_copy.cls ≠ "java/lang/invoke/MethodHandle" ∧ yX10_copy.cls ≠ "java/lang/invoke/VarHandle" ∧ (parseMethodDescriptor yX10_copy.desc).map (fun d => d.parameters.length) = some 5 := by decide +kernel
theorem mp_76 : yX10_write.cls ≠ "java/lang/invoke/MethodHandle" ∧ yX10_write.cls ≠ "java/lang/invoke/VarHandle" ∧ (parseMethodDescriptor yX10_write.desc).map (fun d => d.parameters.length) = some 1 := by decide +kernel
theorem mp_77 : yX10_count.cls ≠ "java/lang/invoke/MethodHandle" ∧ yX10_count.cls ≠ "java/lang/invoke/VarHandle" ∧ (parseMethodDescriptor yX10_count.desc).map (fun d => d.parameters.length) = some 1 := by decide +kernel
theorem mp_78 : yX10_digest.cls ≠ "java/lang/invoke/MethodHandle" ∧ yX10_digest.cls ≠ "java/lang/invoke/VarHandle" ∧ (parseMethodDescriptor yX10_digest.desc).map (fun d => d.parameters.length) = some 0 := by decide +kernel
theorem mp_79 : yX10_digestOfCounts.cls ≠ "java/lang/invoke/MethodHandle" ∧ yX10_digestOfCounts.cls ≠ "java/lang/invoke/VarHandle" ∧ (parseMethodDescriptor yX10_digestOfCounts.desc).map (fun d => d.parameters.length) = some 1 := by decide +kernel
theorem mp_80 : yX10_digestOfMonths.cls ≠ "java/lang/invoke/MethodHandle" ∧ yX10_digestOfMonths.cls ≠ "java/lang/invoke/VarHandle" ∧ (parseMethodDescriptor yX10_digestOfMonths.desc).map (fun d => d.parameters.length) = some 1 := by decide +kernel
theorem mp_81 : yX10_digestOfLooks.cls ≠ "java/lang/invoke/MethodHandle" ∧ yX10_digestOfLooks.cls ≠ "java/lang/invoke/VarHandle" ∧ (parseMethodDescriptor yX10_digestOfLooks.desc).map (fun d => d.parameters.length) = some 1 := by decide +kernel
theorem mp_82 : yX10_digestOfBush.cls ≠ "java/lang/invoke/MethodHandle" ∧ yX10_digestOfBush.cls ≠ "java/lang/invoke/VarHandle" ∧ (parseMethodDescriptor yX10_digestOfBush.desc).map (fun d => d.parameters.length) = some 2 := by decide +kernel
theorem mp_83 : yX10_digestOfBushIn.cls ≠ "java/lang/invoke/MethodHandle" ∧ yX10_digestOfBushIn.cls ≠ "java/lang/invoke/VarHandle" ∧ (parseMethodDescriptor yX10_digestOfBushIn.desc).map (fun d => d.parameters.length) = some 3 := by decide +kernel
theorem mp_84 : yX10_digestOfHill.cls ≠ "java/lang/invoke/MethodHandle" ∧ yX10_digestOfHill.cls ≠ "java/lang/invoke/VarHandle" ∧ (parseMethodDescriptor yX10_digestOfHill.desc).map (fun d => d.parameters.length) = some 1 := by decide +kernel
theorem mp_85 : yX10_digestOfPlans.cls ≠ "java/lang/invoke/MethodHandle" ∧ yX10_digestOfPlans.cls ≠ "java/lang/invoke/VarHandle" ∧ (parseMethodDescriptor yX10_digestOfPlans.desc).map (fun d => d.parameters.length) = some 1 := by decide +kernel
theorem mp_86 : yX10_digestOfLuck.cls ≠ "java/lang/invoke/MethodHandle" ∧ yX10_digestOfLuck.cls ≠ "java/lang/invoke/VarHandle" ∧ (parseMethodDescriptor yX10_digestOfLuck.desc).map (fun d => d.parameters.length) = some 1 := by decide +kernel
theorem mp_87 : yX10_allYellow.cls ≠ "java/lang/invoke/MethodHandle" ∧ yX10_allYellow.cls ≠ "java/lang/invoke/VarHandle" ∧ (parseMethodDescriptor yX10_allYellow.desc).map (fun d => d.parameters.length) = some 0 := by decide +kernel
theorem mp_88 : yX10_bareIfPlanted.cls ≠ "java/lang/invoke/MethodHandle" ∧ yX10_bareIfPlanted.cls ≠ "java/lang/invoke/VarHandle" ∧ (parseMethodDescriptor yX10_bareIfPlanted.desc).map (fun d => d.parameters.length) = some 3 := by decide +kernel
theorem mp_89 : yX10_bestSend.cls ≠ "java/lang/invoke/MethodHandle" ∧ yX10_bestSend.cls ≠ "java/lang/invoke/VarHandle" ∧ (parseMethodDescriptor yX10_bestSend.desc).map (fun d => d.parameters.length) = some 0 := by decide +kernel
theorem mp_90 : yX10_bestDeal.cls ≠ "java/lang/invoke/MethodHandle" ∧ yX10_bestDeal.cls ≠ "java/lang/invoke/VarHandle" ∧ (parseMethodDescriptor yX10_bestDeal.desc).map (fun d => d.parameters.length) = some 0 := by decide +kernel
theorem mp_91 : yX10_fewestToLose.cls ≠ "java/lang/invoke/MethodHandle" ∧ yX10_fewestToLose.cls ≠ "java/lang/invoke/VarHandle" ∧ (parseMethodDescriptor yX10_fewestToLose.desc).map (fun d => d.parameters.length) = some 0 := by decide +kernel
theorem mp_92 : yX10_placeOfBit.cls ≠ "java/lang/invoke/MethodHandle" ∧ yX10_placeOfBit.cls ≠ "java/lang/invoke/VarHandle" ∧ (parseMethodDescriptor yX10_placeOfBit.desc).map (fun d => d.parameters.length) = some 2 := by decide +kernel
theorem mp_93 : yX10_beginsThatFit.cls ≠ "java/lang/invoke/MethodHandle" ∧ yX10_beginsThatFit.cls ≠ "java/lang/invoke/VarHandle" ∧ (parseMethodDescriptor yX10_beginsThatFit.desc).map (fun d => d.parameters.length) = some 1 := by decide +kernel
theorem mp_94 : yX10_kindsThatFit.cls ≠ "java/lang/invoke/MethodHandle" ∧ yX10_kindsThatFit.cls ≠ "java/lang/invoke/VarHandle" ∧ (parseMethodDescriptor yX10_kindsThatFit.desc).map (fun d => d.parameters.length) = some 1 := by decide +kernel
theorem mp_95 : yX10_greatestAlike.cls ≠ "java/lang/invoke/MethodHandle" ∧ yX10_greatestAlike.cls ≠ "java/lang/invoke/VarHandle" ∧ (parseMethodDescriptor yX10_greatestAlike.desc).map (fun d => d.parameters.length) = some 3 := by decide +kernel
theorem mp_96 : yX10_bareShares.cls ≠ "java/lang/invoke/MethodHandle" ∧ yX10_bareShares.cls ≠ "java/lang/invoke/VarHandle" ∧ (parseMethodDescriptor yX10_bareShares.desc).map (fun d => d.parameters.length) = some 2 := by decide +kernel
theorem mp_97 : yX10_gatherHinderers.cls ≠ "java/lang/invoke/MethodHandle" ∧ yX10_gatherHinderers.cls ≠ "java/lang/invoke/VarHandle" ∧ (parseMethodDescriptor yX10_gatherHinderers.desc).map (fun d => d.parameters.length) = some 1 := by decide +kernel
theorem mp_98 : yX10_hindersAll.cls ≠ "java/lang/invoke/MethodHandle" ∧ yX10_hindersAll.cls ≠ "java/lang/invoke/VarHandle" ∧ (parseMethodDescriptor yX10_hindersAll.desc).map (fun d => d.parameters.length) = some 2 := by decide +kernel
theorem mp_99 : yX10_shareOf.cls ≠ "java/lang/invoke/MethodHandle" ∧ yX10_shareOf.cls ≠ "java/lang/invoke/VarHandle" ∧ (parseMethodDescriptor yX10_shareOf.desc).map (fun d => d.parameters.length) = some 2 := by decide +kernel
theorem mp_100 : yX10_drawEvents.cls ≠ "java/lang/invoke/MethodHandle" ∧ yX10_drawEvents.cls ≠ "java/lang/invoke/VarHandle" ∧ (parseMethodDescriptor yX10_drawEvents.desc).map (fun d => d.parameters.length) = some 2 := by decide +kernel
theorem mp_101 : yX10_finding.cls ≠ "java/lang/invoke/MethodHandle" ∧ yX10_finding.cls ≠ "java/lang/invoke/VarHandle" ∧ (parseMethodDescriptor yX10_finding.desc).map (fun d => d.parameters.length) = some 1 := by decide +kernel
theorem mp_102 : yX10_findingOfItem.cls ≠ "java/lang/invoke/MethodHandle" ∧ yX10_findingOfItem.cls ≠ "java/lang/invoke/VarHandle" ∧ (parseMethodDescriptor yX10_findingOfItem.desc).map (fun d => d.parameters.length) = some 3 := by decide +kernel
theorem mp_103 : yX10_textOf.cls ≠ "java/lang/invoke/MethodHandle" ∧ yX10_textOf.cls ≠ "java/lang/invoke/VarHandle" ∧ (parseMethodDescriptor yX10_textOf.desc).map (fun d => d.parameters.length) = some 1 := by decide +kernel
theorem mp_104 : yX10_isText.cls ≠ "java/lang/invoke/MethodHandle" ∧ yX10_isText.cls ≠ "java/lang/invoke/VarHandle" ∧ (parseMethodDescriptor yX10_isText.desc).map (fun d => d.parameters.length) = some 1 := by decide +kernel
theorem mp_105 : yX10_isMonth.cls ≠ "java/lang/invoke/MethodHandle" ∧ yX10_isMonth.cls ≠ "java/lang/invoke/VarHandle" ∧ (parseMethodDescriptor yX10_isMonth.desc).map (fun d => d.parameters.length) = some 1 := by decide +kernel
theorem mp_106 : yX10_isSheet.cls ≠ "java/lang/invoke/MethodHandle" ∧ yX10_isSheet.cls ≠ "java/lang/invoke/VarHandle" ∧ (parseMethodDescriptor yX10_isSheet.desc).map (fun d => d.parameters.length) = some 1 := by decide +kernel
theorem mp_107 : yX10_isForm.cls ≠ "java/lang/invoke/MethodHandle" ∧ yX10_isForm.cls ≠ "java/lang/invoke/VarHandle" ∧ (parseMethodDescriptor yX10_isForm.desc).map (fun d => d.parameters.length) = some 1 := by decide +kernel
theorem mp_108 : yX10_mayBeEvent.cls ≠ "java/lang/invoke/MethodHandle" ∧ yX10_mayBeEvent.cls ≠ "java/lang/invoke/VarHandle" ∧ (parseMethodDescriptor yX10_mayBeEvent.desc).map (fun d => d.parameters.length) = some 3 := by decide +kernel
theorem mp_109 : yX10_within.cls ≠ "java/lang/invoke/MethodHandle" ∧ yX10_within.cls ≠ "java/lang/invoke/VarHandle" ∧ (parseMethodDescriptor yX10_within.desc).map (fun d => d.parameters.length) = some 3 := by decide +kernel
theorem mp_110 : yX10_bit.cls ≠ "java/lang/invoke/MethodHandle" ∧ yX10_bit.cls ≠ "java/lang/invoke/VarHandle" ∧ (parseMethodDescriptor yX10_bit.desc).map (fun d => d.parameters.length) = some 2 := by decide +kernel
theorem mp_111 : yX11_in.cls ≠ "java/lang/invoke/MethodHandle" ∧ yX11_in.cls ≠ "java/lang/invoke/VarHandle" ∧ (parseMethodDescriptor yX11_in.desc).map (fun d => d.parameters.length) = some 3 := by decide +kernel
theorem mp_112 : yX11_no.cls ≠ "java/lang/invoke/MethodHandle" ∧ yX11_no.cls ≠ "java/lang/invoke/VarHandle" ∧ (parseMethodDescriptor yX11_no.desc).map (fun d => d.parameters.length) = some 1 := by decide +kernel
theorem mp_113 : yX11_isTwo.cls ≠ "java/lang/invoke/MethodHandle" ∧ yX11_isTwo.cls ≠ "java/lang/invoke/VarHandle" ∧ (parseMethodDescriptor yX11_isTwo.desc).map (fun d => d.parameters.length) = some 1 := by decide +kernel
theorem mp_114 : yX11_isIn.cls ≠ "java/lang/invoke/MethodHandle" ∧ yX11_isIn.cls ≠ "java/lang/invoke/VarHandle" ∧ (parseMethodDescriptor yX11_isIn.desc).map (fun d => d.parameters.length) = some 2 := by decide +kernel
theorem mp_115 : yX11_ones.cls ≠ "java/lang/invoke/MethodHandle" ∧ yX11_ones.cls ≠ "java/lang/invoke/VarHandle" ∧ (parseMethodDescriptor yX11_ones.desc).map (fun d => d.parameters.length) = some 1 := by decide +kernel
theorem mp_116 : yX11_lesser.cls ≠ "java/lang/invoke/MethodHandle" ∧ yX11_lesser.cls ≠ "java/lang/invoke/VarHandle" ∧ (parseMethodDescriptor yX11_lesser.desc).map (fun d => d.parameters.length) = some 2 := by decide +kernel
theorem mp_117 : yX11_greater.cls ≠ "java/lang/invoke/MethodHandle" ∧ yX11_greater.cls ≠ "java/lang/invoke/VarHandle" ∧ (parseMethodDescriptor yX11_greater.desc).map (fun d => d.parameters.length) = some 2 := by decide +kernel
theorem mp_118 : yX11_part.cls ≠ "java/lang/invoke/MethodHandle" ∧ yX11_part.cls ≠ "java/lang/invoke/VarHandle" ∧ (parseMethodDescriptor yX11_part.desc).map (fun d => d.parameters.length) = some 3 := by decide +kernel
theorem mp_119 : yX11_finds.cls ≠ "java/lang/invoke/MethodHandle" ∧ yX11_finds.cls ≠ "java/lang/invoke/VarHandle" ∧ (parseMethodDescriptor yX11_finds.desc).map (fun d => d.parameters.length) = some 1 := by decide +kernel
theorem mp_120 : yX11_isSheet.cls ≠ "java/lang/invoke/MethodHandle" ∧ yX11_isSheet.cls ≠ "java/lang/invoke/VarHandle" ∧ (parseMethodDescriptor yX11_isSheet.desc).map (fun d => d.parameters.length) = some 1 := by decide +kernel
theorem mp_121 : yX11_sheet.cls ≠ "java/lang/invoke/MethodHandle" ∧ yX11_sheet.cls ≠ "java/lang/invoke/VarHandle" ∧ (parseMethodDescriptor yX11_sheet.desc).map (fun d => d.parameters.length) = some 3 := by decide +kernel
theorem mp_122 : yX11_lose.cls ≠ "java/lang/invoke/MethodHandle" ∧ yX11_lose.cls ≠ "java/lang/invoke/VarHandle" ∧ (parseMethodDescriptor yX11_lose.desc).map (fun d => d.parameters.length) = some 1 := by decide +kernel
theorem mp_123 : yX11_lacks.cls ≠ "java/lang/invoke/MethodHandle" ∧ yX11_lacks.cls ≠ "java/lang/invoke/VarHandle" ∧ (parseMethodDescriptor yX11_lacks.desc).map (fun d => d.parameters.length) = some 3 := by decide +kernel
theorem mp_124 : yX11_cut.cls ≠ "java/lang/invoke/MethodHandle" ∧ yX11_cut.cls ≠ "java/lang/invoke/VarHandle" ∧ (parseMethodDescriptor yX11_cut.desc).map (fun d => d.parameters.length) = some 2 := by decide +kernel
theorem mp_125 : yX11_lay.cls ≠ "java/lang/invoke/MethodHandle" ∧ yX11_lay.cls ≠ "java/lang/invoke/VarHandle" ∧ (parseMethodDescriptor yX11_lay.desc).map (fun d => d.parameters.length) = some 4 := by decide +kernel
theorem mp_126 : yX11_get.cls ≠ "java/lang/invoke/MethodHandle" ∧ yX11_get.cls ≠ "java/lang/invoke/VarHandle" ∧ (parseMethodDescriptor yX11_get.desc).map (fun d => d.parameters.length) = some 3 := by decide +kernel
theorem mp_127 : yX11_copy.cls ≠ "java/lang/invoke/MethodHandle" ∧ yX11_copy.cls ≠ "java/lang/invoke/VarHandle" ∧ (parseMethodDescriptor yX11_copy.desc).map (fun d => d.parameters.length) = some 5 := by decide +kernel
theorem mp_128 : yX11_type.cls ≠ "java/lang/invoke/MethodHandle" ∧ yX11_type.cls ≠ "java/lang/invoke/VarHandle" ∧ (parseMethodDescriptor yX11_type.desc).map (fun d => d.parameters.length) = some 2 := by decide +kernel
theorem mp_129 : yX11_wipe.cls ≠ "java/lang/invoke/MethodHandle" ∧ yX11_wipe.cls ≠ "java/lang/invoke/VarHandle" ∧ (parseMethodDescriptor yX11_wipe.desc).map (fun d => d.parameters.length) = some 1 := by decide +kernel
theorem mp_130 : yX11_undo.cls ≠ "java/lang/invoke/MethodHandle" ∧ yX11_undo.cls ≠ "java/lang/invoke/VarHandle" ∧ (parseMethodDescriptor yX11_undo.desc).map (fun d => d.parameters.length) = some 1 := by decide +kernel
theorem mp_131 : yX11_kindOf.cls ≠ "java/lang/invoke/MethodHandle" ∧ yX11_kindOf.cls ≠ "java/lang/invoke/VarHandle" ∧ (parseMethodDescriptor yX11_kindOf.desc).map (fun d => d.parameters.length) = some 1 := by decide +kernel
theorem mp_132 : yX11_bushOf.cls ≠ "java/lang/invoke/MethodHandle" ∧ yX11_bushOf.cls ≠ "java/lang/invoke/VarHandle" ∧ (parseMethodDescriptor yX11_bushOf.desc).map (fun d => d.parameters.length) = some 2 := by decide +kernel
theorem mp_133 : yX11_readsBushes.cls ≠ "java/lang/invoke/MethodHandle" ∧ yX11_readsBushes.cls ≠ "java/lang/invoke/VarHandle" ∧ (parseMethodDescriptor yX11_readsBushes.desc).map (fun d => d.parameters.length) = some 0 := by decide +kernel
theorem mp_134 : yX11_lookOf.cls ≠ "java/lang/invoke/MethodHandle" ∧ yX11_lookOf.cls ≠ "java/lang/invoke/VarHandle" ∧ (parseMethodDescriptor yX11_lookOf.desc).map (fun d => d.parameters.length) = some 2 := by decide +kernel
theorem mp_135 : yX11_readsLooks.cls ≠ "java/lang/invoke/MethodHandle" ∧ yX11_readsLooks.cls ≠ "java/lang/invoke/VarHandle" ∧ (parseMethodDescriptor yX11_readsLooks.desc).map (fun d => d.parameters.length) = some 0 := by decide +kernel
theorem mp_136 : yX11_readsText.cls ≠ "java/lang/invoke/MethodHandle" ∧ yX11_readsText.cls ≠ "java/lang/invoke/VarHandle" ∧ (parseMethodDescriptor yX11_readsText.desc).map (fun d => d.parameters.length) = some 1 := by decide +kernel
theorem mp_137 : yX11_fault.cls ≠ "java/lang/invoke/MethodHandle" ∧ yX11_fault.cls ≠ "java/lang/invoke/VarHandle" ∧ (parseMethodDescriptor yX11_fault.desc).map (fun d => d.parameters.length) = some 1 := by decide +kernel
theorem mp_138 : yX11_isBush.cls ≠ "java/lang/invoke/MethodHandle" ∧ yX11_isBush.cls ≠ "java/lang/invoke/VarHandle" ∧ (parseMethodDescriptor yX11_isBush.desc).map (fun d => d.parameters.length) = some 1 := by decide +kernel
theorem mp_139 : yX11_isMonth.cls ≠ "java/lang/invoke/MethodHandle" ∧ yX11_isMonth.cls ≠ "java/lang/invoke/VarHandle" ∧ (parseMethodDescriptor yX11_isMonth.desc).map (fun d => d.parameters.length) = some 1 := by decide +kernel
theorem mp_140 : yX11_bush.cls ≠ "java/lang/invoke/MethodHandle" ∧ yX11_bush.cls ≠ "java/lang/invoke/VarHandle" ∧ (parseMethodDescriptor yX11_bush.desc).map (fun d => d.parameters.length) = some 2 := by decide +kernel
theorem mp_141 : yX11_lookBy.cls ≠ "java/lang/invoke/MethodHandle" ∧ yX11_lookBy.cls ≠ "java/lang/invoke/VarHandle" ∧ (parseMethodDescriptor yX11_lookBy.desc).map (fun d => d.parameters.length) = some 2 := by decide +kernel
theorem mp_142 : yX11_look.cls ≠ "java/lang/invoke/MethodHandle" ∧ yX11_look.cls ≠ "java/lang/invoke/VarHandle" ∧ (parseMethodDescriptor yX11_look.desc).map (fun d => d.parameters.length) = some 2 := by decide +kernel
theorem mp_143 : yX11_set.cls ≠ "java/lang/invoke/MethodHandle" ∧ yX11_set.cls ≠ "java/lang/invoke/VarHandle" ∧ (parseMethodDescriptor yX11_set.desc).map (fun d => d.parameters.length) = some 2 := by decide +kernel
theorem mp_144 : yX11_puts.cls ≠ "java/lang/invoke/MethodHandle" ∧ yX11_puts.cls ≠ "java/lang/invoke/VarHandle" ∧ (parseMethodDescriptor yX11_puts.desc).map (fun d => d.parameters.length) = some 3 := by decide +kernel
theorem mp_145 : yX11_event.cls ≠ "java/lang/invoke/MethodHandle" ∧ yX11_event.cls ≠ "java/lang/invoke/VarHandle" ∧ (parseMethodDescriptor yX11_event.desc).map (fun d => d.parameters.length) = some 3 := by decide +kernel
theorem mp_146 : yX11_back.cls ≠ "java/lang/invoke/MethodHandle" ∧ yX11_back.cls ≠ "java/lang/invoke/VarHandle" ∧ (parseMethodDescriptor yX11_back.desc).map (fun d => d.parameters.length) = some 0 := by decide +kernel
theorem mp_147 : yX11_read.cls ≠ "java/lang/invoke/MethodHandle" ∧ yX11_read.cls ≠ "java/lang/invoke/VarHandle" ∧ (parseMethodDescriptor yX11_read.desc).map (fun d => d.parameters.length) = some 1 := by decide +kernel
theorem mp_148 : yX11_lasts.cls ≠ "java/lang/invoke/MethodHandle" ∧ yX11_lasts.cls ≠ "java/lang/invoke/VarHandle" ∧ (parseMethodDescriptor yX11_lasts.desc).map (fun d => d.parameters.length) = some 2 := by decide +kernel
theorem mp_149 : yX11_isOn.cls ≠ "java/lang/invoke/MethodHandle" ∧ yX11_isOn.cls ≠ "java/lang/invoke/VarHandle" ∧ (parseMethodDescriptor yX11_isOn.desc).map (fun d => d.parameters.length) = some 3 := by decide +kernel
theorem mp_150 : yX11_isSeason.cls ≠ "java/lang/invoke/MethodHandle" ∧ yX11_isSeason.cls ≠ "java/lang/invoke/VarHandle" ∧ (parseMethodDescriptor yX11_isSeason.desc).map (fun d => d.parameters.length) = some 2 := by decide +kernel
theorem mp_151 : yX11_stateOf.cls ≠ "java/lang/invoke/MethodHandle" ∧ yX11_stateOf.cls ≠ "java/lang/invoke/VarHandle" ∧ (parseMethodDescriptor yX11_stateOf.desc).map (fun d => d.parameters.length) = some 2 := by decide +kernel
theorem mp_152 : yX11_grows.cls ≠ "java/lang/invoke/MethodHandle" ∧ yX11_grows.cls ≠ "java/lang/invoke/VarHandle" ∧ (parseMethodDescriptor yX11_grows.desc).map (fun d => d.parameters.length) = some 0 := by decide +kernel
theorem mp_153 : yX11_isSeeming.cls ≠ "java/lang/invoke/MethodHandle" ∧ yX11_isSeeming.cls ≠ "java/lang/invoke/VarHandle" ∧ (parseMethodDescriptor yX11_isSeeming.desc).map (fun d => d.parameters.length) = some 2 := by decide +kernel
theorem mp_154 : yX11_kept.cls ≠ "java/lang/invoke/MethodHandle" ∧ yX11_kept.cls ≠ "java/lang/invoke/VarHandle" ∧ (parseMethodDescriptor yX11_kept.desc).map (fun d => d.parameters.length) = some 1 := by decide +kernel
theorem mp_155 : yX11_looked.cls ≠ "java/lang/invoke/MethodHandle" ∧ yX11_looked.cls ≠ "java/lang/invoke/VarHandle" ∧ (parseMethodDescriptor yX11_looked.desc).map (fun d => d.parameters.length) = some 3 := by decide +kernel
theorem mp_156 : yX11_believes.cls ≠ "java/lang/invoke/MethodHandle" ∧ yX11_believes.cls ≠ "java/lang/invoke/VarHandle" ∧ (parseMethodDescriptor yX11_believes.desc).map (fun d => d.parameters.length) = some 0 := by decide +kernel
theorem mp_157 : yX11_lives.cls ≠ "java/lang/invoke/MethodHandle" ∧ yX11_lives.cls ≠ "java/lang/invoke/VarHandle" ∧ (parseMethodDescriptor yX11_lives.desc).map (fun d => d.parameters.length) = some 0 := by decide +kernel
theorem mp_158 : yX11_find.cls ≠ "java/lang/invoke/MethodHandle" ∧ yX11_find.cls ≠ "java/lang/invoke/VarHandle" ∧ (parseMethodDescriptor yX11_find.desc).map (fun d => d.parameters.length) = some 0 := by decide +kernel
theorem mp_159 : yX11_atBy.cls ≠ "java/lang/invoke/MethodHandle" ∧ yX11_atBy.cls ≠ "java/lang/invoke/VarHandle" ∧ (parseMethodDescriptor yX11_atBy.desc).map (fun d => d.parameters.length) = some 3 := by decide +kernel
theorem mp_160 : yX11_at.cls ≠ "java/lang/invoke/MethodHandle" ∧ yX11_at.cls ≠ "java/lang/invoke/VarHandle" ∧ (parseMethodDescriptor yX11_at.desc).map (fun d => d.parameters.length) = some 3 := by decide +kernel
theorem mp_161 : yX11_hillBy.cls ≠ "java/lang/invoke/MethodHandle" ∧ yX11_hillBy.cls ≠ "java/lang/invoke/VarHandle" ∧ (parseMethodDescriptor yX11_hillBy.desc).map (fun d => d.parameters.length) = some 2 := by decide +kernel
theorem mp_162 : yX11_hill.cls ≠ "java/lang/invoke/MethodHandle" ∧ yX11_hill.cls ≠ "java/lang/invoke/VarHandle" ∧ (parseMethodDescriptor yX11_hill.desc).map (fun d => d.parameters.length) = some 2 := by decide +kernel
theorem mp_163 : yX11_bareNow.cls ≠ "java/lang/invoke/MethodHandle" ∧ yX11_bareNow.cls ≠ "java/lang/invoke/VarHandle" ∧ (parseMethodDescriptor yX11_bareNow.desc).map (fun d => d.parameters.length) = some 0 := by decide +kernel
theorem mp_164 : yX11_bare.cls ≠ "java/lang/invoke/MethodHandle" ∧ yX11_bare.cls ≠ "java/lang/invoke/VarHandle" ∧ (parseMethodDescriptor yX11_bare.desc).map (fun d => d.parameters.length) = some 0 := by decide +kernel
theorem mp_165 : yX11_runNow.cls ≠ "java/lang/invoke/MethodHandle" ∧ yX11_runNow.cls ≠ "java/lang/invoke/VarHandle" ∧ (parseMethodDescriptor yX11_runNow.desc).map (fun d => d.parameters.length) = some 0 := by decide +kernel
theorem mp_166 : yX11_run.cls ≠ "java/lang/invoke/MethodHandle" ∧ yX11_run.cls ≠ "java/lang/invoke/VarHandle" ∧ (parseMethodDescriptor yX11_run.desc).map (fun d => d.parameters.length) = some 0 := by decide +kernel
theorem mp_167 : yX11_fakeNow.cls ≠ "java/lang/invoke/MethodHandle" ∧ yX11_fakeNow.cls ≠ "java/lang/invoke/VarHandle" ∧ (parseMethodDescriptor yX11_fakeNow.desc).map (fun d => d.parameters.length) = some 0 := by decide +kernel
theorem mp_168 : yX11_fake.cls ≠ "java/lang/invoke/MethodHandle" ∧ yX11_fake.cls ≠ "java/lang/invoke/VarHandle" ∧ (parseMethodDescriptor yX11_fake.desc).map (fun d => d.parameters.length) = some 0 := by decide +kernel
theorem mp_169 : yX11_lastBy.cls ≠ "java/lang/invoke/MethodHandle" ∧ yX11_lastBy.cls ≠ "java/lang/invoke/VarHandle" ∧ (parseMethodDescriptor yX11_lastBy.desc).map (fun d => d.parameters.length) = some 1 := by decide +kernel
theorem mp_170 : yX11_last.cls ≠ "java/lang/invoke/MethodHandle" ∧ yX11_last.cls ≠ "java/lang/invoke/VarHandle" ∧ (parseMethodDescriptor yX11_last.desc).map (fun d => d.parameters.length) = some 1 := by decide +kernel
theorem mp_171 : yX11_plantBy.cls ≠ "java/lang/invoke/MethodHandle" ∧ yX11_plantBy.cls ≠ "java/lang/invoke/VarHandle" ∧ (parseMethodDescriptor yX11_plantBy.desc).map (fun d => d.parameters.length) = some 1 := by decide +kernel
theorem mp_172 : yX11_plant.cls ≠ "java/lang/invoke/MethodHandle" ∧ yX11_plant.cls ≠ "java/lang/invoke/VarHandle" ∧ (parseMethodDescriptor yX11_plant.desc).map (fun d => d.parameters.length) = some 1 := by decide +kernel
theorem mp_173 : yX11_sendBy.cls ≠ "java/lang/invoke/MethodHandle" ∧ yX11_sendBy.cls ≠ "java/lang/invoke/VarHandle" ∧ (parseMethodDescriptor yX11_sendBy.desc).map (fun d => d.parameters.length) = some 1 := by decide +kernel
theorem mp_174 : yX11_send.cls ≠ "java/lang/invoke/MethodHandle" ∧ yX11_send.cls ≠ "java/lang/invoke/VarHandle" ∧ (parseMethodDescriptor yX11_send.desc).map (fun d => d.parameters.length) = some 1 := by decide +kernel
theorem mp_175 : yX11_isSaved.cls ≠ "java/lang/invoke/MethodHandle" ∧ yX11_isSaved.cls ≠ "java/lang/invoke/VarHandle" ∧ (parseMethodDescriptor yX11_isSaved.desc).map (fun d => d.parameters.length) = some 1 := by decide +kernel
theorem mp_176 : yX11_saveOf.cls ≠ "java/lang/invoke/MethodHandle" ∧ yX11_saveOf.cls ≠ "java/lang/invoke/VarHandle" ∧ (parseMethodDescriptor yX11_saveOf.desc).map (fun d => d.parameters.length) = some 1 := by decide +kernel
theorem mp_177 : yX11_save.cls ≠ "java/lang/invoke/MethodHandle" ∧ yX11_save.cls ≠ "java/lang/invoke/VarHandle" ∧ (parseMethodDescriptor yX11_save.desc).map (fun d => d.parameters.length) = some 1 := by decide +kernel
theorem mp_178 : yX11_dealBy.cls ≠ "java/lang/invoke/MethodHandle" ∧ yX11_dealBy.cls ≠ "java/lang/invoke/VarHandle" ∧ (parseMethodDescriptor yX11_dealBy.desc).map (fun d => d.parameters.length) = some 1 := by decide +kernel
theorem mp_179 : yX11_deal.cls ≠ "java/lang/invoke/MethodHandle" ∧ yX11_deal.cls ≠ "java/lang/invoke/VarHandle" ∧ (parseMethodDescriptor yX11_deal.desc).map (fun d => d.parameters.length) = some 1 := by decide +kernel
theorem mp_180 : yX11_seen.cls ≠ "java/lang/invoke/MethodHandle" ∧ yX11_seen.cls ≠ "java/lang/invoke/VarHandle" ∧ (parseMethodDescriptor yX11_seen.desc).map (fun d => d.parameters.length) = some 3 := by decide +kernel
theorem mp_181 : yX11_forget.cls ≠ "java/lang/invoke/MethodHandle" ∧ yX11_forget.cls ≠ "java/lang/invoke/VarHandle" ∧ (parseMethodDescriptor yX11_forget.desc).map (fun d => d.parameters.length) = some 0 := by decide +kernel
theorem mp_182 : yX11_isSeen.cls ≠ "java/lang/invoke/MethodHandle" ∧ yX11_isSeen.cls ≠ "java/lang/invoke/VarHandle" ∧ (parseMethodDescriptor yX11_isSeen.desc).map (fun d => d.parameters.length) = some 0 := by decide +kernel
theorem mp_183 : yX11_neverNow.cls ≠ "java/lang/invoke/MethodHandle" ∧ yX11_neverNow.cls ≠ "java/lang/invoke/VarHandle" ∧ (parseMethodDescriptor yX11_neverNow.desc).map (fun d => d.parameters.length) = some 0 := by decide +kernel
theorem mp_184 : yX11_never.cls ≠ "java/lang/invoke/MethodHandle" ∧ yX11_never.cls ≠ "java/lang/invoke/VarHandle" ∧ (parseMethodDescriptor yX11_never.desc).map (fun d => d.parameters.length) = some 0 := by decide +kernel
theorem mp_185 : yX11_beganOf.cls ≠ "java/lang/invoke/MethodHandle" ∧ yX11_beganOf.cls ≠ "java/lang/invoke/VarHandle" ∧ (parseMethodDescriptor yX11_beganOf.desc).map (fun d => d.parameters.length) = some 1 := by decide +kernel
theorem mp_186 : yX11_sortOf.cls ≠ "java/lang/invoke/MethodHandle" ∧ yX11_sortOf.cls ≠ "java/lang/invoke/VarHandle" ∧ (parseMethodDescriptor yX11_sortOf.desc).map (fun d => d.parameters.length) = some 1 := by decide +kernel
theorem mp_187 : yX11_wasOf.cls ≠ "java/lang/invoke/MethodHandle" ∧ yX11_wasOf.cls ≠ "java/lang/invoke/VarHandle" ∧ (parseMethodDescriptor yX11_wasOf.desc).map (fun d => d.parameters.length) = some 2 := by decide +kernel
theorem mp_188 : yX11_was.cls ≠ "java/lang/invoke/MethodHandle" ∧ yX11_was.cls ≠ "java/lang/invoke/VarHandle" ∧ (parseMethodDescriptor yX11_was.desc).map (fun d => d.parameters.length) = some 2 := by decide +kernel
theorem mp_189 : yX11_askOf.cls ≠ "java/lang/invoke/MethodHandle" ∧ yX11_askOf.cls ≠ "java/lang/invoke/VarHandle" ∧ (parseMethodDescriptor yX11_askOf.desc).map (fun d => d.parameters.length) = some 1 := by decide +kernel
theorem mp_190 : yX11_ask.cls ≠ "java/lang/invoke/MethodHandle" ∧ yX11_ask.cls ≠ "java/lang/invoke/VarHandle" ∧ (parseMethodDescriptor yX11_ask.desc).map (fun d => d.parameters.length) = some 1 := by decide +kernel
theorem mp_191 : yX11_luckOf.cls ≠ "java/lang/invoke/MethodHandle" ∧ yX11_luckOf.cls ≠ "java/lang/invoke/VarHandle" ∧ (parseMethodDescriptor yX11_luckOf.desc).map (fun d => d.parameters.length) = some 3 := by decide +kernel
theorem mp_192 : yX11_luck.cls ≠ "java/lang/invoke/MethodHandle" ∧ yX11_luck.cls ≠ "java/lang/invoke/VarHandle" ∧ (parseMethodDescriptor yX11_luck.desc).map (fun d => d.parameters.length) = some 3 := by decide +kernel
theorem mp_193 : yX11_lot.cls ≠ "java/lang/invoke/MethodHandle" ∧ yX11_lot.cls ≠ "java/lang/invoke/VarHandle" ∧ (parseMethodDescriptor yX11_lot.desc).map (fun d => d.parameters.length) = some 1 := by decide +kernel
theorem mp_194 : yX11_centuryOf.cls ≠ "java/lang/invoke/MethodHandle" ∧ yX11_centuryOf.cls ≠ "java/lang/invoke/VarHandle" ∧ (parseMethodDescriptor yX11_centuryOf.desc).map (fun d => d.parameters.length) = some 3 := by decide +kernel
theorem mp_195 : yX11_century.cls ≠ "java/lang/invoke/MethodHandle" ∧ yX11_century.cls ≠ "java/lang/invoke/VarHandle" ∧ (parseMethodDescriptor yX11_century.desc).map (fun d => d.parameters.length) = some 3 := by decide +kernel
theorem mp_196 : yX11_write.cls ≠ "java/lang/invoke/MethodHandle" ∧ yX11_write.cls ≠ "java/lang/invoke/VarHandle" ∧ (parseMethodDescriptor yX11_write.desc).map (fun d => d.parameters.length) = some 1 := by decide +kernel
theorem mp_197 : yX11_allYellow.cls ≠ "java/lang/invoke/MethodHandle" ∧ yX11_allYellow.cls ≠ "java/lang/invoke/VarHandle" ∧ (parseMethodDescriptor yX11_allYellow.desc).map (fun d => d.parameters.length) = some 0 := by decide +kernel
theorem mp_198 : yX11_count.cls ≠ "java/lang/invoke/MethodHandle" ∧ yX11_count.cls ≠ "java/lang/invoke/VarHandle" ∧ (parseMethodDescriptor yX11_count.desc).map (fun d => d.parameters.length) = some 1 := by decide +kernel
theorem mp_199 : yX11_tellsMonth.cls ≠ "java/lang/invoke/MethodHandle" ∧ yX11_tellsMonth.cls ≠ "java/lang/invoke/VarHandle" ∧ (parseMethodDescriptor yX11_tellsMonth.desc).map (fun d => d.parameters.length) = some 3 := by decide +kernel
theorem mp_200 : yX11_tellsBush.cls ≠ "java/lang/invoke/MethodHandle" ∧ yX11_tellsBush.cls ≠ "java/lang/invoke/VarHandle" ∧ (parseMethodDescriptor yX11_tellsBush.desc).map (fun d => d.parameters.length) = some 2 := by decide +kernel
theorem mp_201 : yX11_digest.cls ≠ "java/lang/invoke/MethodHandle" ∧ yX11_digest.cls ≠ "java/lang/invoke/VarHandle" ∧ (parseMethodDescriptor yX11_digest.desc).map (fun d => d.parameters.length) = some 0 := by decide +kernel
theorem mp_202 : yJ6_bitCount_0f7a4.cls ≠ "java/lang/invoke/MethodHandle" ∧ yJ6_bitCount_0f7a4.cls ≠ "java/lang/invoke/VarHandle" ∧ (parseMethodDescriptor yJ6_bitCount_0f7a4.desc).map (fun d => d.parameters.length) = some 1 := by decide +kernel
theorem mp_203 : yJ7_fill_53178.cls ≠ "java/lang/invoke/MethodHandle" ∧ yJ7_fill_53178.cls ≠ "java/lang/invoke/VarHandle" ∧ (parseMethodDescriptor yJ7_fill_53178.desc).map (fun d => d.parameters.length) = some 2 := by decide +kernel
theorem wd_1 : Cond.initialized "GorseGold" ∈ gW := List.mem_filter.mpr ⟨List.mem_of_getElem? (i := 72) (by decide +kernel), by decide +kernel⟩
theorem wd_2 : Cond.initialized "GorseGold$Market" ∈ gW := List.mem_filter.mpr ⟨List.mem_of_getElem? (i := 73) (by decide +kernel), by decide +kernel⟩
theorem wd_3 : Cond.initialized "GorseGold$Hill" ∈ gW := List.mem_filter.mpr ⟨List.mem_of_getElem? (i := 74) (by decide +kernel), by decide +kernel⟩
theorem wd_4 : Cond.initialized "GorseGold$Bushes" ∈ gW := List.mem_filter.mpr ⟨List.mem_of_getElem? (i := 75) (by decide +kernel), by decide +kernel⟩
theorem wd_5 : Cond.initialized "GorseGold$Text" ∈ gW := List.mem_filter.mpr ⟨List.mem_of_getElem? (i := 76) (by decide +kernel), by decide +kernel⟩
theorem wd_6 : Cond.initialized "GorseGold$Course" ∈ gW := List.mem_filter.mpr ⟨List.mem_of_getElem? (i := 77) (by decide +kernel), by decide +kernel⟩
theorem wd_7 : Cond.initialized "GorseGold$Looks" ∈ gW := List.mem_filter.mpr ⟨List.mem_of_getElem? (i := 78) (by decide +kernel), by decide +kernel⟩
theorem wd_8 : Cond.initialized "GorseGold$Events" ∈ gW := List.mem_filter.mpr ⟨List.mem_of_getElem? (i := 79) (by decide +kernel), by decide +kernel⟩
theorem wd_9 : Cond.initialized "GorseGold$Seen" ∈ gW := List.mem_filter.mpr ⟨List.mem_of_getElem? (i := 80) (by decide +kernel), by decide +kernel⟩
theorem wd_10 : Cond.initialized "GorseGold$Lots" ∈ gW := List.mem_filter.mpr ⟨List.mem_of_getElem? (i := 81) (by decide +kernel), by decide +kernel⟩
theorem wd_11 : Cond.initialized "GorseGold$Sheet" ∈ gW := List.mem_filter.mpr ⟨List.mem_of_getElem? (i := 82) (by decide +kernel), by decide +kernel⟩
theorem wd_12 : Cond.initialized "GorseGoldModel" ∈ gW := List.mem_filter.mpr ⟨List.mem_of_getElem? (i := 83) (by decide +kernel), by decide +kernel⟩
theorem wd_13 : Cond.initialized "java/util/Arrays" ∈ gW := List.mem_filter.mpr ⟨List.mem_of_getElem? (i := 84) (by decide +kernel), by decide +kernel⟩
theorem wd_14 : Cond.initialized "java/lang/Math" ∈ gW := List.mem_filter.mpr ⟨List.mem_of_getElem? (i := 85) (by decide +kernel), by decide +kernel⟩
theorem wd_15 : Cond.initialized "java/lang/Integer" ∈ gW := List.mem_filter.mpr ⟨List.mem_of_getElem? (i := 86) (by decide +kernel), by decide +kernel⟩
theorem wd_16 : Cond.initialized "java/lang/System" ∈ gW := List.mem_filter.mpr ⟨List.mem_of_getElem? (i := 87) (by decide +kernel), by decide +kernel⟩
theorem wd_53 : Cond.fieldLink RX9 9 "GorseGold$Text" "bytes" "[I" ∈ gW := List.mem_filter.mpr ⟨List.mem_of_getElem? (i := 124) (by decide +kernel), by decide +kernel⟩
theorem wn_54 : Cond.fieldLinkNest RX4 35 "GorseGold$Text" "bytes" "[I" "GorseGold" ∈ gNest := List.mem_filter.mpr ⟨List.mem_of_getElem? (i := 125) (by decide +kernel), by decide +kernel⟩
theorem wn_55 : Cond.fieldLinkNest RX0 38 "GorseGold$Text" "bytes" "[I" "GorseGold" ∈ gNest := List.mem_filter.mpr ⟨List.mem_of_getElem? (i := 126) (by decide +kernel), by decide +kernel⟩
theorem wd_56 : Cond.fieldLink RX9 15 "GorseGold$Text" "lows" "[I" ∈ gW := List.mem_filter.mpr ⟨List.mem_of_getElem? (i := 127) (by decide +kernel), by decide +kernel⟩
theorem wd_57 : Cond.fieldLink RX9 18 "GorseGold$Text" "highs" "[I" ∈ gW := List.mem_filter.mpr ⟨List.mem_of_getElem? (i := 128) (by decide +kernel), by decide +kernel⟩
theorem wd_58 : Cond.fieldLink RX9 21 "GorseGold$Text" "mostItems" "I" ∈ gW := List.mem_filter.mpr ⟨List.mem_of_getElem? (i := 129) (by decide +kernel), by decide +kernel⟩
theorem wd_59 : Cond.fieldLink RX9 25 "GorseGold$Text" "step" "I" ∈ gW := List.mem_filter.mpr ⟨List.mem_of_getElem? (i := 130) (by decide +kernel), by decide +kernel⟩
theorem wd_60 : Cond.fieldLink RX9 28 "GorseGold$Text" "length" "I" ∈ gW := List.mem_filter.mpr ⟨List.mem_of_getElem? (i := 131) (by decide +kernel), by decide +kernel⟩
theorem wn_61 : Cond.fieldLinkNest RX10 304 "GorseGold$Text" "length" "I" "GorseGold" ∈ gNest := List.mem_filter.mpr ⟨List.mem_of_getElem? (i := 132) (by decide +kernel), by decide +kernel⟩
theorem wd_62 : Cond.fieldLink RX9 31 "GorseGold$Text" "faultPlace" "I" ∈ gW := List.mem_filter.mpr ⟨List.mem_of_getElem? (i := 133) (by decide +kernel), by decide +kernel⟩
theorem wn_63 : Cond.fieldLinkNest RX10 107 "GorseGold$Text" "faultPlace" "I" "GorseGold" ∈ gNest := List.mem_filter.mpr ⟨List.mem_of_getElem? (i := 134) (by decide +kernel), by decide +kernel⟩
theorem wd_64 : Cond.fieldLink RX9 34 "GorseGold$Text" "items" "I" ∈ gW := List.mem_filter.mpr ⟨List.mem_of_getElem? (i := 135) (by decide +kernel), by decide +kernel⟩
theorem wn_65 : Cond.fieldLinkNest RX4 27 "GorseGold$Text" "items" "I" "GorseGold" ∈ gNest := List.mem_filter.mpr ⟨List.mem_of_getElem? (i := 136) (by decide +kernel), by decide +kernel⟩
theorem wn_66 : Cond.fieldLinkNest RX0 27 "GorseGold$Text" "items" "I" "GorseGold" ∈ gNest := List.mem_filter.mpr ⟨List.mem_of_getElem? (i := 137) (by decide +kernel), by decide +kernel⟩
theorem wd_85 : Cond.fieldLink RX0 21 "GorseGold$Bushes" "text" "LGorseGold$Text;" ∈ gW := List.mem_filter.mpr ⟨List.mem_of_getElem? (i := 156) (by decide +kernel), by decide +kernel⟩
theorem wn_86 : Cond.fieldLinkNest RX10 300 "GorseGold$Bushes" "text" "LGorseGold$Text;" "GorseGold" ∈ gNest := List.mem_filter.mpr ⟨List.mem_of_getElem? (i := 157) (by decide +kernel), by decide +kernel⟩
theorem wd_97 : Cond.fieldLink RX1 9 "GorseGold$Course" "held" "[I" ∈ gW := List.mem_filter.mpr ⟨List.mem_of_getElem? (i := 168) (by decide +kernel), by decide +kernel⟩
theorem wn_98 : Cond.fieldLinkNest RX10 180 "GorseGold$Course" "held" "[I" "GorseGold" ∈ gNest := List.mem_filter.mpr ⟨List.mem_of_getElem? (i := 169) (by decide +kernel), by decide +kernel⟩
theorem wd_99 : Cond.fieldLink RX1 15 "GorseGold$Course" "season" "I" ∈ gW := List.mem_filter.mpr ⟨List.mem_of_getElem? (i := 170) (by decide +kernel), by decide +kernel⟩
theorem wn_100 : Cond.fieldLinkNest RX10 421 "GorseGold$Course" "season" "I" "GorseGold" ∈ gNest := List.mem_filter.mpr ⟨List.mem_of_getElem? (i := 171) (by decide +kernel), by decide +kernel⟩
theorem wd_101 : Cond.fieldLink RX1 19 "GorseGold$Course" "blooming" "I" ∈ gW := List.mem_filter.mpr ⟨List.mem_of_getElem? (i := 172) (by decide +kernel), by decide +kernel⟩
theorem wn_102 : Cond.fieldLinkNest RX3 40 "GorseGold$Course" "blooming" "I" "GorseGold" ∈ gNest := List.mem_filter.mpr ⟨List.mem_of_getElem? (i := 173) (by decide +kernel), by decide +kernel⟩
theorem wn_103 : Cond.fieldLinkNest RX10 211 "GorseGold$Course" "blooming" "I" "GorseGold" ∈ gNest := List.mem_filter.mpr ⟨List.mem_of_getElem? (i := 174) (by decide +kernel), by decide +kernel⟩
theorem wd_104 : Cond.fieldLink RX1 22 "GorseGold$Course" "seeming" "I" ∈ gW := List.mem_filter.mpr ⟨List.mem_of_getElem? (i := 175) (by decide +kernel), by decide +kernel⟩
theorem wn_105 : Cond.fieldLinkNest RX3 52 "GorseGold$Course" "seeming" "I" "GorseGold" ∈ gNest := List.mem_filter.mpr ⟨List.mem_of_getElem? (i := 176) (by decide +kernel), by decide +kernel⟩
theorem wn_106 : Cond.fieldLinkNest RX6 113 "GorseGold$Course" "seeming" "I" "GorseGold" ∈ gNest := List.mem_filter.mpr ⟨List.mem_of_getElem? (i := 177) (by decide +kernel), by decide +kernel⟩
theorem wn_107 : Cond.fieldLinkNest RX10 177 "GorseGold$Course" "seeming" "I" "GorseGold" ∈ gNest := List.mem_filter.mpr ⟨List.mem_of_getElem? (i := 178) (by decide +kernel), by decide +kernel⟩
theorem wd_117 : Cond.fieldLink RX3 12 "GorseGold$Hill" "bushes" "LGorseGold$Bushes;" ∈ gW := List.mem_filter.mpr ⟨List.mem_of_getElem? (i := 188) (by decide +kernel), by decide +kernel⟩
theorem wn_119 : Cond.fieldLinkNest RX7 25 "GorseGold$Hill" "bushes" "LGorseGold$Bushes;" "GorseGold" ∈ gNest := List.mem_filter.mpr ⟨List.mem_of_getElem? (i := 190) (by decide +kernel), by decide +kernel⟩
theorem wn_120 : Cond.fieldLinkNest RX6 84 "GorseGold$Hill" "bushes" "LGorseGold$Bushes;" "GorseGold" ∈ gNest := List.mem_filter.mpr ⟨List.mem_of_getElem? (i := 191) (by decide +kernel), by decide +kernel⟩
theorem wd_121 : Cond.fieldLink RX3 20 "GorseGold$Hill" "courses" "[LGorseGold$Course;" ∈ gW := List.mem_filter.mpr ⟨List.mem_of_getElem? (i := 192) (by decide +kernel), by decide +kernel⟩
theorem wn_122 : Cond.fieldLinkNest RX7 36 "GorseGold$Hill" "courses" "[LGorseGold$Course;" "GorseGold" ∈ gNest := List.mem_filter.mpr ⟨List.mem_of_getElem? (i := 193) (by decide +kernel), by decide +kernel⟩
theorem wn_123 : Cond.fieldLinkNest RX6 109 "GorseGold$Hill" "courses" "[LGorseGold$Course;" "GorseGold" ∈ gNest := List.mem_filter.mpr ⟨List.mem_of_getElem? (i := 194) (by decide +kernel), by decide +kernel⟩
theorem wn_124 : Cond.fieldLinkNest RX10 207 "GorseGold$Hill" "courses" "[LGorseGold$Course;" "GorseGold" ∈ gNest := List.mem_filter.mpr ⟨List.mem_of_getElem? (i := 195) (by decide +kernel), by decide +kernel⟩
theorem wd_142 : Cond.fieldLink RX4 21 "GorseGold$Looks" "text" "LGorseGold$Text;" ∈ gW := List.mem_filter.mpr ⟨List.mem_of_getElem? (i := 213) (by decide +kernel), by decide +kernel⟩
theorem wn_143 : Cond.fieldLinkNest RX10 307 "GorseGold$Looks" "text" "LGorseGold$Text;" "GorseGold" ∈ gNest := List.mem_filter.mpr ⟨List.mem_of_getElem? (i := 214) (by decide +kernel), by decide +kernel⟩
theorem wd_147 : Cond.fieldLink RX6 12 "GorseGold$Market" "hill" "LGorseGold$Hill;" ∈ gW := List.mem_filter.mpr ⟨List.mem_of_getElem? (i := 218) (by decide +kernel), by decide +kernel⟩
theorem wd_149 : Cond.fieldLink RX6 21 "GorseGold$Market" "looks" "LGorseGold$Looks;" ∈ gW := List.mem_filter.mpr ⟨List.mem_of_getElem? (i := 220) (by decide +kernel), by decide +kernel⟩
theorem wd_151 : Cond.fieldLink RX6 25 "GorseGold$Market" "fires" "[I" ∈ gW := List.mem_filter.mpr ⟨List.mem_of_getElem? (i := 222) (by decide +kernel), by decide +kernel⟩
theorem wd_152 : Cond.fieldLink RX6 29 "GorseGold$Market" "lookMonths" "[I" ∈ gW := List.mem_filter.mpr ⟨List.mem_of_getElem? (i := 223) (by decide +kernel), by decide +kernel⟩
theorem wd_153 : Cond.fieldLink RX6 32 "GorseGold$Market" "lookWorths" "[I" ∈ gW := List.mem_filter.mpr ⟨List.mem_of_getElem? (i := 224) (by decide +kernel), by decide +kernel⟩
theorem wd_154 : Cond.fieldLink RX6 35 "GorseGold$Market" "belief" "[I" ∈ gW := List.mem_filter.mpr ⟨List.mem_of_getElem? (i := 225) (by decide +kernel), by decide +kernel⟩
theorem wn_155 : Cond.fieldLinkNest RX10 191 "GorseGold$Market" "belief" "[I" "GorseGold" ∈ gNest := List.mem_filter.mpr ⟨List.mem_of_getElem? (i := 226) (by decide +kernel), by decide +kernel⟩
theorem wd_156 : Cond.fieldLink RX6 38 "GorseGold$Market" "looksThatCount" "I" ∈ gW := List.mem_filter.mpr ⟨List.mem_of_getElem? (i := 227) (by decide +kernel), by decide +kernel⟩
theorem wd_157 : Cond.fieldLink RX6 42 "GorseGold$Market" "runMonth" "I" ∈ gW := List.mem_filter.mpr ⟨List.mem_of_getElem? (i := 228) (by decide +kernel), by decide +kernel⟩
theorem wn_158 : Cond.fieldLinkNest RX10 204 "GorseGold$Market" "runMonth" "I" "GorseGold" ∈ gNest := List.mem_filter.mpr ⟨List.mem_of_getElem? (i := 229) (by decide +kernel), by decide +kernel⟩
theorem wd_159 : Cond.fieldLink RX6 45 "GorseGold$Market" "faith" "I" ∈ gW := List.mem_filter.mpr ⟨List.mem_of_getElem? (i := 230) (by decide +kernel), by decide +kernel⟩
theorem wn_160 : Cond.fieldLinkNest RX10 135 "GorseGold$Market" "faith" "I" "GorseGold" ∈ gNest := List.mem_filter.mpr ⟨List.mem_of_getElem? (i := 231) (by decide +kernel), by decide +kernel⟩
theorem wd_161 : Cond.fieldLink RX6 48 "GorseGold$Market" "doubt" "I" ∈ gW := List.mem_filter.mpr ⟨List.mem_of_getElem? (i := 232) (by decide +kernel), by decide +kernel⟩
theorem wn_162 : Cond.fieldLinkNest RX10 138 "GorseGold$Market" "doubt" "I" "GorseGold" ∈ gNest := List.mem_filter.mpr ⟨List.mem_of_getElem? (i := 233) (by decide +kernel), by decide +kernel⟩
theorem wd_190 : Cond.fieldLink RX2 9 "GorseGold$Events" "kinds" "[I" ∈ gW := List.mem_filter.mpr ⟨List.mem_of_getElem? (i := 261) (by decide +kernel), by decide +kernel⟩
theorem wn_191 : Cond.fieldLinkNest RX1 40 "GorseGold$Events" "kinds" "[I" "GorseGold" ∈ gNest := List.mem_filter.mpr ⟨List.mem_of_getElem? (i := 262) (by decide +kernel), by decide +kernel⟩
theorem wn_192 : Cond.fieldLinkNest RX6 81 "GorseGold$Events" "kinds" "[I" "GorseGold" ∈ gNest := List.mem_filter.mpr ⟨List.mem_of_getElem? (i := 263) (by decide +kernel), by decide +kernel⟩
theorem wd_193 : Cond.fieldLink RX2 15 "GorseGold$Events" "months" "[I" ∈ gW := List.mem_filter.mpr ⟨List.mem_of_getElem? (i := 264) (by decide +kernel), by decide +kernel⟩
theorem wn_194 : Cond.fieldLinkNest RX6 96 "GorseGold$Events" "months" "[I" "GorseGold" ∈ gNest := List.mem_filter.mpr ⟨List.mem_of_getElem? (i := 265) (by decide +kernel), by decide +kernel⟩
theorem wd_195 : Cond.fieldLink RX2 18 "GorseGold$Events" "bushes" "[I" ∈ gW := List.mem_filter.mpr ⟨List.mem_of_getElem? (i := 266) (by decide +kernel), by decide +kernel⟩
theorem wn_196 : Cond.fieldLinkNest RX6 88 "GorseGold$Events" "bushes" "[I" "GorseGold" ∈ gNest := List.mem_filter.mpr ⟨List.mem_of_getElem? (i := 267) (by decide +kernel), by decide +kernel⟩
theorem wd_197 : Cond.fieldLink RX2 21 "GorseGold$Events" "size" "I" ∈ gW := List.mem_filter.mpr ⟨List.mem_of_getElem? (i := 268) (by decide +kernel), by decide +kernel⟩
theorem wn_198 : Cond.fieldLinkNest RX1 31 "GorseGold$Events" "size" "I" "GorseGold" ∈ gNest := List.mem_filter.mpr ⟨List.mem_of_getElem? (i := 269) (by decide +kernel), by decide +kernel⟩
theorem wn_199 : Cond.fieldLinkNest RX6 76 "GorseGold$Events" "size" "I" "GorseGold" ∈ gNest := List.mem_filter.mpr ⟨List.mem_of_getElem? (i := 270) (by decide +kernel), by decide +kernel⟩
theorem wn_200 : Cond.fieldLinkNest RX10 161 "GorseGold$Events" "size" "I" "GorseGold" ∈ gNest := List.mem_filter.mpr ⟨List.mem_of_getElem? (i := 271) (by decide +kernel), by decide +kernel⟩
theorem wd_218 : Cond.fieldLink RX7 9 "GorseGold$Seen" "months" "[I" ∈ gW := List.mem_filter.mpr ⟨List.mem_of_getElem? (i := 289) (by decide +kernel), by decide +kernel⟩
theorem wd_219 : Cond.fieldLink RX7 15 "GorseGold$Seen" "bushes" "[I" ∈ gW := List.mem_filter.mpr ⟨List.mem_of_getElem? (i := 290) (by decide +kernel), by decide +kernel⟩
theorem wd_220 : Cond.fieldLink RX7 18 "GorseGold$Seen" "states" "[I" ∈ gW := List.mem_filter.mpr ⟨List.mem_of_getElem? (i := 291) (by decide +kernel), by decide +kernel⟩
theorem wd_221 : Cond.fieldLink RX7 21 "GorseGold$Seen" "size" "I" ∈ gW := List.mem_filter.mpr ⟨List.mem_of_getElem? (i := 292) (by decide +kernel), by decide +kernel⟩
theorem wn_222 : Cond.fieldLinkNest RX10 314 "GorseGold$Seen" "size" "I" "GorseGold" ∈ gNest := List.mem_filter.mpr ⟨List.mem_of_getElem? (i := 293) (by decide +kernel), by decide +kernel⟩
theorem wd_238 : Cond.fieldLink RX5 7 "GorseGold$Lots" "seed" "I" ∈ gW := List.mem_filter.mpr ⟨List.mem_of_getElem? (i := 309) (by decide +kernel), by decide +kernel⟩
theorem wn_239 : Cond.fieldLinkNest RX10 429 "GorseGold$Lots" "seed" "I" "GorseGold" ∈ gNest := List.mem_filter.mpr ⟨List.mem_of_getElem? (i := 310) (by decide +kernel), by decide +kernel⟩
theorem wd_250 : Cond.fieldLink RX8 9 "GorseGold$Sheet" "items" "[I" ∈ gW := List.mem_filter.mpr ⟨List.mem_of_getElem? (i := 321) (by decide +kernel), by decide +kernel⟩
theorem wn_251 : Cond.fieldLinkNest RX10 286 "GorseGold$Sheet" "items" "[I" "GorseGold" ∈ gNest := List.mem_filter.mpr ⟨List.mem_of_getElem? (i := 322) (by decide +kernel), by decide +kernel⟩
theorem wd_252 : Cond.fieldLink RX8 15 "GorseGold$Sheet" "form" "I" ∈ gW := List.mem_filter.mpr ⟨List.mem_of_getElem? (i := 323) (by decide +kernel), by decide +kernel⟩
theorem wn_253 : Cond.fieldLinkNest RX10 279 "GorseGold$Sheet" "form" "I" "GorseGold" ∈ gNest := List.mem_filter.mpr ⟨List.mem_of_getElem? (i := 324) (by decide +kernel), by decide +kernel⟩
theorem wd_254 : Cond.fieldLink RX8 19 "GorseGold$Sheet" "size" "I" ∈ gW := List.mem_filter.mpr ⟨List.mem_of_getElem? (i := 325) (by decide +kernel), by decide +kernel⟩
theorem wn_255 : Cond.fieldLinkNest RX10 163 "GorseGold$Sheet" "size" "I" "GorseGold" ∈ gNest := List.mem_filter.mpr ⟨List.mem_of_getElem? (i := 326) (by decide +kernel), by decide +kernel⟩
theorem wd_263 : Cond.fieldLink RX10 12 "GorseGold" "market" "LGorseGold$Market;" ∈ gW := List.mem_filter.mpr ⟨List.mem_of_getElem? (i := 334) (by decide +kernel), by decide +kernel⟩
theorem wd_264 : Cond.fieldLink RX10 20 "GorseGold" "hill" "LGorseGold$Hill;" ∈ gW := List.mem_filter.mpr ⟨List.mem_of_getElem? (i := 335) (by decide +kernel), by decide +kernel⟩
theorem wd_265 : Cond.fieldLink RX10 27 "GorseGold" "bushes" "LGorseGold$Bushes;" ∈ gW := List.mem_filter.mpr ⟨List.mem_of_getElem? (i := 336) (by decide +kernel), by decide +kernel⟩
theorem wd_266 : Cond.fieldLink RX10 32 "GorseGold" "looks" "LGorseGold$Looks;" ∈ gW := List.mem_filter.mpr ⟨List.mem_of_getElem? (i := 337) (by decide +kernel), by decide +kernel⟩
theorem wd_267 : Cond.fieldLink RX10 36 "GorseGold" "events" "LGorseGold$Events;" ∈ gW := List.mem_filter.mpr ⟨List.mem_of_getElem? (i := 338) (by decide +kernel), by decide +kernel⟩
theorem wd_268 : Cond.fieldLink RX10 40 "GorseGold" "drawn" "LGorseGold$Events;" ∈ gW := List.mem_filter.mpr ⟨List.mem_of_getElem? (i := 339) (by decide +kernel), by decide +kernel⟩
theorem wd_269 : Cond.fieldLink RX10 46 "GorseGold" "lone" "LGorseGold$Course;" ∈ gW := List.mem_filter.mpr ⟨List.mem_of_getElem? (i := 340) (by decide +kernel), by decide +kernel⟩
theorem wd_270 : Cond.fieldLink RX10 53 "GorseGold" "sights" "LGorseGold$Seen;" ∈ gW := List.mem_filter.mpr ⟨List.mem_of_getElem? (i := 341) (by decide +kernel), by decide +kernel⟩
theorem wd_271 : Cond.fieldLink RX10 60 "GorseGold" "lots" "LGorseGold$Lots;" ∈ gW := List.mem_filter.mpr ⟨List.mem_of_getElem? (i := 342) (by decide +kernel), by decide +kernel⟩
theorem wd_272 : Cond.fieldLink RX10 66 "GorseGold" "sheets" "[LGorseGold$Sheet;" ∈ gW := List.mem_filter.mpr ⟨List.mem_of_getElem? (i := 343) (by decide +kernel), by decide +kernel⟩
theorem wd_273 : Cond.fieldLink RX10 71 "GorseGold" "hinderers" "[I" ∈ gW := List.mem_filter.mpr ⟨List.mem_of_getElem? (i := 344) (by decide +kernel), by decide +kernel⟩
theorem wd_274 : Cond.fieldLink RX10 75 "GorseGold" "alike" "[I" ∈ gW := List.mem_filter.mpr ⟨List.mem_of_getElem? (i := 345) (by decide +kernel), by decide +kernel⟩
theorem wd_275 : Cond.fieldLink RX10 78 "GorseGold" "latestFinding" "I" ∈ gW := List.mem_filter.mpr ⟨List.mem_of_getElem? (i := 346) (by decide +kernel), by decide +kernel⟩
theorem wd_303 : Cond.methodLink R_law 13 yX10_type ∈ gW := List.mem_filter.mpr ⟨List.mem_of_getElem? (i := 374) (by decide +kernel), by decide +kernel⟩
theorem wd_304 : Cond.instanceMethod yX10_type ∈ gW := List.mem_filter.mpr ⟨List.mem_of_getElem? (i := 375) (by decide +kernel), by decide +kernel⟩
theorem wd_305 : Cond.selects RX10 yX10_type yX10_type ∈ gW := List.mem_filter.mpr ⟨List.mem_of_getElem? (i := 376) (by decide +kernel), by decide +kernel⟩
theorem wd_306 : Cond.code yX10_type cX10_type 3 (some (.int)) ∈ gW := List.mem_filter.mpr ⟨List.mem_of_getElem? (i := 377) (by decide +kernel), by decide +kernel⟩
theorem wd_307 : Cond.methodLink RX10 82 yX10_isText ∈ gW := List.mem_filter.mpr ⟨List.mem_of_getElem? (i := 378) (by decide +kernel), by decide +kernel⟩
theorem wd_308 : Cond.static yX10_isText ∈ gW := List.mem_filter.mpr ⟨List.mem_of_getElem? (i := 379) (by decide +kernel), by decide +kernel⟩
theorem wd_309 : Cond.code yX10_isText cX10_isText 1 (some (.boolean)) ∈ gW := List.mem_filter.mpr ⟨List.mem_of_getElem? (i := 380) (by decide +kernel), by decide +kernel⟩
theorem wd_310 : Cond.methodLink RX10 86 yX10_within ∈ gW := List.mem_filter.mpr ⟨List.mem_of_getElem? (i := 381) (by decide +kernel), by decide +kernel⟩
theorem wd_311 : Cond.static yX10_within ∈ gW := List.mem_filter.mpr ⟨List.mem_of_getElem? (i := 382) (by decide +kernel), by decide +kernel⟩
theorem wd_312 : Cond.code yX10_within cX10_within 3 (some (.boolean)) ∈ gW := List.mem_filter.mpr ⟨List.mem_of_getElem? (i := 383) (by decide +kernel), by decide +kernel⟩
theorem wd_313 : Cond.methodLink RX10 90 yX10_textOf ∈ gW := List.mem_filter.mpr ⟨List.mem_of_getElem? (i := 384) (by decide +kernel), by decide +kernel⟩
theorem wd_315 : Cond.instanceMethod yX10_textOf ∈ gW := List.mem_filter.mpr ⟨List.mem_of_getElem? (i := 386) (by decide +kernel), by decide +kernel⟩
theorem wd_316 : Cond.code yX10_textOf cX10_textOf 2 (some (.object "GorseGold$Text")) ∈ gW := List.mem_filter.mpr ⟨List.mem_of_getElem? (i := 387) (by decide +kernel), by decide +kernel⟩
theorem wd_317 : Cond.methodLink RX10 94 yX9_put ∈ gW := List.mem_filter.mpr ⟨List.mem_of_getElem? (i := 388) (by decide +kernel), by decide +kernel⟩
theorem wd_318 : Cond.instanceMethod yX9_put ∈ gW := List.mem_filter.mpr ⟨List.mem_of_getElem? (i := 389) (by decide +kernel), by decide +kernel⟩
theorem wd_319 : Cond.selects RX9 yX9_put yX9_put ∈ gW := List.mem_filter.mpr ⟨List.mem_of_getElem? (i := 390) (by decide +kernel), by decide +kernel⟩
theorem wd_320 : Cond.code yX9_put cX9_put 2 (some (.int)) ∈ gW := List.mem_filter.mpr ⟨List.mem_of_getElem? (i := 391) (by decide +kernel), by decide +kernel⟩
theorem wd_321 : Cond.methodLink RX9 37 yX9_parse ∈ gW := List.mem_filter.mpr ⟨List.mem_of_getElem? (i := 392) (by decide +kernel), by decide +kernel⟩
theorem wd_323 : Cond.instanceMethod yX9_parse ∈ gW := List.mem_filter.mpr ⟨List.mem_of_getElem? (i := 394) (by decide +kernel), by decide +kernel⟩
theorem wd_324 : Cond.code yX9_parse cX9_parse 1 none ∈ gW := List.mem_filter.mpr ⟨List.mem_of_getElem? (i := 395) (by decide +kernel), by decide +kernel⟩
theorem wd_325 : Cond.methodLink RX9 40 yX9_firstFault ∈ gW := List.mem_filter.mpr ⟨List.mem_of_getElem? (i := 396) (by decide +kernel), by decide +kernel⟩
theorem wd_327 : Cond.instanceMethod yX9_firstFault ∈ gW := List.mem_filter.mpr ⟨List.mem_of_getElem? (i := 398) (by decide +kernel), by decide +kernel⟩
theorem wd_328 : Cond.code yX9_firstFault cX9_firstFault 2 (some (.int)) ∈ gW := List.mem_filter.mpr ⟨List.mem_of_getElem? (i := 399) (by decide +kernel), by decide +kernel⟩
theorem wd_329 : Cond.methodLink RX9 44 yX9_mayStand ∈ gW := List.mem_filter.mpr ⟨List.mem_of_getElem? (i := 400) (by decide +kernel), by decide +kernel⟩
theorem wd_331 : Cond.instanceMethod yX9_mayStand ∈ gW := List.mem_filter.mpr ⟨List.mem_of_getElem? (i := 402) (by decide +kernel), by decide +kernel⟩
theorem wd_332 : Cond.code yX9_mayStand cX9_mayStand 4 (some (.boolean)) ∈ gW := List.mem_filter.mpr ⟨List.mem_of_getElem? (i := 403) (by decide +kernel), by decide +kernel⟩
theorem wd_333 : Cond.methodLink R_law 18 yX10_wipe ∈ gW := List.mem_filter.mpr ⟨List.mem_of_getElem? (i := 404) (by decide +kernel), by decide +kernel⟩
theorem wd_334 : Cond.instanceMethod yX10_wipe ∈ gW := List.mem_filter.mpr ⟨List.mem_of_getElem? (i := 405) (by decide +kernel), by decide +kernel⟩
theorem wd_335 : Cond.selects RX10 yX10_wipe yX10_wipe ∈ gW := List.mem_filter.mpr ⟨List.mem_of_getElem? (i := 406) (by decide +kernel), by decide +kernel⟩
theorem wd_336 : Cond.code yX10_wipe cX10_wipe 2 (some (.int)) ∈ gW := List.mem_filter.mpr ⟨List.mem_of_getElem? (i := 407) (by decide +kernel), by decide +kernel⟩
theorem wd_337 : Cond.methodLink RX10 100 yX9_clear ∈ gW := List.mem_filter.mpr ⟨List.mem_of_getElem? (i := 408) (by decide +kernel), by decide +kernel⟩
theorem wd_338 : Cond.instanceMethod yX9_clear ∈ gW := List.mem_filter.mpr ⟨List.mem_of_getElem? (i := 409) (by decide +kernel), by decide +kernel⟩
theorem wd_339 : Cond.selects RX9 yX9_clear yX9_clear ∈ gW := List.mem_filter.mpr ⟨List.mem_of_getElem? (i := 410) (by decide +kernel), by decide +kernel⟩
theorem wd_340 : Cond.code yX9_clear cX9_clear 2 (some (.int)) ∈ gW := List.mem_filter.mpr ⟨List.mem_of_getElem? (i := 411) (by decide +kernel), by decide +kernel⟩
theorem wd_341 : Cond.methodLink R_law 23 yX10_undo ∈ gW := List.mem_filter.mpr ⟨List.mem_of_getElem? (i := 412) (by decide +kernel), by decide +kernel⟩
theorem wd_342 : Cond.instanceMethod yX10_undo ∈ gW := List.mem_filter.mpr ⟨List.mem_of_getElem? (i := 413) (by decide +kernel), by decide +kernel⟩
theorem wd_343 : Cond.selects RX10 yX10_undo yX10_undo ∈ gW := List.mem_filter.mpr ⟨List.mem_of_getElem? (i := 414) (by decide +kernel), by decide +kernel⟩
theorem wd_344 : Cond.code yX10_undo cX10_undo 2 (some (.int)) ∈ gW := List.mem_filter.mpr ⟨List.mem_of_getElem? (i := 415) (by decide +kernel), by decide +kernel⟩
theorem wd_345 : Cond.methodLink RX10 104 yX9_drop ∈ gW := List.mem_filter.mpr ⟨List.mem_of_getElem? (i := 416) (by decide +kernel), by decide +kernel⟩
theorem wd_346 : Cond.instanceMethod yX9_drop ∈ gW := List.mem_filter.mpr ⟨List.mem_of_getElem? (i := 417) (by decide +kernel), by decide +kernel⟩
theorem wd_347 : Cond.selects RX9 yX9_drop yX9_drop ∈ gW := List.mem_filter.mpr ⟨List.mem_of_getElem? (i := 418) (by decide +kernel), by decide +kernel⟩
theorem wd_348 : Cond.code yX9_drop cX9_drop 1 (some (.int)) ∈ gW := List.mem_filter.mpr ⟨List.mem_of_getElem? (i := 419) (by decide +kernel), by decide +kernel⟩
theorem wd_349 : Cond.methodLink R_law 27 yX10_fault ∈ gW := List.mem_filter.mpr ⟨List.mem_of_getElem? (i := 420) (by decide +kernel), by decide +kernel⟩
theorem wd_350 : Cond.instanceMethod yX10_fault ∈ gW := List.mem_filter.mpr ⟨List.mem_of_getElem? (i := 421) (by decide +kernel), by decide +kernel⟩
theorem wd_351 : Cond.selects RX10 yX10_fault yX10_fault ∈ gW := List.mem_filter.mpr ⟨List.mem_of_getElem? (i := 422) (by decide +kernel), by decide +kernel⟩
theorem wd_352 : Cond.code yX10_fault cX10_fault 2 (some (.int)) ∈ gW := List.mem_filter.mpr ⟨List.mem_of_getElem? (i := 423) (by decide +kernel), by decide +kernel⟩
theorem wd_353 : Cond.methodLink R_law 31 yX10_bush ∈ gW := List.mem_filter.mpr ⟨List.mem_of_getElem? (i := 424) (by decide +kernel), by decide +kernel⟩
theorem wd_354 : Cond.instanceMethod yX10_bush ∈ gW := List.mem_filter.mpr ⟨List.mem_of_getElem? (i := 425) (by decide +kernel), by decide +kernel⟩
theorem wd_355 : Cond.selects RX10 yX10_bush yX10_bush ∈ gW := List.mem_filter.mpr ⟨List.mem_of_getElem? (i := 426) (by decide +kernel), by decide +kernel⟩
theorem wd_356 : Cond.code yX10_bush cX10_bush 3 (some (.int)) ∈ gW := List.mem_filter.mpr ⟨List.mem_of_getElem? (i := 427) (by decide +kernel), by decide +kernel⟩
theorem wd_357 : Cond.methodLink RX10 110 yX0_has ∈ gW := List.mem_filter.mpr ⟨List.mem_of_getElem? (i := 428) (by decide +kernel), by decide +kernel⟩
theorem wd_358 : Cond.instanceMethod yX0_has ∈ gW := List.mem_filter.mpr ⟨List.mem_of_getElem? (i := 429) (by decide +kernel), by decide +kernel⟩
theorem wd_359 : Cond.selects RX0 yX0_has yX0_has ∈ gW := List.mem_filter.mpr ⟨List.mem_of_getElem? (i := 430) (by decide +kernel), by decide +kernel⟩
theorem wd_360 : Cond.code yX0_has cX0_has 2 (some (.boolean)) ∈ gW := List.mem_filter.mpr ⟨List.mem_of_getElem? (i := 431) (by decide +kernel), by decide +kernel⟩
theorem wd_361 : Cond.methodLink RX10 115 yX0_kindOf ∈ gW := List.mem_filter.mpr ⟨List.mem_of_getElem? (i := 432) (by decide +kernel), by decide +kernel⟩
theorem wd_362 : Cond.instanceMethod yX0_kindOf ∈ gW := List.mem_filter.mpr ⟨List.mem_of_getElem? (i := 433) (by decide +kernel), by decide +kernel⟩
theorem wd_363 : Cond.selects RX0 yX0_kindOf yX0_kindOf ∈ gW := List.mem_filter.mpr ⟨List.mem_of_getElem? (i := 434) (by decide +kernel), by decide +kernel⟩
theorem wd_364 : Cond.code yX0_kindOf cX0_kindOf 2 (some (.int)) ∈ gW := List.mem_filter.mpr ⟨List.mem_of_getElem? (i := 435) (by decide +kernel), by decide +kernel⟩
theorem wd_365 : Cond.methodLink RX0 31 yX0_has ∈ gW := List.mem_filter.mpr ⟨List.mem_of_getElem? (i := 436) (by decide +kernel), by decide +kernel⟩
theorem wn_366 : Cond.fieldLinkNest RX0 35 "GorseGold" "KIND_OF_SIGN" "[I" "GorseGold" ∈ gNest := List.mem_filter.mpr ⟨List.mem_of_getElem? (i := 437) (by decide +kernel), by decide +kernel⟩
theorem wd_368 : Cond.methodLink RX10 118 yX0_beginOf ∈ gW := List.mem_filter.mpr ⟨List.mem_of_getElem? (i := 439) (by decide +kernel), by decide +kernel⟩
theorem wd_369 : Cond.instanceMethod yX0_beginOf ∈ gW := List.mem_filter.mpr ⟨List.mem_of_getElem? (i := 440) (by decide +kernel), by decide +kernel⟩
theorem wd_370 : Cond.selects RX0 yX0_beginOf yX0_beginOf ∈ gW := List.mem_filter.mpr ⟨List.mem_of_getElem? (i := 441) (by decide +kernel), by decide +kernel⟩
theorem wd_371 : Cond.code yX0_beginOf cX0_beginOf 2 (some (.int)) ∈ gW := List.mem_filter.mpr ⟨List.mem_of_getElem? (i := 442) (by decide +kernel), by decide +kernel⟩
theorem wd_372 : Cond.methodLink RX10 121 yX0_sparksOf ∈ gW := List.mem_filter.mpr ⟨List.mem_of_getElem? (i := 443) (by decide +kernel), by decide +kernel⟩
theorem wd_373 : Cond.instanceMethod yX0_sparksOf ∈ gW := List.mem_filter.mpr ⟨List.mem_of_getElem? (i := 444) (by decide +kernel), by decide +kernel⟩
theorem wd_374 : Cond.selects RX0 yX0_sparksOf yX0_sparksOf ∈ gW := List.mem_filter.mpr ⟨List.mem_of_getElem? (i := 445) (by decide +kernel), by decide +kernel⟩
theorem wd_375 : Cond.code yX0_sparksOf cX0_sparksOf 2 (some (.int)) ∈ gW := List.mem_filter.mpr ⟨List.mem_of_getElem? (i := 446) (by decide +kernel), by decide +kernel⟩
theorem wd_376 : Cond.methodLink R_law 35 yX10_look ∈ gW := List.mem_filter.mpr ⟨List.mem_of_getElem? (i := 447) (by decide +kernel), by decide +kernel⟩
theorem wd_377 : Cond.instanceMethod yX10_look ∈ gW := List.mem_filter.mpr ⟨List.mem_of_getElem? (i := 448) (by decide +kernel), by decide +kernel⟩
theorem wd_378 : Cond.selects RX10 yX10_look yX10_look ∈ gW := List.mem_filter.mpr ⟨List.mem_of_getElem? (i := 449) (by decide +kernel), by decide +kernel⟩
theorem wd_379 : Cond.code yX10_look cX10_look 3 (some (.int)) ∈ gW := List.mem_filter.mpr ⟨List.mem_of_getElem? (i := 450) (by decide +kernel), by decide +kernel⟩
theorem wd_380 : Cond.methodLink RX10 124 yX4_size ∈ gW := List.mem_filter.mpr ⟨List.mem_of_getElem? (i := 451) (by decide +kernel), by decide +kernel⟩
theorem wd_381 : Cond.instanceMethod yX4_size ∈ gW := List.mem_filter.mpr ⟨List.mem_of_getElem? (i := 452) (by decide +kernel), by decide +kernel⟩
theorem wd_382 : Cond.selects RX4 yX4_size yX4_size ∈ gW := List.mem_filter.mpr ⟨List.mem_of_getElem? (i := 453) (by decide +kernel), by decide +kernel⟩
theorem wd_383 : Cond.code yX4_size cX4_size 1 (some (.int)) ∈ gW := List.mem_filter.mpr ⟨List.mem_of_getElem? (i := 454) (by decide +kernel), by decide +kernel⟩
theorem wd_384 : Cond.methodLink RX10 129 yX4_monthOf ∈ gW := List.mem_filter.mpr ⟨List.mem_of_getElem? (i := 455) (by decide +kernel), by decide +kernel⟩
theorem wd_385 : Cond.instanceMethod yX4_monthOf ∈ gW := List.mem_filter.mpr ⟨List.mem_of_getElem? (i := 456) (by decide +kernel), by decide +kernel⟩
theorem wd_386 : Cond.selects RX4 yX4_monthOf yX4_monthOf ∈ gW := List.mem_filter.mpr ⟨List.mem_of_getElem? (i := 457) (by decide +kernel), by decide +kernel⟩
theorem wd_387 : Cond.code yX4_monthOf cX4_monthOf 2 (some (.int)) ∈ gW := List.mem_filter.mpr ⟨List.mem_of_getElem? (i := 458) (by decide +kernel), by decide +kernel⟩
theorem wd_388 : Cond.methodLink RX4 31 yX4_has ∈ gW := List.mem_filter.mpr ⟨List.mem_of_getElem? (i := 459) (by decide +kernel), by decide +kernel⟩
theorem wd_389 : Cond.instanceMethod yX4_has ∈ gW := List.mem_filter.mpr ⟨List.mem_of_getElem? (i := 460) (by decide +kernel), by decide +kernel⟩
theorem wd_390 : Cond.selects RX4 yX4_has yX4_has ∈ gW := List.mem_filter.mpr ⟨List.mem_of_getElem? (i := 461) (by decide +kernel), by decide +kernel⟩
theorem wd_391 : Cond.code yX4_has cX4_has 2 (some (.boolean)) ∈ gW := List.mem_filter.mpr ⟨List.mem_of_getElem? (i := 462) (by decide +kernel), by decide +kernel⟩
theorem wd_392 : Cond.methodLink RX10 132 yX4_bushOf ∈ gW := List.mem_filter.mpr ⟨List.mem_of_getElem? (i := 463) (by decide +kernel), by decide +kernel⟩
theorem wd_393 : Cond.instanceMethod yX4_bushOf ∈ gW := List.mem_filter.mpr ⟨List.mem_of_getElem? (i := 464) (by decide +kernel), by decide +kernel⟩
theorem wd_394 : Cond.selects RX4 yX4_bushOf yX4_bushOf ∈ gW := List.mem_filter.mpr ⟨List.mem_of_getElem? (i := 465) (by decide +kernel), by decide +kernel⟩
theorem wd_395 : Cond.code yX4_bushOf cX4_bushOf 2 (some (.int)) ∈ gW := List.mem_filter.mpr ⟨List.mem_of_getElem? (i := 466) (by decide +kernel), by decide +kernel⟩
theorem wd_396 : Cond.methodLink R_law 39 yX10_set ∈ gW := List.mem_filter.mpr ⟨List.mem_of_getElem? (i := 467) (by decide +kernel), by decide +kernel⟩
theorem wd_397 : Cond.instanceMethod yX10_set ∈ gW := List.mem_filter.mpr ⟨List.mem_of_getElem? (i := 468) (by decide +kernel), by decide +kernel⟩
theorem wd_398 : Cond.selects RX10 yX10_set yX10_set ∈ gW := List.mem_filter.mpr ⟨List.mem_of_getElem? (i := 469) (by decide +kernel), by decide +kernel⟩
theorem wd_399 : Cond.code yX10_set cX10_set 4 (some (.int)) ∈ gW := List.mem_filter.mpr ⟨List.mem_of_getElem? (i := 470) (by decide +kernel), by decide +kernel⟩
theorem wd_400 : Cond.methodLink R_law 43 yX10_event ∈ gW := List.mem_filter.mpr ⟨List.mem_of_getElem? (i := 471) (by decide +kernel), by decide +kernel⟩
theorem wd_401 : Cond.instanceMethod yX10_event ∈ gW := List.mem_filter.mpr ⟨List.mem_of_getElem? (i := 472) (by decide +kernel), by decide +kernel⟩
theorem wd_402 : Cond.selects RX10 yX10_event yX10_event ∈ gW := List.mem_filter.mpr ⟨List.mem_of_getElem? (i := 473) (by decide +kernel), by decide +kernel⟩
theorem wd_403 : Cond.code yX10_event cX10_event 4 (some (.int)) ∈ gW := List.mem_filter.mpr ⟨List.mem_of_getElem? (i := 474) (by decide +kernel), by decide +kernel⟩
theorem wd_404 : Cond.methodLink RX10 141 yX10_mayBeEvent ∈ gW := List.mem_filter.mpr ⟨List.mem_of_getElem? (i := 475) (by decide +kernel), by decide +kernel⟩
theorem wd_405 : Cond.static yX10_mayBeEvent ∈ gW := List.mem_filter.mpr ⟨List.mem_of_getElem? (i := 476) (by decide +kernel), by decide +kernel⟩
theorem wd_406 : Cond.code yX10_mayBeEvent cX10_mayBeEvent 3 (some (.boolean)) ∈ gW := List.mem_filter.mpr ⟨List.mem_of_getElem? (i := 477) (by decide +kernel), by decide +kernel⟩
theorem wd_407 : Cond.methodLink RX10 167 yX10_isMonth ∈ gW := List.mem_filter.mpr ⟨List.mem_of_getElem? (i := 478) (by decide +kernel), by decide +kernel⟩
theorem wd_408 : Cond.static yX10_isMonth ∈ gW := List.mem_filter.mpr ⟨List.mem_of_getElem? (i := 479) (by decide +kernel), by decide +kernel⟩
theorem wd_409 : Cond.code yX10_isMonth cX10_isMonth 1 (some (.boolean)) ∈ gW := List.mem_filter.mpr ⟨List.mem_of_getElem? (i := 480) (by decide +kernel), by decide +kernel⟩
theorem wd_410 : Cond.methodLink RX10 144 yX2_add ∈ gW := List.mem_filter.mpr ⟨List.mem_of_getElem? (i := 481) (by decide +kernel), by decide +kernel⟩
theorem wd_411 : Cond.instanceMethod yX2_add ∈ gW := List.mem_filter.mpr ⟨List.mem_of_getElem? (i := 482) (by decide +kernel), by decide +kernel⟩
theorem wd_412 : Cond.selects RX2 yX2_add yX2_add ∈ gW := List.mem_filter.mpr ⟨List.mem_of_getElem? (i := 483) (by decide +kernel), by decide +kernel⟩
theorem wd_413 : Cond.code yX2_add cX2_add 4 (some (.int)) ∈ gW := List.mem_filter.mpr ⟨List.mem_of_getElem? (i := 484) (by decide +kernel), by decide +kernel⟩
theorem wd_414 : Cond.methodLink R_law 48 yX10_back ∈ gW := List.mem_filter.mpr ⟨List.mem_of_getElem? (i := 485) (by decide +kernel), by decide +kernel⟩
theorem wd_415 : Cond.instanceMethod yX10_back ∈ gW := List.mem_filter.mpr ⟨List.mem_of_getElem? (i := 486) (by decide +kernel), by decide +kernel⟩
theorem wd_416 : Cond.selects RX10 yX10_back yX10_back ∈ gW := List.mem_filter.mpr ⟨List.mem_of_getElem? (i := 487) (by decide +kernel), by decide +kernel⟩
theorem wd_417 : Cond.code yX10_back cX10_back 1 (some (.int)) ∈ gW := List.mem_filter.mpr ⟨List.mem_of_getElem? (i := 488) (by decide +kernel), by decide +kernel⟩
theorem wd_418 : Cond.methodLink RX10 148 yX2_dropLast ∈ gW := List.mem_filter.mpr ⟨List.mem_of_getElem? (i := 489) (by decide +kernel), by decide +kernel⟩
theorem wd_419 : Cond.instanceMethod yX2_dropLast ∈ gW := List.mem_filter.mpr ⟨List.mem_of_getElem? (i := 490) (by decide +kernel), by decide +kernel⟩
theorem wd_420 : Cond.selects RX2 yX2_dropLast yX2_dropLast ∈ gW := List.mem_filter.mpr ⟨List.mem_of_getElem? (i := 491) (by decide +kernel), by decide +kernel⟩
theorem wd_421 : Cond.code yX2_dropLast cX2_dropLast 1 (some (.int)) ∈ gW := List.mem_filter.mpr ⟨List.mem_of_getElem? (i := 492) (by decide +kernel), by decide +kernel⟩
theorem wd_422 : Cond.methodLink R_law 53 yX10_read ∈ gW := List.mem_filter.mpr ⟨List.mem_of_getElem? (i := 493) (by decide +kernel), by decide +kernel⟩
theorem wd_423 : Cond.instanceMethod yX10_read ∈ gW := List.mem_filter.mpr ⟨List.mem_of_getElem? (i := 494) (by decide +kernel), by decide +kernel⟩
theorem wd_424 : Cond.selects RX10 yX10_read yX10_read ∈ gW := List.mem_filter.mpr ⟨List.mem_of_getElem? (i := 495) (by decide +kernel), by decide +kernel⟩
theorem wd_425 : Cond.code yX10_read cX10_read 8 (some (.int)) ∈ gW := List.mem_filter.mpr ⟨List.mem_of_getElem? (i := 496) (by decide +kernel), by decide +kernel⟩
theorem wd_426 : Cond.methodLink RX10 151 yX10_isSheet ∈ gW := List.mem_filter.mpr ⟨List.mem_of_getElem? (i := 497) (by decide +kernel), by decide +kernel⟩
theorem wd_427 : Cond.static yX10_isSheet ∈ gW := List.mem_filter.mpr ⟨List.mem_of_getElem? (i := 498) (by decide +kernel), by decide +kernel⟩
theorem wd_428 : Cond.code yX10_isSheet cX10_isSheet 1 (some (.boolean)) ∈ gW := List.mem_filter.mpr ⟨List.mem_of_getElem? (i := 499) (by decide +kernel), by decide +kernel⟩
theorem wd_429 : Cond.methodLink RX10 154 yX8_isLost ∈ gW := List.mem_filter.mpr ⟨List.mem_of_getElem? (i := 500) (by decide +kernel), by decide +kernel⟩
theorem wd_430 : Cond.instanceMethod yX8_isLost ∈ gW := List.mem_filter.mpr ⟨List.mem_of_getElem? (i := 501) (by decide +kernel), by decide +kernel⟩
theorem wd_431 : Cond.selects RX8 yX8_isLost yX8_isLost ∈ gW := List.mem_filter.mpr ⟨List.mem_of_getElem? (i := 502) (by decide +kernel), by decide +kernel⟩
theorem wd_432 : Cond.code yX8_isLost cX8_isLost 1 (some (.boolean)) ∈ gW := List.mem_filter.mpr ⟨List.mem_of_getElem? (i := 503) (by decide +kernel), by decide +kernel⟩
theorem wd_433 : Cond.methodLink RX10 158 yX10_finding ∈ gW := List.mem_filter.mpr ⟨List.mem_of_getElem? (i := 504) (by decide +kernel), by decide +kernel⟩
theorem wd_435 : Cond.instanceMethod yX10_finding ∈ gW := List.mem_filter.mpr ⟨List.mem_of_getElem? (i := 506) (by decide +kernel), by decide +kernel⟩
theorem wd_436 : Cond.code yX10_finding cX10_finding 2 (some (.int)) ∈ gW := List.mem_filter.mpr ⟨List.mem_of_getElem? (i := 507) (by decide +kernel), by decide +kernel⟩
theorem wd_437 : Cond.methodLink RX10 164 yX8_item ∈ gW := List.mem_filter.mpr ⟨List.mem_of_getElem? (i := 508) (by decide +kernel), by decide +kernel⟩
theorem wd_438 : Cond.instanceMethod yX8_item ∈ gW := List.mem_filter.mpr ⟨List.mem_of_getElem? (i := 509) (by decide +kernel), by decide +kernel⟩
theorem wd_439 : Cond.selects RX8 yX8_item yX8_item ∈ gW := List.mem_filter.mpr ⟨List.mem_of_getElem? (i := 510) (by decide +kernel), by decide +kernel⟩
theorem wd_440 : Cond.code yX8_item cX8_item 2 (some (.int)) ∈ gW := List.mem_filter.mpr ⟨List.mem_of_getElem? (i := 511) (by decide +kernel), by decide +kernel⟩
theorem wd_441 : Cond.methodLink RX8 28 yX8_hasItems ∈ gW := List.mem_filter.mpr ⟨List.mem_of_getElem? (i := 512) (by decide +kernel), by decide +kernel⟩
theorem wd_442 : Cond.instanceMethod yX8_hasItems ∈ gW := List.mem_filter.mpr ⟨List.mem_of_getElem? (i := 513) (by decide +kernel), by decide +kernel⟩
theorem wd_443 : Cond.selects RX8 yX8_hasItems yX8_hasItems ∈ gW := List.mem_filter.mpr ⟨List.mem_of_getElem? (i := 514) (by decide +kernel), by decide +kernel⟩
theorem wd_444 : Cond.code yX8_hasItems cX8_hasItems 3 (some (.boolean)) ∈ gW := List.mem_filter.mpr ⟨List.mem_of_getElem? (i := 515) (by decide +kernel), by decide +kernel⟩
theorem wd_445 : Cond.methodLink R_law 57 yX10_at ∈ gW := List.mem_filter.mpr ⟨List.mem_of_getElem? (i := 516) (by decide +kernel), by decide +kernel⟩
theorem wd_446 : Cond.instanceMethod yX10_at ∈ gW := List.mem_filter.mpr ⟨List.mem_of_getElem? (i := 517) (by decide +kernel), by decide +kernel⟩
theorem wd_447 : Cond.selects RX10 yX10_at yX10_at ∈ gW := List.mem_filter.mpr ⟨List.mem_of_getElem? (i := 518) (by decide +kernel), by decide +kernel⟩
theorem wd_448 : Cond.code yX10_at cX10_at 4 (some (.int)) ∈ gW := List.mem_filter.mpr ⟨List.mem_of_getElem? (i := 519) (by decide +kernel), by decide +kernel⟩
theorem wd_449 : Cond.methodLink RX10 170 yX1_follow ∈ gW := List.mem_filter.mpr ⟨List.mem_of_getElem? (i := 520) (by decide +kernel), by decide +kernel⟩
theorem wd_450 : Cond.instanceMethod yX1_follow ∈ gW := List.mem_filter.mpr ⟨List.mem_of_getElem? (i := 521) (by decide +kernel), by decide +kernel⟩
theorem wd_451 : Cond.selects RX1 yX1_follow yX1_follow ∈ gW := List.mem_filter.mpr ⟨List.mem_of_getElem? (i := 522) (by decide +kernel), by decide +kernel⟩
theorem wd_452 : Cond.code yX1_follow cX1_follow 7 none ∈ gW := List.mem_filter.mpr ⟨List.mem_of_getElem? (i := 523) (by decide +kernel), by decide +kernel⟩
theorem wd_453 : Cond.methodLink RX1 25 yJ7_fill_53178 ∈ gW := List.mem_filter.mpr ⟨List.mem_of_getElem? (i := 524) (by decide +kernel), by decide +kernel⟩
theorem wd_454 : Cond.static yJ7_fill_53178 ∈ gW := List.mem_filter.mpr ⟨List.mem_of_getElem? (i := 525) (by decide +kernel), by decide +kernel⟩
theorem wd_455 : Cond.code yJ7_fill_53178 cJ7_fill_53178 4 none ∈ gW := List.mem_filter.mpr ⟨List.mem_of_getElem? (i := 526) (by decide +kernel), by decide +kernel⟩
theorem wn_456 : Cond.methodLinkNest RX1 36 yX10_bit "GorseGold" ∈ gNest := List.mem_filter.mpr ⟨List.mem_of_getElem? (i := 527) (by decide +kernel), by decide +kernel⟩
theorem wd_457 : Cond.static yX10_bit ∈ gW := List.mem_filter.mpr ⟨List.mem_of_getElem? (i := 528) (by decide +kernel), by decide +kernel⟩
theorem wd_458 : Cond.code yX10_bit cX10_bit 2 (some (.int)) ∈ gW := List.mem_filter.mpr ⟨List.mem_of_getElem? (i := 529) (by decide +kernel), by decide +kernel⟩
theorem wd_459 : Cond.methodLink RX1 43 yX2_holding ∈ gW := List.mem_filter.mpr ⟨List.mem_of_getElem? (i := 530) (by decide +kernel), by decide +kernel⟩
theorem wd_460 : Cond.instanceMethod yX2_holding ∈ gW := List.mem_filter.mpr ⟨List.mem_of_getElem? (i := 531) (by decide +kernel), by decide +kernel⟩
theorem wd_461 : Cond.selects RX2 yX2_holding yX2_holding ∈ gW := List.mem_filter.mpr ⟨List.mem_of_getElem? (i := 532) (by decide +kernel), by decide +kernel⟩
theorem wd_462 : Cond.code yX2_holding cX2_holding 5 (some (.int)) ∈ gW := List.mem_filter.mpr ⟨List.mem_of_getElem? (i := 533) (by decide +kernel), by decide +kernel⟩
theorem wn_463 : Cond.fieldLinkNest RX2 25 "GorseGold" "LASTING" "[I" "GorseGold" ∈ gNest := List.mem_filter.mpr ⟨List.mem_of_getElem? (i := 534) (by decide +kernel), by decide +kernel⟩
theorem wd_465 : Cond.constant RX2 28 16777215 ∈ gW := List.mem_filter.mpr ⟨List.mem_of_getElem? (i := 536) (by decide +kernel), by decide +kernel⟩
theorem wd_466 : Cond.methodLink RX1 47 yX1_beginIn ∈ gW := List.mem_filter.mpr ⟨List.mem_of_getElem? (i := 537) (by decide +kernel), by decide +kernel⟩
theorem wd_467 : Cond.instanceMethod yX1_beginIn ∈ gW := List.mem_filter.mpr ⟨List.mem_of_getElem? (i := 538) (by decide +kernel), by decide +kernel⟩
theorem wd_468 : Cond.selects RX1 yX1_beginIn yX1_beginIn ∈ gW := List.mem_filter.mpr ⟨List.mem_of_getElem? (i := 539) (by decide +kernel), by decide +kernel⟩
theorem wd_469 : Cond.code yX1_beginIn cX1_beginIn 5 none ∈ gW := List.mem_filter.mpr ⟨List.mem_of_getElem? (i := 540) (by decide +kernel), by decide +kernel⟩
theorem wn_470 : Cond.fieldLinkNest RX1 51 "GorseGold" "SEASON_OF_KIND" "[I" "GorseGold" ∈ gNest := List.mem_filter.mpr ⟨List.mem_of_getElem? (i := 541) (by decide +kernel), by decide +kernel⟩
theorem wd_472 : Cond.methodLink RX10 174 yX1_stateIn ∈ gW := List.mem_filter.mpr ⟨List.mem_of_getElem? (i := 543) (by decide +kernel), by decide +kernel⟩
theorem wd_473 : Cond.instanceMethod yX1_stateIn ∈ gW := List.mem_filter.mpr ⟨List.mem_of_getElem? (i := 544) (by decide +kernel), by decide +kernel⟩
theorem wd_474 : Cond.selects RX1 yX1_stateIn yX1_stateIn ∈ gW := List.mem_filter.mpr ⟨List.mem_of_getElem? (i := 545) (by decide +kernel), by decide +kernel⟩
theorem wd_475 : Cond.code yX1_stateIn cX1_stateIn 3 (some (.int)) ∈ gW := List.mem_filter.mpr ⟨List.mem_of_getElem? (i := 546) (by decide +kernel), by decide +kernel⟩
theorem wd_476 : Cond.methodLink RX10 183 yX10_bit ∈ gW := List.mem_filter.mpr ⟨List.mem_of_getElem? (i := 547) (by decide +kernel), by decide +kernel⟩
theorem wd_477 : Cond.methodLink R_law 61 yX10_hill ∈ gW := List.mem_filter.mpr ⟨List.mem_of_getElem? (i := 548) (by decide +kernel), by decide +kernel⟩
theorem wd_478 : Cond.instanceMethod yX10_hill ∈ gW := List.mem_filter.mpr ⟨List.mem_of_getElem? (i := 549) (by decide +kernel), by decide +kernel⟩
theorem wd_479 : Cond.selects RX10 yX10_hill yX10_hill ∈ gW := List.mem_filter.mpr ⟨List.mem_of_getElem? (i := 550) (by decide +kernel), by decide +kernel⟩
theorem wd_480 : Cond.code yX10_hill cX10_hill 3 (some (.int)) ∈ gW := List.mem_filter.mpr ⟨List.mem_of_getElem? (i := 551) (by decide +kernel), by decide +kernel⟩
theorem wd_481 : Cond.methodLink RX10 187 yX6_reckon ∈ gW := List.mem_filter.mpr ⟨List.mem_of_getElem? (i := 552) (by decide +kernel), by decide +kernel⟩
theorem wd_482 : Cond.instanceMethod yX6_reckon ∈ gW := List.mem_filter.mpr ⟨List.mem_of_getElem? (i := 553) (by decide +kernel), by decide +kernel⟩
theorem wd_483 : Cond.selects RX6 yX6_reckon yX6_reckon ∈ gW := List.mem_filter.mpr ⟨List.mem_of_getElem? (i := 554) (by decide +kernel), by decide +kernel⟩
theorem wd_484 : Cond.code yX6_reckon cX6_reckon 4 none ∈ gW := List.mem_filter.mpr ⟨List.mem_of_getElem? (i := 555) (by decide +kernel), by decide +kernel⟩
theorem wd_485 : Cond.methodLink RX6 51 yX3_grow ∈ gW := List.mem_filter.mpr ⟨List.mem_of_getElem? (i := 556) (by decide +kernel), by decide +kernel⟩
theorem wd_486 : Cond.instanceMethod yX3_grow ∈ gW := List.mem_filter.mpr ⟨List.mem_of_getElem? (i := 557) (by decide +kernel), by decide +kernel⟩
theorem wd_487 : Cond.selects RX3 yX3_grow yX3_grow ∈ gW := List.mem_filter.mpr ⟨List.mem_of_getElem? (i := 558) (by decide +kernel), by decide +kernel⟩
theorem wd_488 : Cond.code yX3_grow cX3_grow 6 (some (.int)) ∈ gW := List.mem_filter.mpr ⟨List.mem_of_getElem? (i := 559) (by decide +kernel), by decide +kernel⟩
theorem wd_489 : Cond.methodLink RX3 25 yX0_size ∈ gW := List.mem_filter.mpr ⟨List.mem_of_getElem? (i := 560) (by decide +kernel), by decide +kernel⟩
theorem wd_490 : Cond.instanceMethod yX0_size ∈ gW := List.mem_filter.mpr ⟨List.mem_of_getElem? (i := 561) (by decide +kernel), by decide +kernel⟩
theorem wd_491 : Cond.selects RX0 yX0_size yX0_size ∈ gW := List.mem_filter.mpr ⟨List.mem_of_getElem? (i := 562) (by decide +kernel), by decide +kernel⟩
theorem wd_492 : Cond.code yX0_size cX0_size 1 (some (.int)) ∈ gW := List.mem_filter.mpr ⟨List.mem_of_getElem? (i := 563) (by decide +kernel), by decide +kernel⟩
theorem wd_493 : Cond.methodLink RX3 29 yX0_kindOf ∈ gW := List.mem_filter.mpr ⟨List.mem_of_getElem? (i := 564) (by decide +kernel), by decide +kernel⟩
theorem wd_494 : Cond.methodLink RX3 33 yX0_beginOf ∈ gW := List.mem_filter.mpr ⟨List.mem_of_getElem? (i := 565) (by decide +kernel), by decide +kernel⟩
theorem wd_495 : Cond.methodLink RX3 36 yX1_follow ∈ gW := List.mem_filter.mpr ⟨List.mem_of_getElem? (i := 566) (by decide +kernel), by decide +kernel⟩
theorem wd_496 : Cond.constant RX3 44 16777215 ∈ gW := List.mem_filter.mpr ⟨List.mem_of_getElem? (i := 567) (by decide +kernel), by decide +kernel⟩
theorem wd_497 : Cond.methodLink RX6 55 yX6_countFires ∈ gW := List.mem_filter.mpr ⟨List.mem_of_getElem? (i := 568) (by decide +kernel), by decide +kernel⟩
theorem wd_499 : Cond.instanceMethod yX6_countFires ∈ gW := List.mem_filter.mpr ⟨List.mem_of_getElem? (i := 570) (by decide +kernel), by decide +kernel⟩
theorem wd_500 : Cond.code yX6_countFires cX6_countFires 3 none ∈ gW := List.mem_filter.mpr ⟨List.mem_of_getElem? (i := 571) (by decide +kernel), by decide +kernel⟩
theorem wd_501 : Cond.methodLink RX6 70 yJ7_fill_53178 ∈ gW := List.mem_filter.mpr ⟨List.mem_of_getElem? (i := 572) (by decide +kernel), by decide +kernel⟩
theorem wd_502 : Cond.methodLink RX6 90 yX0_has ∈ gW := List.mem_filter.mpr ⟨List.mem_of_getElem? (i := 573) (by decide +kernel), by decide +kernel⟩
theorem wd_503 : Cond.methodLink RX6 59 yX6_gatherLooks ∈ gW := List.mem_filter.mpr ⟨List.mem_of_getElem? (i := 574) (by decide +kernel), by decide +kernel⟩
theorem wd_505 : Cond.instanceMethod yX6_gatherLooks ∈ gW := List.mem_filter.mpr ⟨List.mem_of_getElem? (i := 576) (by decide +kernel), by decide +kernel⟩
theorem wd_506 : Cond.code yX6_gatherLooks cX6_gatherLooks 4 none ∈ gW := List.mem_filter.mpr ⟨List.mem_of_getElem? (i := 577) (by decide +kernel), by decide +kernel⟩
theorem wd_507 : Cond.methodLink RX6 99 yX4_size ∈ gW := List.mem_filter.mpr ⟨List.mem_of_getElem? (i := 578) (by decide +kernel), by decide +kernel⟩
theorem wd_508 : Cond.methodLink RX6 102 yX4_monthOf ∈ gW := List.mem_filter.mpr ⟨List.mem_of_getElem? (i := 579) (by decide +kernel), by decide +kernel⟩
theorem wd_509 : Cond.methodLink RX6 106 yX4_bushOf ∈ gW := List.mem_filter.mpr ⟨List.mem_of_getElem? (i := 580) (by decide +kernel), by decide +kernel⟩
theorem wd_510 : Cond.methodLink RX6 66 yX6_worthOf ∈ gW := List.mem_filter.mpr ⟨List.mem_of_getElem? (i := 581) (by decide +kernel), by decide +kernel⟩
theorem wd_512 : Cond.instanceMethod yX6_worthOf ∈ gW := List.mem_filter.mpr ⟨List.mem_of_getElem? (i := 583) (by decide +kernel), by decide +kernel⟩
theorem wd_513 : Cond.code yX6_worthOf cX6_worthOf 4 (some (.int)) ∈ gW := List.mem_filter.mpr ⟨List.mem_of_getElem? (i := 584) (by decide +kernel), by decide +kernel⟩
theorem wn_514 : Cond.methodLinkNest RX6 118 yX10_bit "GorseGold" ∈ gNest := List.mem_filter.mpr ⟨List.mem_of_getElem? (i := 585) (by decide +kernel), by decide +kernel⟩
theorem wd_515 : Cond.methodLink RX6 121 yX0_sparksOf ∈ gW := List.mem_filter.mpr ⟨List.mem_of_getElem? (i := 586) (by decide +kernel), by decide +kernel⟩
theorem wd_516 : Cond.methodLink RX6 62 yX6_behind ∈ gW := List.mem_filter.mpr ⟨List.mem_of_getElem? (i := 587) (by decide +kernel), by decide +kernel⟩
theorem wd_518 : Cond.instanceMethod yX6_behind ∈ gW := List.mem_filter.mpr ⟨List.mem_of_getElem? (i := 589) (by decide +kernel), by decide +kernel⟩
theorem wd_519 : Cond.code yX6_behind cX6_behind 7 (some (.int)) ∈ gW := List.mem_filter.mpr ⟨List.mem_of_getElem? (i := 590) (by decide +kernel), by decide +kernel⟩
theorem wd_520 : Cond.methodLink RX6 124 yX6_bounded ∈ gW := List.mem_filter.mpr ⟨List.mem_of_getElem? (i := 591) (by decide +kernel), by decide +kernel⟩
theorem wd_521 : Cond.static yX6_bounded ∈ gW := List.mem_filter.mpr ⟨List.mem_of_getElem? (i := 592) (by decide +kernel), by decide +kernel⟩
theorem wd_522 : Cond.code yX6_bounded cX6_bounded 1 (some (.int)) ∈ gW := List.mem_filter.mpr ⟨List.mem_of_getElem? (i := 593) (by decide +kernel), by decide +kernel⟩
theorem wd_523 : Cond.methodLink RX6 127 Lib.Math.min.name ∈ gW := List.mem_filter.mpr ⟨List.mem_of_getElem? (i := 594) (by decide +kernel), by decide +kernel⟩
theorem wd_524 : Cond.static Lib.Math.min.name ∈ gW := List.mem_filter.mpr ⟨List.mem_of_getElem? (i := 595) (by decide +kernel), by decide +kernel⟩
theorem wd_525 : Cond.code Lib.Math.min.name Lib.Math.min.code 2 (some .int) ∈ gW := List.mem_filter.mpr ⟨List.mem_of_getElem? (i := 596) (by decide +kernel), by decide +kernel⟩
theorem wd_526 : Cond.methodLink RX6 132 Lib.Math.max.name ∈ gW := List.mem_filter.mpr ⟨List.mem_of_getElem? (i := 597) (by decide +kernel), by decide +kernel⟩
theorem wd_527 : Cond.static Lib.Math.max.name ∈ gW := List.mem_filter.mpr ⟨List.mem_of_getElem? (i := 598) (by decide +kernel), by decide +kernel⟩
theorem wd_528 : Cond.code Lib.Math.max.name Lib.Math.max.code 2 (some .int) ∈ gW := List.mem_filter.mpr ⟨List.mem_of_getElem? (i := 599) (by decide +kernel), by decide +kernel⟩
theorem wd_529 : Cond.methodLink RX10 194 yX3_grow ∈ gW := List.mem_filter.mpr ⟨List.mem_of_getElem? (i := 600) (by decide +kernel), by decide +kernel⟩
theorem wd_530 : Cond.methodLink RX10 198 yX3_yellowIn ∈ gW := List.mem_filter.mpr ⟨List.mem_of_getElem? (i := 601) (by decide +kernel), by decide +kernel⟩
theorem wd_531 : Cond.instanceMethod yX3_yellowIn ∈ gW := List.mem_filter.mpr ⟨List.mem_of_getElem? (i := 602) (by decide +kernel), by decide +kernel⟩
theorem wd_532 : Cond.selects RX3 yX3_yellowIn yX3_yellowIn ∈ gW := List.mem_filter.mpr ⟨List.mem_of_getElem? (i := 603) (by decide +kernel), by decide +kernel⟩
theorem wd_533 : Cond.code yX3_yellowIn cX3_yellowIn 4 (some (.int)) ∈ gW := List.mem_filter.mpr ⟨List.mem_of_getElem? (i := 604) (by decide +kernel), by decide +kernel⟩
theorem wn_534 : Cond.methodLinkNest RX3 45 yX10_bit "GorseGold" ∈ gNest := List.mem_filter.mpr ⟨List.mem_of_getElem? (i := 605) (by decide +kernel), by decide +kernel⟩
theorem wd_535 : Cond.methodLink RX3 49 yX0_sparksOf ∈ gW := List.mem_filter.mpr ⟨List.mem_of_getElem? (i := 606) (by decide +kernel), by decide +kernel⟩
theorem wd_536 : Cond.methodLink RX10 201 yX3_seemingIn ∈ gW := List.mem_filter.mpr ⟨List.mem_of_getElem? (i := 607) (by decide +kernel), by decide +kernel⟩
theorem wd_537 : Cond.instanceMethod yX3_seemingIn ∈ gW := List.mem_filter.mpr ⟨List.mem_of_getElem? (i := 608) (by decide +kernel), by decide +kernel⟩
theorem wd_538 : Cond.selects RX3 yX3_seemingIn yX3_seemingIn ∈ gW := List.mem_filter.mpr ⟨List.mem_of_getElem? (i := 609) (by decide +kernel), by decide +kernel⟩
theorem wd_539 : Cond.code yX3_seemingIn cX3_seemingIn 4 (some (.int)) ∈ gW := List.mem_filter.mpr ⟨List.mem_of_getElem? (i := 610) (by decide +kernel), by decide +kernel⟩
theorem wd_540 : Cond.methodLink R_law 65 yX10_bare ∈ gW := List.mem_filter.mpr ⟨List.mem_of_getElem? (i := 611) (by decide +kernel), by decide +kernel⟩
theorem wd_541 : Cond.instanceMethod yX10_bare ∈ gW := List.mem_filter.mpr ⟨List.mem_of_getElem? (i := 612) (by decide +kernel), by decide +kernel⟩
theorem wd_542 : Cond.selects RX10 yX10_bare yX10_bare ∈ gW := List.mem_filter.mpr ⟨List.mem_of_getElem? (i := 613) (by decide +kernel), by decide +kernel⟩
theorem wd_543 : Cond.code yX10_bare cX10_bare 1 (some (.int)) ∈ gW := List.mem_filter.mpr ⟨List.mem_of_getElem? (i := 614) (by decide +kernel), by decide +kernel⟩
theorem wd_544 : Cond.methodLink R_law 69 yX10_run ∈ gW := List.mem_filter.mpr ⟨List.mem_of_getElem? (i := 615) (by decide +kernel), by decide +kernel⟩
theorem wd_545 : Cond.instanceMethod yX10_run ∈ gW := List.mem_filter.mpr ⟨List.mem_of_getElem? (i := 616) (by decide +kernel), by decide +kernel⟩
theorem wd_546 : Cond.selects RX10 yX10_run yX10_run ∈ gW := List.mem_filter.mpr ⟨List.mem_of_getElem? (i := 617) (by decide +kernel), by decide +kernel⟩
theorem wd_547 : Cond.code yX10_run cX10_run 1 (some (.int)) ∈ gW := List.mem_filter.mpr ⟨List.mem_of_getElem? (i := 618) (by decide +kernel), by decide +kernel⟩
theorem wd_548 : Cond.methodLink R_law 73 yX10_fake ∈ gW := List.mem_filter.mpr ⟨List.mem_of_getElem? (i := 619) (by decide +kernel), by decide +kernel⟩
theorem wd_549 : Cond.instanceMethod yX10_fake ∈ gW := List.mem_filter.mpr ⟨List.mem_of_getElem? (i := 620) (by decide +kernel), by decide +kernel⟩
theorem wd_550 : Cond.selects RX10 yX10_fake yX10_fake ∈ gW := List.mem_filter.mpr ⟨List.mem_of_getElem? (i := 621) (by decide +kernel), by decide +kernel⟩
theorem wd_551 : Cond.code yX10_fake cX10_fake 5 (some (.int)) ∈ gW := List.mem_filter.mpr ⟨List.mem_of_getElem? (i := 622) (by decide +kernel), by decide +kernel⟩
theorem wd_552 : Cond.methodLink R_law 77 yX10_last ∈ gW := List.mem_filter.mpr ⟨List.mem_of_getElem? (i := 623) (by decide +kernel), by decide +kernel⟩
theorem wd_553 : Cond.instanceMethod yX10_last ∈ gW := List.mem_filter.mpr ⟨List.mem_of_getElem? (i := 624) (by decide +kernel), by decide +kernel⟩
theorem wd_554 : Cond.selects RX10 yX10_last yX10_last ∈ gW := List.mem_filter.mpr ⟨List.mem_of_getElem? (i := 625) (by decide +kernel), by decide +kernel⟩
theorem wd_555 : Cond.code yX10_last cX10_last 6 (some (.int)) ∈ gW := List.mem_filter.mpr ⟨List.mem_of_getElem? (i := 626) (by decide +kernel), by decide +kernel⟩
theorem wd_556 : Cond.methodLink RX10 214 yX0_size ∈ gW := List.mem_filter.mpr ⟨List.mem_of_getElem? (i := 627) (by decide +kernel), by decide +kernel⟩
theorem wd_557 : Cond.methodLink RX10 215 yJ6_bitCount_0f7a4 ∈ gW := List.mem_filter.mpr ⟨List.mem_of_getElem? (i := 628) (by decide +kernel), by decide +kernel⟩
theorem wd_558 : Cond.static yJ6_bitCount_0f7a4 ∈ gW := List.mem_filter.mpr ⟨List.mem_of_getElem? (i := 629) (by decide +kernel), by decide +kernel⟩
theorem wd_559 : Cond.code yJ6_bitCount_0f7a4 cJ6_bitCount_0f7a4 1 (some (.int)) ∈ gW := List.mem_filter.mpr ⟨List.mem_of_getElem? (i := 630) (by decide +kernel), by decide +kernel⟩
theorem wd_560 : Cond.constant RJ6 265 1431655765 ∈ gW := List.mem_filter.mpr ⟨List.mem_of_getElem? (i := 631) (by decide +kernel), by decide +kernel⟩
theorem wd_561 : Cond.constant RJ6 266 858993459 ∈ gW := List.mem_filter.mpr ⟨List.mem_of_getElem? (i := 632) (by decide +kernel), by decide +kernel⟩
theorem wd_562 : Cond.constant RJ6 267 252645135 ∈ gW := List.mem_filter.mpr ⟨List.mem_of_getElem? (i := 633) (by decide +kernel), by decide +kernel⟩
theorem wd_563 : Cond.methodLink R_law 81 yX10_plant ∈ gW := List.mem_filter.mpr ⟨List.mem_of_getElem? (i := 634) (by decide +kernel), by decide +kernel⟩
theorem wd_564 : Cond.instanceMethod yX10_plant ∈ gW := List.mem_filter.mpr ⟨List.mem_of_getElem? (i := 635) (by decide +kernel), by decide +kernel⟩
theorem wd_565 : Cond.selects RX10 yX10_plant yX10_plant ∈ gW := List.mem_filter.mpr ⟨List.mem_of_getElem? (i := 636) (by decide +kernel), by decide +kernel⟩
theorem wd_566 : Cond.code yX10_plant cX10_plant 7 (some (.int)) ∈ gW := List.mem_filter.mpr ⟨List.mem_of_getElem? (i := 637) (by decide +kernel), by decide +kernel⟩
theorem wd_567 : Cond.methodLink RX10 220 yX10_bareIfPlanted ∈ gW := List.mem_filter.mpr ⟨List.mem_of_getElem? (i := 638) (by decide +kernel), by decide +kernel⟩
theorem wd_569 : Cond.instanceMethod yX10_bareIfPlanted ∈ gW := List.mem_filter.mpr ⟨List.mem_of_getElem? (i := 640) (by decide +kernel), by decide +kernel⟩
theorem wd_570 : Cond.code yX10_bareIfPlanted cX10_bareIfPlanted 4 (some (.int)) ∈ gW := List.mem_filter.mpr ⟨List.mem_of_getElem? (i := 641) (by decide +kernel), by decide +kernel⟩
theorem wd_571 : Cond.methodLink R_law 85 yX10_send ∈ gW := List.mem_filter.mpr ⟨List.mem_of_getElem? (i := 642) (by decide +kernel), by decide +kernel⟩
theorem wd_572 : Cond.instanceMethod yX10_send ∈ gW := List.mem_filter.mpr ⟨List.mem_of_getElem? (i := 643) (by decide +kernel), by decide +kernel⟩
theorem wd_573 : Cond.selects RX10 yX10_send yX10_send ∈ gW := List.mem_filter.mpr ⟨List.mem_of_getElem? (i := 644) (by decide +kernel), by decide +kernel⟩
theorem wd_574 : Cond.code yX10_send cX10_send 5 (some (.int)) ∈ gW := List.mem_filter.mpr ⟨List.mem_of_getElem? (i := 645) (by decide +kernel), by decide +kernel⟩
theorem wd_575 : Cond.methodLink RX10 223 yX10_bestSend ∈ gW := List.mem_filter.mpr ⟨List.mem_of_getElem? (i := 646) (by decide +kernel), by decide +kernel⟩
theorem wd_577 : Cond.instanceMethod yX10_bestSend ∈ gW := List.mem_filter.mpr ⟨List.mem_of_getElem? (i := 648) (by decide +kernel), by decide +kernel⟩
theorem wd_578 : Cond.code yX10_bestSend cX10_bestSend 6 (some (.int)) ∈ gW := List.mem_filter.mpr ⟨List.mem_of_getElem? (i := 649) (by decide +kernel), by decide +kernel⟩
theorem wd_579 : Cond.methodLink RX10 226 yX6_runWith ∈ gW := List.mem_filter.mpr ⟨List.mem_of_getElem? (i := 650) (by decide +kernel), by decide +kernel⟩
theorem wd_580 : Cond.instanceMethod yX6_runWith ∈ gW := List.mem_filter.mpr ⟨List.mem_of_getElem? (i := 651) (by decide +kernel), by decide +kernel⟩
theorem wd_581 : Cond.selects RX6 yX6_runWith yX6_runWith ∈ gW := List.mem_filter.mpr ⟨List.mem_of_getElem? (i := 652) (by decide +kernel), by decide +kernel⟩
theorem wd_582 : Cond.code yX6_runWith cX6_runWith 6 (some (.int)) ∈ gW := List.mem_filter.mpr ⟨List.mem_of_getElem? (i := 653) (by decide +kernel), by decide +kernel⟩
theorem wd_583 : Cond.methodLink R_law 89 yX10_save ∈ gW := List.mem_filter.mpr ⟨List.mem_of_getElem? (i := 654) (by decide +kernel), by decide +kernel⟩
theorem wd_584 : Cond.instanceMethod yX10_save ∈ gW := List.mem_filter.mpr ⟨List.mem_of_getElem? (i := 655) (by decide +kernel), by decide +kernel⟩
theorem wd_585 : Cond.selects RX10 yX10_save yX10_save ∈ gW := List.mem_filter.mpr ⟨List.mem_of_getElem? (i := 656) (by decide +kernel), by decide +kernel⟩
theorem wd_586 : Cond.code yX10_save cX10_save 3 (some (.int)) ∈ gW := List.mem_filter.mpr ⟨List.mem_of_getElem? (i := 657) (by decide +kernel), by decide +kernel⟩
theorem wd_587 : Cond.methodLink RX10 229 yX10_fewestToLose ∈ gW := List.mem_filter.mpr ⟨List.mem_of_getElem? (i := 658) (by decide +kernel), by decide +kernel⟩
theorem wd_589 : Cond.instanceMethod yX10_fewestToLose ∈ gW := List.mem_filter.mpr ⟨List.mem_of_getElem? (i := 660) (by decide +kernel), by decide +kernel⟩
theorem wd_590 : Cond.code yX10_fewestToLose cX10_fewestToLose 3 (some (.int)) ∈ gW := List.mem_filter.mpr ⟨List.mem_of_getElem? (i := 661) (by decide +kernel), by decide +kernel⟩
theorem wd_591 : Cond.methodLink RX10 232 yX10_placeOfBit ∈ gW := List.mem_filter.mpr ⟨List.mem_of_getElem? (i := 662) (by decide +kernel), by decide +kernel⟩
theorem wd_592 : Cond.static yX10_placeOfBit ∈ gW := List.mem_filter.mpr ⟨List.mem_of_getElem? (i := 663) (by decide +kernel), by decide +kernel⟩
theorem wd_593 : Cond.code yX10_placeOfBit cX10_placeOfBit 4 (some (.int)) ∈ gW := List.mem_filter.mpr ⟨List.mem_of_getElem? (i := 664) (by decide +kernel), by decide +kernel⟩
theorem wd_594 : Cond.methodLink R_law 93 yX10_deal ∈ gW := List.mem_filter.mpr ⟨List.mem_of_getElem? (i := 665) (by decide +kernel), by decide +kernel⟩
theorem wd_595 : Cond.instanceMethod yX10_deal ∈ gW := List.mem_filter.mpr ⟨List.mem_of_getElem? (i := 666) (by decide +kernel), by decide +kernel⟩
theorem wd_596 : Cond.selects RX10 yX10_deal yX10_deal ∈ gW := List.mem_filter.mpr ⟨List.mem_of_getElem? (i := 667) (by decide +kernel), by decide +kernel⟩
theorem wd_597 : Cond.code yX10_deal cX10_deal 5 (some (.int)) ∈ gW := List.mem_filter.mpr ⟨List.mem_of_getElem? (i := 668) (by decide +kernel), by decide +kernel⟩
theorem wd_598 : Cond.methodLink RX10 235 yX10_bestDeal ∈ gW := List.mem_filter.mpr ⟨List.mem_of_getElem? (i := 669) (by decide +kernel), by decide +kernel⟩
theorem wd_600 : Cond.instanceMethod yX10_bestDeal ∈ gW := List.mem_filter.mpr ⟨List.mem_of_getElem? (i := 671) (by decide +kernel), by decide +kernel⟩
theorem wd_601 : Cond.code yX10_bestDeal cX10_bestDeal 6 (some (.int)) ∈ gW := List.mem_filter.mpr ⟨List.mem_of_getElem? (i := 672) (by decide +kernel), by decide +kernel⟩
theorem wd_602 : Cond.methodLink R_law 97 yX10_seen ∈ gW := List.mem_filter.mpr ⟨List.mem_of_getElem? (i := 673) (by decide +kernel), by decide +kernel⟩
theorem wd_603 : Cond.instanceMethod yX10_seen ∈ gW := List.mem_filter.mpr ⟨List.mem_of_getElem? (i := 674) (by decide +kernel), by decide +kernel⟩
theorem wd_604 : Cond.selects RX10 yX10_seen yX10_seen ∈ gW := List.mem_filter.mpr ⟨List.mem_of_getElem? (i := 675) (by decide +kernel), by decide +kernel⟩
theorem wd_605 : Cond.code yX10_seen cX10_seen 4 (some (.int)) ∈ gW := List.mem_filter.mpr ⟨List.mem_of_getElem? (i := 676) (by decide +kernel), by decide +kernel⟩
theorem wd_606 : Cond.methodLink RX10 238 yX7_add ∈ gW := List.mem_filter.mpr ⟨List.mem_of_getElem? (i := 677) (by decide +kernel), by decide +kernel⟩
theorem wd_607 : Cond.instanceMethod yX7_add ∈ gW := List.mem_filter.mpr ⟨List.mem_of_getElem? (i := 678) (by decide +kernel), by decide +kernel⟩
theorem wd_608 : Cond.selects RX7 yX7_add yX7_add ∈ gW := List.mem_filter.mpr ⟨List.mem_of_getElem? (i := 679) (by decide +kernel), by decide +kernel⟩
theorem wd_609 : Cond.code yX7_add cX7_add 4 (some (.int)) ∈ gW := List.mem_filter.mpr ⟨List.mem_of_getElem? (i := 680) (by decide +kernel), by decide +kernel⟩
theorem wd_610 : Cond.methodLink R_law 101 yX10_forget ∈ gW := List.mem_filter.mpr ⟨List.mem_of_getElem? (i := 681) (by decide +kernel), by decide +kernel⟩
theorem wd_611 : Cond.instanceMethod yX10_forget ∈ gW := List.mem_filter.mpr ⟨List.mem_of_getElem? (i := 682) (by decide +kernel), by decide +kernel⟩
theorem wd_612 : Cond.selects RX10 yX10_forget yX10_forget ∈ gW := List.mem_filter.mpr ⟨List.mem_of_getElem? (i := 683) (by decide +kernel), by decide +kernel⟩
theorem wd_613 : Cond.code yX10_forget cX10_forget 1 (some (.int)) ∈ gW := List.mem_filter.mpr ⟨List.mem_of_getElem? (i := 684) (by decide +kernel), by decide +kernel⟩
theorem wd_614 : Cond.methodLink RX10 239 yX7_clear ∈ gW := List.mem_filter.mpr ⟨List.mem_of_getElem? (i := 685) (by decide +kernel), by decide +kernel⟩
theorem wd_615 : Cond.instanceMethod yX7_clear ∈ gW := List.mem_filter.mpr ⟨List.mem_of_getElem? (i := 686) (by decide +kernel), by decide +kernel⟩
theorem wd_616 : Cond.selects RX7 yX7_clear yX7_clear ∈ gW := List.mem_filter.mpr ⟨List.mem_of_getElem? (i := 687) (by decide +kernel), by decide +kernel⟩
theorem wd_617 : Cond.code yX7_clear cX7_clear 2 (some (.int)) ∈ gW := List.mem_filter.mpr ⟨List.mem_of_getElem? (i := 688) (by decide +kernel), by decide +kernel⟩
theorem wd_618 : Cond.methodLink R_law 105 yX10_never ∈ gW := List.mem_filter.mpr ⟨List.mem_of_getElem? (i := 689) (by decide +kernel), by decide +kernel⟩
theorem wd_619 : Cond.instanceMethod yX10_never ∈ gW := List.mem_filter.mpr ⟨List.mem_of_getElem? (i := 690) (by decide +kernel), by decide +kernel⟩
theorem wd_620 : Cond.selects RX10 yX10_never yX10_never ∈ gW := List.mem_filter.mpr ⟨List.mem_of_getElem? (i := 691) (by decide +kernel), by decide +kernel⟩
theorem wd_621 : Cond.code yX10_never cX10_never 3 (some (.int)) ∈ gW := List.mem_filter.mpr ⟨List.mem_of_getElem? (i := 692) (by decide +kernel), by decide +kernel⟩
theorem wd_622 : Cond.methodLink RX10 240 yX7_comeOut ∈ gW := List.mem_filter.mpr ⟨List.mem_of_getElem? (i := 693) (by decide +kernel), by decide +kernel⟩
theorem wd_623 : Cond.instanceMethod yX7_comeOut ∈ gW := List.mem_filter.mpr ⟨List.mem_of_getElem? (i := 694) (by decide +kernel), by decide +kernel⟩
theorem wd_624 : Cond.selects RX7 yX7_comeOut yX7_comeOut ∈ gW := List.mem_filter.mpr ⟨List.mem_of_getElem? (i := 695) (by decide +kernel), by decide +kernel⟩
theorem wd_625 : Cond.code yX7_comeOut cX7_comeOut 4 (some (.boolean)) ∈ gW := List.mem_filter.mpr ⟨List.mem_of_getElem? (i := 696) (by decide +kernel), by decide +kernel⟩
theorem wd_626 : Cond.methodLink RX7 30 yX0_has ∈ gW := List.mem_filter.mpr ⟨List.mem_of_getElem? (i := 697) (by decide +kernel), by decide +kernel⟩
theorem wd_627 : Cond.methodLink RX7 40 yX1_stateIn ∈ gW := List.mem_filter.mpr ⟨List.mem_of_getElem? (i := 698) (by decide +kernel), by decide +kernel⟩
theorem wd_628 : Cond.methodLink R_law 109 yX10_was ∈ gW := List.mem_filter.mpr ⟨List.mem_of_getElem? (i := 699) (by decide +kernel), by decide +kernel⟩
theorem wd_629 : Cond.instanceMethod yX10_was ∈ gW := List.mem_filter.mpr ⟨List.mem_of_getElem? (i := 700) (by decide +kernel), by decide +kernel⟩
theorem wd_630 : Cond.selects RX10 yX10_was yX10_was ∈ gW := List.mem_filter.mpr ⟨List.mem_of_getElem? (i := 701) (by decide +kernel), by decide +kernel⟩
theorem wd_631 : Cond.code yX10_was cX10_was 3 (some (.int)) ∈ gW := List.mem_filter.mpr ⟨List.mem_of_getElem? (i := 702) (by decide +kernel), by decide +kernel⟩
theorem wd_632 : Cond.methodLink RX10 244 yX10_beginsThatFit ∈ gW := List.mem_filter.mpr ⟨List.mem_of_getElem? (i := 703) (by decide +kernel), by decide +kernel⟩
theorem wd_634 : Cond.instanceMethod yX10_beginsThatFit ∈ gW := List.mem_filter.mpr ⟨List.mem_of_getElem? (i := 705) (by decide +kernel), by decide +kernel⟩
theorem wd_635 : Cond.code yX10_beginsThatFit cX10_beginsThatFit 6 (some (.int)) ∈ gW := List.mem_filter.mpr ⟨List.mem_of_getElem? (i := 706) (by decide +kernel), by decide +kernel⟩
theorem wd_636 : Cond.methodLink RX10 400 yX1_beginIn ∈ gW := List.mem_filter.mpr ⟨List.mem_of_getElem? (i := 707) (by decide +kernel), by decide +kernel⟩
theorem wd_637 : Cond.methodLink RX10 247 yX10_kindsThatFit ∈ gW := List.mem_filter.mpr ⟨List.mem_of_getElem? (i := 708) (by decide +kernel), by decide +kernel⟩
theorem wd_639 : Cond.instanceMethod yX10_kindsThatFit ∈ gW := List.mem_filter.mpr ⟨List.mem_of_getElem? (i := 710) (by decide +kernel), by decide +kernel⟩
theorem wd_640 : Cond.code yX10_kindsThatFit cX10_kindsThatFit 5 (some (.int)) ∈ gW := List.mem_filter.mpr ⟨List.mem_of_getElem? (i := 711) (by decide +kernel), by decide +kernel⟩
theorem wd_641 : Cond.methodLink R_law 113 yX10_ask ∈ gW := List.mem_filter.mpr ⟨List.mem_of_getElem? (i := 712) (by decide +kernel), by decide +kernel⟩
theorem wd_642 : Cond.instanceMethod yX10_ask ∈ gW := List.mem_filter.mpr ⟨List.mem_of_getElem? (i := 713) (by decide +kernel), by decide +kernel⟩
theorem wd_643 : Cond.selects RX10 yX10_ask yX10_ask ∈ gW := List.mem_filter.mpr ⟨List.mem_of_getElem? (i := 714) (by decide +kernel), by decide +kernel⟩
theorem wd_644 : Cond.code yX10_ask cX10_ask 7 (some (.int)) ∈ gW := List.mem_filter.mpr ⟨List.mem_of_getElem? (i := 715) (by decide +kernel), by decide +kernel⟩
theorem wd_645 : Cond.methodLink RX10 250 yX10_greatestAlike ∈ gW := List.mem_filter.mpr ⟨List.mem_of_getElem? (i := 716) (by decide +kernel), by decide +kernel⟩
theorem wd_647 : Cond.instanceMethod yX10_greatestAlike ∈ gW := List.mem_filter.mpr ⟨List.mem_of_getElem? (i := 718) (by decide +kernel), by decide +kernel⟩
theorem wd_648 : Cond.code yX10_greatestAlike cX10_greatestAlike 9 (some (.int)) ∈ gW := List.mem_filter.mpr ⟨List.mem_of_getElem? (i := 719) (by decide +kernel), by decide +kernel⟩
theorem wd_649 : Cond.methodLink RX10 403 yJ7_fill_53178 ∈ gW := List.mem_filter.mpr ⟨List.mem_of_getElem? (i := 720) (by decide +kernel), by decide +kernel⟩
theorem wd_650 : Cond.methodLink RX10 409 Lib.Math.max.name ∈ gW := List.mem_filter.mpr ⟨List.mem_of_getElem? (i := 721) (by decide +kernel), by decide +kernel⟩
theorem wd_651 : Cond.methodLink R_law 117 yX10_luck ∈ gW := List.mem_filter.mpr ⟨List.mem_of_getElem? (i := 722) (by decide +kernel), by decide +kernel⟩
theorem wd_652 : Cond.instanceMethod yX10_luck ∈ gW := List.mem_filter.mpr ⟨List.mem_of_getElem? (i := 723) (by decide +kernel), by decide +kernel⟩
theorem wd_653 : Cond.selects RX10 yX10_luck yX10_luck ∈ gW := List.mem_filter.mpr ⟨List.mem_of_getElem? (i := 724) (by decide +kernel), by decide +kernel⟩
theorem wd_654 : Cond.code yX10_luck cX10_luck 9 (some (.long)) ∈ gW := List.mem_filter.mpr ⟨List.mem_of_getElem? (i := 725) (by decide +kernel), by decide +kernel⟩
theorem wd_655 : Cond.constantLong RX10 253 (-9223372036854775806) ∈ gW := List.mem_filter.mpr ⟨List.mem_of_getElem? (i := 726) (by decide +kernel), by decide +kernel⟩
theorem wd_656 : Cond.methodLink RX10 255 yX10_bareShares ∈ gW := List.mem_filter.mpr ⟨List.mem_of_getElem? (i := 727) (by decide +kernel), by decide +kernel⟩
theorem wd_658 : Cond.instanceMethod yX10_bareShares ∈ gW := List.mem_filter.mpr ⟨List.mem_of_getElem? (i := 729) (by decide +kernel), by decide +kernel⟩
theorem wd_659 : Cond.code yX10_bareShares cX10_bareShares 7 (some (.long)) ∈ gW := List.mem_filter.mpr ⟨List.mem_of_getElem? (i := 730) (by decide +kernel), by decide +kernel⟩
theorem wd_660 : Cond.methodLink RX10 412 yX10_gatherHinderers ∈ gW := List.mem_filter.mpr ⟨List.mem_of_getElem? (i := 731) (by decide +kernel), by decide +kernel⟩
theorem wd_662 : Cond.instanceMethod yX10_gatherHinderers ∈ gW := List.mem_filter.mpr ⟨List.mem_of_getElem? (i := 733) (by decide +kernel), by decide +kernel⟩
theorem wd_663 : Cond.code yX10_gatherHinderers cX10_gatherHinderers 4 (some (.int)) ∈ gW := List.mem_filter.mpr ⟨List.mem_of_getElem? (i := 734) (by decide +kernel), by decide +kernel⟩
theorem wd_664 : Cond.methodLink RX10 424 yX2_hindering ∈ gW := List.mem_filter.mpr ⟨List.mem_of_getElem? (i := 735) (by decide +kernel), by decide +kernel⟩
theorem wd_665 : Cond.instanceMethod yX2_hindering ∈ gW := List.mem_filter.mpr ⟨List.mem_of_getElem? (i := 736) (by decide +kernel), by decide +kernel⟩
theorem wd_666 : Cond.selects RX2 yX2_hindering yX2_hindering ∈ gW := List.mem_filter.mpr ⟨List.mem_of_getElem? (i := 737) (by decide +kernel), by decide +kernel⟩
theorem wd_667 : Cond.code yX2_hindering cX2_hindering 6 (some (.int)) ∈ gW := List.mem_filter.mpr ⟨List.mem_of_getElem? (i := 738) (by decide +kernel), by decide +kernel⟩
theorem wd_668 : Cond.methodLink RX2 29 yX2_holding ∈ gW := List.mem_filter.mpr ⟨List.mem_of_getElem? (i := 739) (by decide +kernel), by decide +kernel⟩
theorem wn_669 : Cond.methodLinkNest RX2 33 yX10_bit "GorseGold" ∈ gNest := List.mem_filter.mpr ⟨List.mem_of_getElem? (i := 740) (by decide +kernel), by decide +kernel⟩
theorem wd_670 : Cond.methodLink RX10 415 yX10_hindersAll ∈ gW := List.mem_filter.mpr ⟨List.mem_of_getElem? (i := 741) (by decide +kernel), by decide +kernel⟩
theorem wd_672 : Cond.instanceMethod yX10_hindersAll ∈ gW := List.mem_filter.mpr ⟨List.mem_of_getElem? (i := 743) (by decide +kernel), by decide +kernel⟩
theorem wd_673 : Cond.code yX10_hindersAll cX10_hindersAll 4 (some (.boolean)) ∈ gW := List.mem_filter.mpr ⟨List.mem_of_getElem? (i := 744) (by decide +kernel), by decide +kernel⟩
theorem wd_674 : Cond.methodLink RX10 418 yX10_shareOf ∈ gW := List.mem_filter.mpr ⟨List.mem_of_getElem? (i := 745) (by decide +kernel), by decide +kernel⟩
theorem wd_676 : Cond.instanceMethod yX10_shareOf ∈ gW := List.mem_filter.mpr ⟨List.mem_of_getElem? (i := 747) (by decide +kernel), by decide +kernel⟩
theorem wd_677 : Cond.code yX10_shareOf cX10_shareOf 6 (some (.long)) ∈ gW := List.mem_filter.mpr ⟨List.mem_of_getElem? (i := 748) (by decide +kernel), by decide +kernel⟩
theorem wd_678 : Cond.methodLink R_law 122 yX10_century ∈ gW := List.mem_filter.mpr ⟨List.mem_of_getElem? (i := 749) (by decide +kernel), by decide +kernel⟩
theorem wd_679 : Cond.instanceMethod yX10_century ∈ gW := List.mem_filter.mpr ⟨List.mem_of_getElem? (i := 750) (by decide +kernel), by decide +kernel⟩
theorem wd_680 : Cond.selects RX10 yX10_century yX10_century ∈ gW := List.mem_filter.mpr ⟨List.mem_of_getElem? (i := 751) (by decide +kernel), by decide +kernel⟩
theorem wd_681 : Cond.code yX10_century cX10_century 4 (some (.int)) ∈ gW := List.mem_filter.mpr ⟨List.mem_of_getElem? (i := 752) (by decide +kernel), by decide +kernel⟩
theorem wd_682 : Cond.methodLink RX10 259 yX10_drawEvents ∈ gW := List.mem_filter.mpr ⟨List.mem_of_getElem? (i := 753) (by decide +kernel), by decide +kernel⟩
theorem wd_684 : Cond.instanceMethod yX10_drawEvents ∈ gW := List.mem_filter.mpr ⟨List.mem_of_getElem? (i := 755) (by decide +kernel), by decide +kernel⟩
theorem wd_685 : Cond.code yX10_drawEvents cX10_drawEvents 7 none ∈ gW := List.mem_filter.mpr ⟨List.mem_of_getElem? (i := 756) (by decide +kernel), by decide +kernel⟩
theorem wd_686 : Cond.methodLink RX10 427 yX2_clear ∈ gW := List.mem_filter.mpr ⟨List.mem_of_getElem? (i := 757) (by decide +kernel), by decide +kernel⟩
theorem wd_687 : Cond.instanceMethod yX2_clear ∈ gW := List.mem_filter.mpr ⟨List.mem_of_getElem? (i := 758) (by decide +kernel), by decide +kernel⟩
theorem wd_688 : Cond.selects RX2 yX2_clear yX2_clear ∈ gW := List.mem_filter.mpr ⟨List.mem_of_getElem? (i := 759) (by decide +kernel), by decide +kernel⟩
theorem wd_689 : Cond.code yX2_clear cX2_clear 1 none ∈ gW := List.mem_filter.mpr ⟨List.mem_of_getElem? (i := 760) (by decide +kernel), by decide +kernel⟩
theorem wd_690 : Cond.methodLink RX10 432 yX5_draw ∈ gW := List.mem_filter.mpr ⟨List.mem_of_getElem? (i := 761) (by decide +kernel), by decide +kernel⟩
theorem wd_691 : Cond.instanceMethod yX5_draw ∈ gW := List.mem_filter.mpr ⟨List.mem_of_getElem? (i := 762) (by decide +kernel), by decide +kernel⟩
theorem wd_692 : Cond.selects RX5 yX5_draw yX5_draw ∈ gW := List.mem_filter.mpr ⟨List.mem_of_getElem? (i := 763) (by decide +kernel), by decide +kernel⟩
theorem wd_693 : Cond.code yX5_draw cX5_draw 2 (some (.int)) ∈ gW := List.mem_filter.mpr ⟨List.mem_of_getElem? (i := 764) (by decide +kernel), by decide +kernel⟩
theorem wd_694 : Cond.constant RX5 13 1103515245 ∈ gW := List.mem_filter.mpr ⟨List.mem_of_getElem? (i := 765) (by decide +kernel), by decide +kernel⟩
theorem wd_695 : Cond.methodLink R_law 126 yX10_sheet ∈ gW := List.mem_filter.mpr ⟨List.mem_of_getElem? (i := 766) (by decide +kernel), by decide +kernel⟩
theorem wd_696 : Cond.instanceMethod yX10_sheet ∈ gW := List.mem_filter.mpr ⟨List.mem_of_getElem? (i := 767) (by decide +kernel), by decide +kernel⟩
theorem wd_697 : Cond.selects RX10 yX10_sheet yX10_sheet ∈ gW := List.mem_filter.mpr ⟨List.mem_of_getElem? (i := 768) (by decide +kernel), by decide +kernel⟩
theorem wd_698 : Cond.code yX10_sheet cX10_sheet 4 (some (.int)) ∈ gW := List.mem_filter.mpr ⟨List.mem_of_getElem? (i := 769) (by decide +kernel), by decide +kernel⟩
theorem wd_699 : Cond.methodLink RX10 263 yX10_isForm ∈ gW := List.mem_filter.mpr ⟨List.mem_of_getElem? (i := 770) (by decide +kernel), by decide +kernel⟩
theorem wd_700 : Cond.static yX10_isForm ∈ gW := List.mem_filter.mpr ⟨List.mem_of_getElem? (i := 771) (by decide +kernel), by decide +kernel⟩
theorem wd_701 : Cond.code yX10_isForm cX10_isForm 1 (some (.boolean)) ∈ gW := List.mem_filter.mpr ⟨List.mem_of_getElem? (i := 772) (by decide +kernel), by decide +kernel⟩
theorem wd_702 : Cond.methodLink RX10 266 yX8_renew ∈ gW := List.mem_filter.mpr ⟨List.mem_of_getElem? (i := 773) (by decide +kernel), by decide +kernel⟩
theorem wd_703 : Cond.instanceMethod yX8_renew ∈ gW := List.mem_filter.mpr ⟨List.mem_of_getElem? (i := 774) (by decide +kernel), by decide +kernel⟩
theorem wd_704 : Cond.selects RX8 yX8_renew yX8_renew ∈ gW := List.mem_filter.mpr ⟨List.mem_of_getElem? (i := 775) (by decide +kernel), by decide +kernel⟩
theorem wd_705 : Cond.code yX8_renew cX8_renew 3 none ∈ gW := List.mem_filter.mpr ⟨List.mem_of_getElem? (i := 776) (by decide +kernel), by decide +kernel⟩
theorem wd_706 : Cond.methodLink RX8 22 yJ7_fill_53178 ∈ gW := List.mem_filter.mpr ⟨List.mem_of_getElem? (i := 777) (by decide +kernel), by decide +kernel⟩
theorem wd_707 : Cond.methodLink R_law 130 yX10_lose ∈ gW := List.mem_filter.mpr ⟨List.mem_of_getElem? (i := 778) (by decide +kernel), by decide +kernel⟩
theorem wd_708 : Cond.instanceMethod yX10_lose ∈ gW := List.mem_filter.mpr ⟨List.mem_of_getElem? (i := 779) (by decide +kernel), by decide +kernel⟩
theorem wd_709 : Cond.selects RX10 yX10_lose yX10_lose ∈ gW := List.mem_filter.mpr ⟨List.mem_of_getElem? (i := 780) (by decide +kernel), by decide +kernel⟩
theorem wd_710 : Cond.code yX10_lose cX10_lose 2 (some (.int)) ∈ gW := List.mem_filter.mpr ⟨List.mem_of_getElem? (i := 781) (by decide +kernel), by decide +kernel⟩
theorem wd_711 : Cond.methodLink RX10 269 yX8_discard ∈ gW := List.mem_filter.mpr ⟨List.mem_of_getElem? (i := 782) (by decide +kernel), by decide +kernel⟩
theorem wd_712 : Cond.instanceMethod yX8_discard ∈ gW := List.mem_filter.mpr ⟨List.mem_of_getElem? (i := 783) (by decide +kernel), by decide +kernel⟩
theorem wd_713 : Cond.selects RX8 yX8_discard yX8_discard ∈ gW := List.mem_filter.mpr ⟨List.mem_of_getElem? (i := 784) (by decide +kernel), by decide +kernel⟩
theorem wd_714 : Cond.code yX8_discard cX8_discard 2 (some (.int)) ∈ gW := List.mem_filter.mpr ⟨List.mem_of_getElem? (i := 785) (by decide +kernel), by decide +kernel⟩
theorem wd_715 : Cond.methodLink R_law 134 yX10_lay ∈ gW := List.mem_filter.mpr ⟨List.mem_of_getElem? (i := 786) (by decide +kernel), by decide +kernel⟩
theorem wd_716 : Cond.instanceMethod yX10_lay ∈ gW := List.mem_filter.mpr ⟨List.mem_of_getElem? (i := 787) (by decide +kernel), by decide +kernel⟩
theorem wd_717 : Cond.selects RX10 yX10_lay yX10_lay ∈ gW := List.mem_filter.mpr ⟨List.mem_of_getElem? (i := 788) (by decide +kernel), by decide +kernel⟩
theorem wd_718 : Cond.code yX10_lay cX10_lay 6 (some (.int)) ∈ gW := List.mem_filter.mpr ⟨List.mem_of_getElem? (i := 789) (by decide +kernel), by decide +kernel⟩
theorem wd_719 : Cond.methodLink RX10 272 yX10_findingOfItem ∈ gW := List.mem_filter.mpr ⟨List.mem_of_getElem? (i := 790) (by decide +kernel), by decide +kernel⟩
theorem wd_720 : Cond.static yX10_findingOfItem ∈ gW := List.mem_filter.mpr ⟨List.mem_of_getElem? (i := 791) (by decide +kernel), by decide +kernel⟩
theorem wd_721 : Cond.code yX10_findingOfItem cX10_findingOfItem 3 (some (.int)) ∈ gW := List.mem_filter.mpr ⟨List.mem_of_getElem? (i := 792) (by decide +kernel), by decide +kernel⟩
theorem wd_722 : Cond.methodLink RX10 282 yX8_hasItems ∈ gW := List.mem_filter.mpr ⟨List.mem_of_getElem? (i := 793) (by decide +kernel), by decide +kernel⟩
theorem wd_723 : Cond.methodLink RX10 276 yX8_put ∈ gW := List.mem_filter.mpr ⟨List.mem_of_getElem? (i := 794) (by decide +kernel), by decide +kernel⟩
theorem wd_724 : Cond.instanceMethod yX8_put ∈ gW := List.mem_filter.mpr ⟨List.mem_of_getElem? (i := 795) (by decide +kernel), by decide +kernel⟩
theorem wd_725 : Cond.selects RX8 yX8_put yX8_put ∈ gW := List.mem_filter.mpr ⟨List.mem_of_getElem? (i := 796) (by decide +kernel), by decide +kernel⟩
theorem wd_726 : Cond.code yX8_put cX8_put 3 none ∈ gW := List.mem_filter.mpr ⟨List.mem_of_getElem? (i := 797) (by decide +kernel), by decide +kernel⟩
theorem wd_727 : Cond.methodLink RX8 32 yX8_narrowed ∈ gW := List.mem_filter.mpr ⟨List.mem_of_getElem? (i := 798) (by decide +kernel), by decide +kernel⟩
theorem wd_729 : Cond.instanceMethod yX8_narrowed ∈ gW := List.mem_filter.mpr ⟨List.mem_of_getElem? (i := 800) (by decide +kernel), by decide +kernel⟩
theorem wd_730 : Cond.code yX8_narrowed cX8_narrowed 2 (some (.int)) ∈ gW := List.mem_filter.mpr ⟨List.mem_of_getElem? (i := 801) (by decide +kernel), by decide +kernel⟩
theorem wd_731 : Cond.methodLink R_law 139 yX10_get ∈ gW := List.mem_filter.mpr ⟨List.mem_of_getElem? (i := 802) (by decide +kernel), by decide +kernel⟩
theorem wd_732 : Cond.instanceMethod yX10_get ∈ gW := List.mem_filter.mpr ⟨List.mem_of_getElem? (i := 803) (by decide +kernel), by decide +kernel⟩
theorem wd_733 : Cond.selects RX10 yX10_get yX10_get ∈ gW := List.mem_filter.mpr ⟨List.mem_of_getElem? (i := 804) (by decide +kernel), by decide +kernel⟩
theorem wd_734 : Cond.code yX10_get cX10_get 5 (some (.int)) ∈ gW := List.mem_filter.mpr ⟨List.mem_of_getElem? (i := 805) (by decide +kernel), by decide +kernel⟩
theorem wd_735 : Cond.constant RX10 278 (-2147483648) ∈ gW := List.mem_filter.mpr ⟨List.mem_of_getElem? (i := 806) (by decide +kernel), by decide +kernel⟩
theorem wd_736 : Cond.methodLink R_law 143 yX10_copy ∈ gW := List.mem_filter.mpr ⟨List.mem_of_getElem? (i := 807) (by decide +kernel), by decide +kernel⟩
theorem wd_737 : Cond.instanceMethod yX10_copy ∈ gW := List.mem_filter.mpr ⟨List.mem_of_getElem? (i := 808) (by decide +kernel), by decide +kernel⟩
theorem wd_738 : Cond.selects RX10 yX10_copy yX10_copy ∈ gW := List.mem_filter.mpr ⟨List.mem_of_getElem? (i := 809) (by decide +kernel), by decide +kernel⟩
theorem wd_739 : Cond.code yX10_copy cX10_copy 8 (some (.int)) ∈ gW := List.mem_filter.mpr ⟨List.mem_of_getElem? (i := 810) (by decide +kernel), by decide +kernel⟩
theorem wd_740 : Cond.methodLink RX10 289 arraycopyName ∈ gW := List.mem_filter.mpr ⟨List.mem_of_getElem? (i := 811) (by decide +kernel), by decide +kernel⟩
theorem wd_741 : Cond.static arraycopyName ∈ gW := List.mem_filter.mpr ⟨List.mem_of_getElem? (i := 812) (by decide +kernel), by decide +kernel⟩
theorem wd_742 : Cond.native arraycopyName ∈ gW := List.mem_filter.mpr ⟨List.mem_of_getElem? (i := 813) (by decide +kernel), by decide +kernel⟩
theorem wd_743 : Cond.methodLink R_law 148 yX10_write ∈ gW := List.mem_filter.mpr ⟨List.mem_of_getElem? (i := 814) (by decide +kernel), by decide +kernel⟩
theorem wd_744 : Cond.instanceMethod yX10_write ∈ gW := List.mem_filter.mpr ⟨List.mem_of_getElem? (i := 815) (by decide +kernel), by decide +kernel⟩
theorem wd_745 : Cond.selects RX10 yX10_write yX10_write ∈ gW := List.mem_filter.mpr ⟨List.mem_of_getElem? (i := 816) (by decide +kernel), by decide +kernel⟩
theorem wd_746 : Cond.code yX10_write cX10_write 5 (some (.int)) ∈ gW := List.mem_filter.mpr ⟨List.mem_of_getElem? (i := 817) (by decide +kernel), by decide +kernel⟩
theorem wd_747 : Cond.methodLink RX10 295 Lib.Math.min.name ∈ gW := List.mem_filter.mpr ⟨List.mem_of_getElem? (i := 818) (by decide +kernel), by decide +kernel⟩
theorem wd_748 : Cond.methodLink R_law 152 yX10_count ∈ gW := List.mem_filter.mpr ⟨List.mem_of_getElem? (i := 819) (by decide +kernel), by decide +kernel⟩
theorem wd_749 : Cond.instanceMethod yX10_count ∈ gW := List.mem_filter.mpr ⟨List.mem_of_getElem? (i := 820) (by decide +kernel), by decide +kernel⟩
theorem wd_750 : Cond.selects RX10 yX10_count yX10_count ∈ gW := List.mem_filter.mpr ⟨List.mem_of_getElem? (i := 821) (by decide +kernel), by decide +kernel⟩
theorem wd_751 : Cond.code yX10_count cX10_count 2 (some (.int)) ∈ gW := List.mem_filter.mpr ⟨List.mem_of_getElem? (i := 822) (by decide +kernel), by decide +kernel⟩
theorem wd_752 : Cond.methodLink RX10 308 yX10_bare ∈ gW := List.mem_filter.mpr ⟨List.mem_of_getElem? (i := 823) (by decide +kernel), by decide +kernel⟩
theorem wd_753 : Cond.methodLink RX10 311 yX10_allYellow ∈ gW := List.mem_filter.mpr ⟨List.mem_of_getElem? (i := 824) (by decide +kernel), by decide +kernel⟩
theorem wd_755 : Cond.instanceMethod yX10_allYellow ∈ gW := List.mem_filter.mpr ⟨List.mem_of_getElem? (i := 826) (by decide +kernel), by decide +kernel⟩
theorem wd_756 : Cond.code yX10_allYellow cX10_allYellow 3 (some (.int)) ∈ gW := List.mem_filter.mpr ⟨List.mem_of_getElem? (i := 827) (by decide +kernel), by decide +kernel⟩
theorem wd_757 : Cond.methodLink R_law 156 yX10_digest ∈ gW := List.mem_filter.mpr ⟨List.mem_of_getElem? (i := 828) (by decide +kernel), by decide +kernel⟩
theorem wd_758 : Cond.instanceMethod yX10_digest ∈ gW := List.mem_filter.mpr ⟨List.mem_of_getElem? (i := 829) (by decide +kernel), by decide +kernel⟩
theorem wd_759 : Cond.selects RX10 yX10_digest yX10_digest ∈ gW := List.mem_filter.mpr ⟨List.mem_of_getElem? (i := 830) (by decide +kernel), by decide +kernel⟩
theorem wd_760 : Cond.code yX10_digest cX10_digest 4 (some (.long)) ∈ gW := List.mem_filter.mpr ⟨List.mem_of_getElem? (i := 831) (by decide +kernel), by decide +kernel⟩
theorem wd_761 : Cond.constantLong RX10 315 17 ∈ gW := List.mem_filter.mpr ⟨List.mem_of_getElem? (i := 832) (by decide +kernel), by decide +kernel⟩
theorem wd_762 : Cond.methodLink RX10 317 yX10_digestOfCounts ∈ gW := List.mem_filter.mpr ⟨List.mem_of_getElem? (i := 833) (by decide +kernel), by decide +kernel⟩
theorem wd_764 : Cond.instanceMethod yX10_digestOfCounts ∈ gW := List.mem_filter.mpr ⟨List.mem_of_getElem? (i := 835) (by decide +kernel), by decide +kernel⟩
theorem wd_765 : Cond.code yX10_digestOfCounts cX10_digestOfCounts 4 (some (.long)) ∈ gW := List.mem_filter.mpr ⟨List.mem_of_getElem? (i := 836) (by decide +kernel), by decide +kernel⟩
theorem wd_766 : Cond.constantLong RX10 340 31 ∈ gW := List.mem_filter.mpr ⟨List.mem_of_getElem? (i := 837) (by decide +kernel), by decide +kernel⟩
theorem wd_767 : Cond.methodLink RX10 342 yX10_count ∈ gW := List.mem_filter.mpr ⟨List.mem_of_getElem? (i := 838) (by decide +kernel), by decide +kernel⟩
theorem wd_768 : Cond.methodLink RX10 345 yX10_fault ∈ gW := List.mem_filter.mpr ⟨List.mem_of_getElem? (i := 839) (by decide +kernel), by decide +kernel⟩
theorem wd_769 : Cond.methodLink RX10 321 yX10_digestOfMonths ∈ gW := List.mem_filter.mpr ⟨List.mem_of_getElem? (i := 840) (by decide +kernel), by decide +kernel⟩
theorem wd_771 : Cond.instanceMethod yX10_digestOfMonths ∈ gW := List.mem_filter.mpr ⟨List.mem_of_getElem? (i := 842) (by decide +kernel), by decide +kernel⟩
theorem wd_772 : Cond.code yX10_digestOfMonths cX10_digestOfMonths 5 (some (.long)) ∈ gW := List.mem_filter.mpr ⟨List.mem_of_getElem? (i := 843) (by decide +kernel), by decide +kernel⟩
theorem wd_773 : Cond.methodLink RX10 348 yX10_hill ∈ gW := List.mem_filter.mpr ⟨List.mem_of_getElem? (i := 844) (by decide +kernel), by decide +kernel⟩
theorem wd_774 : Cond.methodLink RX10 324 yX10_digestOfLooks ∈ gW := List.mem_filter.mpr ⟨List.mem_of_getElem? (i := 845) (by decide +kernel), by decide +kernel⟩
theorem wd_776 : Cond.instanceMethod yX10_digestOfLooks ∈ gW := List.mem_filter.mpr ⟨List.mem_of_getElem? (i := 847) (by decide +kernel), by decide +kernel⟩
theorem wd_777 : Cond.code yX10_digestOfLooks cX10_digestOfLooks 4 (some (.long)) ∈ gW := List.mem_filter.mpr ⟨List.mem_of_getElem? (i := 848) (by decide +kernel), by decide +kernel⟩
theorem wd_778 : Cond.methodLink RX10 350 yX10_look ∈ gW := List.mem_filter.mpr ⟨List.mem_of_getElem? (i := 849) (by decide +kernel), by decide +kernel⟩
theorem wd_779 : Cond.methodLink RX10 327 yX10_digestOfBush ∈ gW := List.mem_filter.mpr ⟨List.mem_of_getElem? (i := 850) (by decide +kernel), by decide +kernel⟩
theorem wd_781 : Cond.instanceMethod yX10_digestOfBush ∈ gW := List.mem_filter.mpr ⟨List.mem_of_getElem? (i := 852) (by decide +kernel), by decide +kernel⟩
theorem wd_782 : Cond.code yX10_digestOfBush cX10_digestOfBush 5 (some (.long)) ∈ gW := List.mem_filter.mpr ⟨List.mem_of_getElem? (i := 853) (by decide +kernel), by decide +kernel⟩
theorem wd_783 : Cond.methodLink RX10 353 yX10_bush ∈ gW := List.mem_filter.mpr ⟨List.mem_of_getElem? (i := 854) (by decide +kernel), by decide +kernel⟩
theorem wd_784 : Cond.methodLink RX10 356 yX10_digestOfBushIn ∈ gW := List.mem_filter.mpr ⟨List.mem_of_getElem? (i := 855) (by decide +kernel), by decide +kernel⟩
theorem wd_786 : Cond.instanceMethod yX10_digestOfBushIn ∈ gW := List.mem_filter.mpr ⟨List.mem_of_getElem? (i := 857) (by decide +kernel), by decide +kernel⟩
theorem wd_787 : Cond.code yX10_digestOfBushIn cX10_digestOfBushIn 6 (some (.long)) ∈ gW := List.mem_filter.mpr ⟨List.mem_of_getElem? (i := 858) (by decide +kernel), by decide +kernel⟩
theorem wd_788 : Cond.methodLink RX10 366 yX10_at ∈ gW := List.mem_filter.mpr ⟨List.mem_of_getElem? (i := 859) (by decide +kernel), by decide +kernel⟩
theorem wd_789 : Cond.methodLink RX10 360 yX10_was ∈ gW := List.mem_filter.mpr ⟨List.mem_of_getElem? (i := 860) (by decide +kernel), by decide +kernel⟩
theorem wd_790 : Cond.methodLink RX10 363 yX10_ask ∈ gW := List.mem_filter.mpr ⟨List.mem_of_getElem? (i := 861) (by decide +kernel), by decide +kernel⟩
theorem wd_791 : Cond.methodLink RX10 331 yX10_digestOfHill ∈ gW := List.mem_filter.mpr ⟨List.mem_of_getElem? (i := 862) (by decide +kernel), by decide +kernel⟩
theorem wd_793 : Cond.instanceMethod yX10_digestOfHill ∈ gW := List.mem_filter.mpr ⟨List.mem_of_getElem? (i := 864) (by decide +kernel), by decide +kernel⟩
theorem wd_794 : Cond.code yX10_digestOfHill cX10_digestOfHill 3 (some (.long)) ∈ gW := List.mem_filter.mpr ⟨List.mem_of_getElem? (i := 865) (by decide +kernel), by decide +kernel⟩
theorem wd_795 : Cond.methodLink RX10 369 yX10_run ∈ gW := List.mem_filter.mpr ⟨List.mem_of_getElem? (i := 866) (by decide +kernel), by decide +kernel⟩
theorem wd_796 : Cond.methodLink RX10 372 yX10_fake ∈ gW := List.mem_filter.mpr ⟨List.mem_of_getElem? (i := 867) (by decide +kernel), by decide +kernel⟩
theorem wd_797 : Cond.methodLink RX10 375 yX10_last ∈ gW := List.mem_filter.mpr ⟨List.mem_of_getElem? (i := 868) (by decide +kernel), by decide +kernel⟩
theorem wd_798 : Cond.methodLink RX10 334 yX10_digestOfPlans ∈ gW := List.mem_filter.mpr ⟨List.mem_of_getElem? (i := 869) (by decide +kernel), by decide +kernel⟩
theorem wd_800 : Cond.instanceMethod yX10_digestOfPlans ∈ gW := List.mem_filter.mpr ⟨List.mem_of_getElem? (i := 871) (by decide +kernel), by decide +kernel⟩
theorem wd_801 : Cond.code yX10_digestOfPlans cX10_digestOfPlans 4 (some (.long)) ∈ gW := List.mem_filter.mpr ⟨List.mem_of_getElem? (i := 872) (by decide +kernel), by decide +kernel⟩
theorem wd_802 : Cond.methodLink RX10 378 yX10_plant ∈ gW := List.mem_filter.mpr ⟨List.mem_of_getElem? (i := 873) (by decide +kernel), by decide +kernel⟩
theorem wd_803 : Cond.methodLink RX10 381 yX10_send ∈ gW := List.mem_filter.mpr ⟨List.mem_of_getElem? (i := 874) (by decide +kernel), by decide +kernel⟩
theorem wd_804 : Cond.methodLink RX10 384 yX10_save ∈ gW := List.mem_filter.mpr ⟨List.mem_of_getElem? (i := 875) (by decide +kernel), by decide +kernel⟩
theorem wd_805 : Cond.methodLink RX10 387 yX10_deal ∈ gW := List.mem_filter.mpr ⟨List.mem_of_getElem? (i := 876) (by decide +kernel), by decide +kernel⟩
theorem wd_806 : Cond.methodLink RX10 337 yX10_digestOfLuck ∈ gW := List.mem_filter.mpr ⟨List.mem_of_getElem? (i := 877) (by decide +kernel), by decide +kernel⟩
theorem wd_808 : Cond.instanceMethod yX10_digestOfLuck ∈ gW := List.mem_filter.mpr ⟨List.mem_of_getElem? (i := 879) (by decide +kernel), by decide +kernel⟩
theorem wd_809 : Cond.code yX10_digestOfLuck cX10_digestOfLuck 3 (some (.long)) ∈ gW := List.mem_filter.mpr ⟨List.mem_of_getElem? (i := 880) (by decide +kernel), by decide +kernel⟩
theorem wd_810 : Cond.methodLink RX10 390 yX10_never ∈ gW := List.mem_filter.mpr ⟨List.mem_of_getElem? (i := 881) (by decide +kernel), by decide +kernel⟩
theorem wd_811 : Cond.methodLink RX10 393 yX10_luck ∈ gW := List.mem_filter.mpr ⟨List.mem_of_getElem? (i := 882) (by decide +kernel), by decide +kernel⟩
theorem wd_812 : Cond.methodLink RX10 397 yX10_century ∈ gW := List.mem_filter.mpr ⟨List.mem_of_getElem? (i := 883) (by decide +kernel), by decide +kernel⟩
theorem wd_819 : Cond.fieldLink RX11 7 "GorseGoldModel" "forms" "[I" ∈ gW := List.mem_filter.mpr ⟨List.mem_of_getElem? (i := 890) (by decide +kernel), by decide +kernel⟩
theorem wd_820 : Cond.fieldLink RX11 13 "GorseGoldModel" "sizes" "[I" ∈ gW := List.mem_filter.mpr ⟨List.mem_of_getElem? (i := 891) (by decide +kernel), by decide +kernel⟩
theorem wd_821 : Cond.fieldLink RX11 16 "GorseGoldModel" "items" "[I" ∈ gW := List.mem_filter.mpr ⟨List.mem_of_getElem? (i := 892) (by decide +kernel), by decide +kernel⟩
theorem wd_822 : Cond.fieldLink RX11 19 "GorseGoldModel" "moved" "[I" ∈ gW := List.mem_filter.mpr ⟨List.mem_of_getElem? (i := 893) (by decide +kernel), by decide +kernel⟩
theorem wd_823 : Cond.fieldLink RX11 78 "GorseGoldModel" "latest" "I" ∈ gW := List.mem_filter.mpr ⟨List.mem_of_getElem? (i := 894) (by decide +kernel), by decide +kernel⟩
theorem wd_824 : Cond.fieldLink RX11 22 "GorseGoldModel" "bytes" "[I" ∈ gW := List.mem_filter.mpr ⟨List.mem_of_getElem? (i := 895) (by decide +kernel), by decide +kernel⟩
theorem wd_825 : Cond.fieldLink RX11 25 "GorseGoldModel" "typed" "[I" ∈ gW := List.mem_filter.mpr ⟨List.mem_of_getElem? (i := 896) (by decide +kernel), by decide +kernel⟩
theorem wd_826 : Cond.fieldLink RX11 118 "GorseGoldModel" "bushes" "I" ∈ gW := List.mem_filter.mpr ⟨List.mem_of_getElem? (i := 897) (by decide +kernel), by decide +kernel⟩
theorem wd_827 : Cond.fieldLink RX11 28 "GorseGoldModel" "bush" "[I" ∈ gW := List.mem_filter.mpr ⟨List.mem_of_getElem? (i := 898) (by decide +kernel), by decide +kernel⟩
theorem wd_828 : Cond.fieldLink RX11 128 "GorseGoldModel" "looks" "I" ∈ gW := List.mem_filter.mpr ⟨List.mem_of_getElem? (i := 899) (by decide +kernel), by decide +kernel⟩
theorem wd_829 : Cond.fieldLink RX11 31 "GorseGoldModel" "look" "[I" ∈ gW := List.mem_filter.mpr ⟨List.mem_of_getElem? (i := 900) (by decide +kernel), by decide +kernel⟩
theorem wd_830 : Cond.fieldLink RX11 62 "GorseGoldModel" "faith" "I" ∈ gW := List.mem_filter.mpr ⟨List.mem_of_getElem? (i := 901) (by decide +kernel), by decide +kernel⟩
theorem wd_831 : Cond.fieldLink RX11 66 "GorseGoldModel" "doubt" "I" ∈ gW := List.mem_filter.mpr ⟨List.mem_of_getElem? (i := 902) (by decide +kernel), by decide +kernel⟩
theorem wd_832 : Cond.fieldLink RX11 158 "GorseGoldModel" "events" "I" ∈ gW := List.mem_filter.mpr ⟨List.mem_of_getElem? (i := 903) (by decide +kernel), by decide +kernel⟩
theorem wd_833 : Cond.fieldLink RX11 34 "GorseGoldModel" "event" "[I" ∈ gW := List.mem_filter.mpr ⟨List.mem_of_getElem? (i := 904) (by decide +kernel), by decide +kernel⟩
theorem wd_834 : Cond.fieldLink RX11 176 "GorseGoldModel" "gone" "I" ∈ gW := List.mem_filter.mpr ⟨List.mem_of_getElem? (i := 905) (by decide +kernel), by decide +kernel⟩
theorem wd_835 : Cond.fieldLink RX11 37 "GorseGoldModel" "state" "[I" ∈ gW := List.mem_filter.mpr ⟨List.mem_of_getElem? (i := 906) (by decide +kernel), by decide +kernel⟩
theorem wd_836 : Cond.fieldLink RX11 40 "GorseGoldModel" "painted" "[Z" ∈ gW := List.mem_filter.mpr ⟨List.mem_of_getElem? (i := 907) (by decide +kernel), by decide +kernel⟩
theorem wd_837 : Cond.fieldLink RX11 44 "GorseGoldModel" "yellow" "[I" ∈ gW := List.mem_filter.mpr ⟨List.mem_of_getElem? (i := 908) (by decide +kernel), by decide +kernel⟩
theorem wd_838 : Cond.fieldLink RX11 47 "GorseGoldModel" "belief" "[I" ∈ gW := List.mem_filter.mpr ⟨List.mem_of_getElem? (i := 909) (by decide +kernel), by decide +kernel⟩
theorem wd_839 : Cond.fieldLink RX11 50 "GorseGoldModel" "seems" "[I" ∈ gW := List.mem_filter.mpr ⟨List.mem_of_getElem? (i := 910) (by decide +kernel), by decide +kernel⟩
theorem wd_840 : Cond.fieldLink RX11 172 "GorseGoldModel" "hasMore" "Z" ∈ gW := List.mem_filter.mpr ⟨List.mem_of_getElem? (i := 911) (by decide +kernel), by decide +kernel⟩
theorem wd_841 : Cond.fieldLink RX11 69 "GorseGoldModel" "oddMonth" "I" ∈ gW := List.mem_filter.mpr ⟨List.mem_of_getElem? (i := 912) (by decide +kernel), by decide +kernel⟩
theorem wd_842 : Cond.fieldLink RX11 205 "GorseGoldModel" "oddBush" "I" ∈ gW := List.mem_filter.mpr ⟨List.mem_of_getElem? (i := 913) (by decide +kernel), by decide +kernel⟩
theorem wd_843 : Cond.fieldLink RX11 266 "GorseGoldModel" "sights" "I" ∈ gW := List.mem_filter.mpr ⟨List.mem_of_getElem? (i := 914) (by decide +kernel), by decide +kernel⟩
theorem wd_844 : Cond.fieldLink RX11 53 "GorseGoldModel" "sight" "[I" ∈ gW := List.mem_filter.mpr ⟨List.mem_of_getElem? (i := 915) (by decide +kernel), by decide +kernel⟩
theorem wd_845 : Cond.fieldLink RX11 56 "GorseGoldModel" "alike" "[I" ∈ gW := List.mem_filter.mpr ⟨List.mem_of_getElem? (i := 916) (by decide +kernel), by decide +kernel⟩
theorem wd_846 : Cond.fieldLink RX11 303 "GorseGoldModel" "drawn" "I" ∈ gW := List.mem_filter.mpr ⟨List.mem_of_getElem? (i := 917) (by decide +kernel), by decide +kernel⟩
theorem wd_847 : Cond.fieldLink RX11 59 "GorseGoldModel" "told" "[I" ∈ gW := List.mem_filter.mpr ⟨List.mem_of_getElem? (i := 918) (by decide +kernel), by decide +kernel⟩
theorem wd_908 : Cond.methodLink R_law 129 yX11_sheet ∈ gW := List.mem_filter.mpr ⟨List.mem_of_getElem? (i := 979) (by decide +kernel), by decide +kernel⟩
theorem wd_909 : Cond.instanceMethod yX11_sheet ∈ gW := List.mem_filter.mpr ⟨List.mem_of_getElem? (i := 980) (by decide +kernel), by decide +kernel⟩
theorem wd_910 : Cond.selects RX11 yX11_sheet yX11_sheet ∈ gW := List.mem_filter.mpr ⟨List.mem_of_getElem? (i := 981) (by decide +kernel), by decide +kernel⟩
theorem wd_911 : Cond.code yX11_sheet cX11_sheet 5 (some (.int)) ∈ gW := List.mem_filter.mpr ⟨List.mem_of_getElem? (i := 982) (by decide +kernel), by decide +kernel⟩
theorem wd_912 : Cond.methodLink RX11 83 yX11_isSheet ∈ gW := List.mem_filter.mpr ⟨List.mem_of_getElem? (i := 983) (by decide +kernel), by decide +kernel⟩
theorem wd_913 : Cond.static yX11_isSheet ∈ gW := List.mem_filter.mpr ⟨List.mem_of_getElem? (i := 984) (by decide +kernel), by decide +kernel⟩
theorem wd_914 : Cond.code yX11_isSheet cX11_isSheet 1 (some (.boolean)) ∈ gW := List.mem_filter.mpr ⟨List.mem_of_getElem? (i := 985) (by decide +kernel), by decide +kernel⟩
theorem wd_915 : Cond.constantLong RX11 81 3 ∈ gW := List.mem_filter.mpr ⟨List.mem_of_getElem? (i := 986) (by decide +kernel), by decide +kernel⟩
theorem wd_916 : Cond.methodLink RX11 74 yX11_in ∈ gW := List.mem_filter.mpr ⟨List.mem_of_getElem? (i := 987) (by decide +kernel), by decide +kernel⟩
theorem wd_917 : Cond.static yX11_in ∈ gW := List.mem_filter.mpr ⟨List.mem_of_getElem? (i := 988) (by decide +kernel), by decide +kernel⟩
theorem wd_918 : Cond.code yX11_in cX11_in 6 (some (.boolean)) ∈ gW := List.mem_filter.mpr ⟨List.mem_of_getElem? (i := 989) (by decide +kernel), by decide +kernel⟩
theorem wd_919 : Cond.constantLong RX11 87 2 ∈ gW := List.mem_filter.mpr ⟨List.mem_of_getElem? (i := 990) (by decide +kernel), by decide +kernel⟩
theorem wd_920 : Cond.methodLink RX11 89 yX11_finds ∈ gW := List.mem_filter.mpr ⟨List.mem_of_getElem? (i := 991) (by decide +kernel), by decide +kernel⟩
theorem wd_922 : Cond.instanceMethod yX11_finds ∈ gW := List.mem_filter.mpr ⟨List.mem_of_getElem? (i := 993) (by decide +kernel), by decide +kernel⟩
theorem wd_923 : Cond.code yX11_finds cX11_finds 2 (some (.int)) ∈ gW := List.mem_filter.mpr ⟨List.mem_of_getElem? (i := 994) (by decide +kernel), by decide +kernel⟩
theorem wd_924 : Cond.methodLink R_law 133 yX11_lose ∈ gW := List.mem_filter.mpr ⟨List.mem_of_getElem? (i := 995) (by decide +kernel), by decide +kernel⟩
theorem wd_925 : Cond.instanceMethod yX11_lose ∈ gW := List.mem_filter.mpr ⟨List.mem_of_getElem? (i := 996) (by decide +kernel), by decide +kernel⟩
theorem wd_926 : Cond.selects RX11 yX11_lose yX11_lose ∈ gW := List.mem_filter.mpr ⟨List.mem_of_getElem? (i := 997) (by decide +kernel), by decide +kernel⟩
theorem wd_927 : Cond.code yX11_lose cX11_lose 2 (some (.int)) ∈ gW := List.mem_filter.mpr ⟨List.mem_of_getElem? (i := 998) (by decide +kernel), by decide +kernel⟩
theorem wd_928 : Cond.methodLink R_law 138 yX11_lay ∈ gW := List.mem_filter.mpr ⟨List.mem_of_getElem? (i := 999) (by decide +kernel), by decide +kernel⟩
theorem wd_929 : Cond.instanceMethod yX11_lay ∈ gW := List.mem_filter.mpr ⟨List.mem_of_getElem? (i := 1000) (by decide +kernel), by decide +kernel⟩
theorem wd_930 : Cond.selects RX11 yX11_lay yX11_lay ∈ gW := List.mem_filter.mpr ⟨List.mem_of_getElem? (i := 1001) (by decide +kernel), by decide +kernel⟩
theorem wd_931 : Cond.code yX11_lay cX11_lay 6 (some (.int)) ∈ gW := List.mem_filter.mpr ⟨List.mem_of_getElem? (i := 1002) (by decide +kernel), by decide +kernel⟩
theorem wd_932 : Cond.methodLink RX11 93 yX11_lacks ∈ gW := List.mem_filter.mpr ⟨List.mem_of_getElem? (i := 1003) (by decide +kernel), by decide +kernel⟩
theorem wd_934 : Cond.instanceMethod yX11_lacks ∈ gW := List.mem_filter.mpr ⟨List.mem_of_getElem? (i := 1005) (by decide +kernel), by decide +kernel⟩
theorem wd_935 : Cond.code yX11_lacks cX11_lacks 4 (some (.int)) ∈ gW := List.mem_filter.mpr ⟨List.mem_of_getElem? (i := 1006) (by decide +kernel), by decide +kernel⟩
theorem wd_936 : Cond.methodLink RX11 97 yX11_cut ∈ gW := List.mem_filter.mpr ⟨List.mem_of_getElem? (i := 1007) (by decide +kernel), by decide +kernel⟩
theorem wd_937 : Cond.static yX11_cut ∈ gW := List.mem_filter.mpr ⟨List.mem_of_getElem? (i := 1008) (by decide +kernel), by decide +kernel⟩
theorem wd_938 : Cond.code yX11_cut cX11_cut 2 (some (.int)) ∈ gW := List.mem_filter.mpr ⟨List.mem_of_getElem? (i := 1009) (by decide +kernel), by decide +kernel⟩
theorem wd_939 : Cond.methodLink R_law 142 yX11_get ∈ gW := List.mem_filter.mpr ⟨List.mem_of_getElem? (i := 1010) (by decide +kernel), by decide +kernel⟩
theorem wd_940 : Cond.instanceMethod yX11_get ∈ gW := List.mem_filter.mpr ⟨List.mem_of_getElem? (i := 1011) (by decide +kernel), by decide +kernel⟩
theorem wd_941 : Cond.selects RX11 yX11_get yX11_get ∈ gW := List.mem_filter.mpr ⟨List.mem_of_getElem? (i := 1012) (by decide +kernel), by decide +kernel⟩
theorem wd_942 : Cond.code yX11_get cX11_get 4 (some (.int)) ∈ gW := List.mem_filter.mpr ⟨List.mem_of_getElem? (i := 1013) (by decide +kernel), by decide +kernel⟩
theorem wd_943 : Cond.constant RX11 101 (-2147483648) ∈ gW := List.mem_filter.mpr ⟨List.mem_of_getElem? (i := 1014) (by decide +kernel), by decide +kernel⟩
theorem wd_944 : Cond.methodLink R_law 147 yX11_copy ∈ gW := List.mem_filter.mpr ⟨List.mem_of_getElem? (i := 1015) (by decide +kernel), by decide +kernel⟩
theorem wd_945 : Cond.instanceMethod yX11_copy ∈ gW := List.mem_filter.mpr ⟨List.mem_of_getElem? (i := 1016) (by decide +kernel), by decide +kernel⟩
theorem wd_946 : Cond.selects RX11 yX11_copy yX11_copy ∈ gW := List.mem_filter.mpr ⟨List.mem_of_getElem? (i := 1017) (by decide +kernel), by decide +kernel⟩
theorem wd_947 : Cond.code yX11_copy cX11_copy 7 (some (.int)) ∈ gW := List.mem_filter.mpr ⟨List.mem_of_getElem? (i := 1018) (by decide +kernel), by decide +kernel⟩
theorem wd_948 : Cond.methodLink R_law 17 yX11_type ∈ gW := List.mem_filter.mpr ⟨List.mem_of_getElem? (i := 1019) (by decide +kernel), by decide +kernel⟩
theorem wd_949 : Cond.instanceMethod yX11_type ∈ gW := List.mem_filter.mpr ⟨List.mem_of_getElem? (i := 1020) (by decide +kernel), by decide +kernel⟩
theorem wd_950 : Cond.selects RX11 yX11_type yX11_type ∈ gW := List.mem_filter.mpr ⟨List.mem_of_getElem? (i := 1021) (by decide +kernel), by decide +kernel⟩
theorem wd_951 : Cond.code yX11_type cX11_type 3 (some (.int)) ∈ gW := List.mem_filter.mpr ⟨List.mem_of_getElem? (i := 1022) (by decide +kernel), by decide +kernel⟩
theorem wd_952 : Cond.methodLink RX11 102 yX11_isTwo ∈ gW := List.mem_filter.mpr ⟨List.mem_of_getElem? (i := 1023) (by decide +kernel), by decide +kernel⟩
theorem wd_953 : Cond.static yX11_isTwo ∈ gW := List.mem_filter.mpr ⟨List.mem_of_getElem? (i := 1024) (by decide +kernel), by decide +kernel⟩
theorem wd_954 : Cond.code yX11_isTwo cX11_isTwo 1 (some (.boolean)) ∈ gW := List.mem_filter.mpr ⟨List.mem_of_getElem? (i := 1025) (by decide +kernel), by decide +kernel⟩
theorem wd_955 : Cond.constantLong RX11 105 255 ∈ gW := List.mem_filter.mpr ⟨List.mem_of_getElem? (i := 1026) (by decide +kernel), by decide +kernel⟩
theorem wd_956 : Cond.methodLink R_law 22 yX11_wipe ∈ gW := List.mem_filter.mpr ⟨List.mem_of_getElem? (i := 1027) (by decide +kernel), by decide +kernel⟩
theorem wd_957 : Cond.instanceMethod yX11_wipe ∈ gW := List.mem_filter.mpr ⟨List.mem_of_getElem? (i := 1028) (by decide +kernel), by decide +kernel⟩
theorem wd_958 : Cond.selects RX11 yX11_wipe yX11_wipe ∈ gW := List.mem_filter.mpr ⟨List.mem_of_getElem? (i := 1029) (by decide +kernel), by decide +kernel⟩
theorem wd_959 : Cond.code yX11_wipe cX11_wipe 3 (some (.int)) ∈ gW := List.mem_filter.mpr ⟨List.mem_of_getElem? (i := 1030) (by decide +kernel), by decide +kernel⟩
theorem wd_960 : Cond.methodLink R_law 26 yX11_undo ∈ gW := List.mem_filter.mpr ⟨List.mem_of_getElem? (i := 1031) (by decide +kernel), by decide +kernel⟩
theorem wd_961 : Cond.instanceMethod yX11_undo ∈ gW := List.mem_filter.mpr ⟨List.mem_of_getElem? (i := 1032) (by decide +kernel), by decide +kernel⟩
theorem wd_962 : Cond.selects RX11 yX11_undo yX11_undo ∈ gW := List.mem_filter.mpr ⟨List.mem_of_getElem? (i := 1033) (by decide +kernel), by decide +kernel⟩
theorem wd_963 : Cond.code yX11_undo cX11_undo 2 (some (.int)) ∈ gW := List.mem_filter.mpr ⟨List.mem_of_getElem? (i := 1034) (by decide +kernel), by decide +kernel⟩
theorem wd_964 : Cond.methodLink R_law 30 yX11_fault ∈ gW := List.mem_filter.mpr ⟨List.mem_of_getElem? (i := 1035) (by decide +kernel), by decide +kernel⟩
theorem wd_965 : Cond.instanceMethod yX11_fault ∈ gW := List.mem_filter.mpr ⟨List.mem_of_getElem? (i := 1036) (by decide +kernel), by decide +kernel⟩
theorem wd_966 : Cond.selects RX11 yX11_fault yX11_fault ∈ gW := List.mem_filter.mpr ⟨List.mem_of_getElem? (i := 1037) (by decide +kernel), by decide +kernel⟩
theorem wd_967 : Cond.code yX11_fault cX11_fault 2 (some (.int)) ∈ gW := List.mem_filter.mpr ⟨List.mem_of_getElem? (i := 1038) (by decide +kernel), by decide +kernel⟩
theorem wd_968 : Cond.methodLink RX11 141 yX11_readsText ∈ gW := List.mem_filter.mpr ⟨List.mem_of_getElem? (i := 1039) (by decide +kernel), by decide +kernel⟩
theorem wd_970 : Cond.instanceMethod yX11_readsText ∈ gW := List.mem_filter.mpr ⟨List.mem_of_getElem? (i := 1041) (by decide +kernel), by decide +kernel⟩
theorem wd_971 : Cond.code yX11_readsText cX11_readsText 2 (some (.int)) ∈ gW := List.mem_filter.mpr ⟨List.mem_of_getElem? (i := 1042) (by decide +kernel), by decide +kernel⟩
theorem wd_972 : Cond.methodLink RX11 134 yX11_readsBushes ∈ gW := List.mem_filter.mpr ⟨List.mem_of_getElem? (i := 1043) (by decide +kernel), by decide +kernel⟩
theorem wd_974 : Cond.instanceMethod yX11_readsBushes ∈ gW := List.mem_filter.mpr ⟨List.mem_of_getElem? (i := 1045) (by decide +kernel), by decide +kernel⟩
theorem wd_975 : Cond.code yX11_readsBushes cX11_readsBushes 5 (some (.int)) ∈ gW := List.mem_filter.mpr ⟨List.mem_of_getElem? (i := 1046) (by decide +kernel), by decide +kernel⟩
theorem wd_976 : Cond.methodLink RX11 121 yX11_bushOf ∈ gW := List.mem_filter.mpr ⟨List.mem_of_getElem? (i := 1047) (by decide +kernel), by decide +kernel⟩
theorem wd_977 : Cond.static yX11_bushOf ∈ gW := List.mem_filter.mpr ⟨List.mem_of_getElem? (i := 1048) (by decide +kernel), by decide +kernel⟩
theorem wd_978 : Cond.code yX11_bushOf cX11_bushOf 2 (some (.int)) ∈ gW := List.mem_filter.mpr ⟨List.mem_of_getElem? (i := 1049) (by decide +kernel), by decide +kernel⟩
theorem wd_979 : Cond.methodLink RX11 107 yX11_kindOf ∈ gW := List.mem_filter.mpr ⟨List.mem_of_getElem? (i := 1050) (by decide +kernel), by decide +kernel⟩
theorem wd_980 : Cond.static yX11_kindOf ∈ gW := List.mem_filter.mpr ⟨List.mem_of_getElem? (i := 1051) (by decide +kernel), by decide +kernel⟩
theorem wd_981 : Cond.code yX11_kindOf cX11_kindOf 1 (some (.int)) ∈ gW := List.mem_filter.mpr ⟨List.mem_of_getElem? (i := 1052) (by decide +kernel), by decide +kernel⟩
theorem wd_982 : Cond.constantLong RX11 110 97 ∈ gW := List.mem_filter.mpr ⟨List.mem_of_getElem? (i := 1053) (by decide +kernel), by decide +kernel⟩
theorem wd_983 : Cond.constantLong RX11 112 108 ∈ gW := List.mem_filter.mpr ⟨List.mem_of_getElem? (i := 1054) (by decide +kernel), by decide +kernel⟩
theorem wd_984 : Cond.constantLong RX11 114 49 ∈ gW := List.mem_filter.mpr ⟨List.mem_of_getElem? (i := 1055) (by decide +kernel), by decide +kernel⟩
theorem wd_985 : Cond.constantLong RX11 116 57 ∈ gW := List.mem_filter.mpr ⟨List.mem_of_getElem? (i := 1056) (by decide +kernel), by decide +kernel⟩
theorem wd_986 : Cond.methodLink RX11 138 yX11_readsLooks ∈ gW := List.mem_filter.mpr ⟨List.mem_of_getElem? (i := 1057) (by decide +kernel), by decide +kernel⟩
theorem wd_988 : Cond.instanceMethod yX11_readsLooks ∈ gW := List.mem_filter.mpr ⟨List.mem_of_getElem? (i := 1059) (by decide +kernel), by decide +kernel⟩
theorem wd_989 : Cond.code yX11_readsLooks cX11_readsLooks 5 (some (.int)) ∈ gW := List.mem_filter.mpr ⟨List.mem_of_getElem? (i := 1060) (by decide +kernel), by decide +kernel⟩
theorem wd_990 : Cond.methodLink RX11 131 yX11_lookOf ∈ gW := List.mem_filter.mpr ⟨List.mem_of_getElem? (i := 1061) (by decide +kernel), by decide +kernel⟩
theorem wd_991 : Cond.static yX11_lookOf ∈ gW := List.mem_filter.mpr ⟨List.mem_of_getElem? (i := 1062) (by decide +kernel), by decide +kernel⟩
theorem wd_992 : Cond.code yX11_lookOf cX11_lookOf 2 (some (.int)) ∈ gW := List.mem_filter.mpr ⟨List.mem_of_getElem? (i := 1063) (by decide +kernel), by decide +kernel⟩
theorem wd_993 : Cond.constantLong RX11 124 120 ∈ gW := List.mem_filter.mpr ⟨List.mem_of_getElem? (i := 1064) (by decide +kernel), by decide +kernel⟩
theorem wd_994 : Cond.constantLong RX11 126 48 ∈ gW := List.mem_filter.mpr ⟨List.mem_of_getElem? (i := 1065) (by decide +kernel), by decide +kernel⟩
theorem wd_995 : Cond.methodLink R_law 34 yX11_bush ∈ gW := List.mem_filter.mpr ⟨List.mem_of_getElem? (i := 1066) (by decide +kernel), by decide +kernel⟩
theorem wd_996 : Cond.instanceMethod yX11_bush ∈ gW := List.mem_filter.mpr ⟨List.mem_of_getElem? (i := 1067) (by decide +kernel), by decide +kernel⟩
theorem wd_997 : Cond.selects RX11 yX11_bush yX11_bush ∈ gW := List.mem_filter.mpr ⟨List.mem_of_getElem? (i := 1068) (by decide +kernel), by decide +kernel⟩
theorem wd_998 : Cond.code yX11_bush cX11_bush 3 (some (.int)) ∈ gW := List.mem_filter.mpr ⟨List.mem_of_getElem? (i := 1069) (by decide +kernel), by decide +kernel⟩
theorem wd_999 : Cond.methodLink RX11 146 yX11_isBush ∈ gW := List.mem_filter.mpr ⟨List.mem_of_getElem? (i := 1070) (by decide +kernel), by decide +kernel⟩
theorem wd_1001 : Cond.instanceMethod yX11_isBush ∈ gW := List.mem_filter.mpr ⟨List.mem_of_getElem? (i := 1072) (by decide +kernel), by decide +kernel⟩
theorem wd_1002 : Cond.code yX11_isBush cX11_isBush 2 (some (.boolean)) ∈ gW := List.mem_filter.mpr ⟨List.mem_of_getElem? (i := 1073) (by decide +kernel), by decide +kernel⟩
theorem wd_1003 : Cond.methodLink R_law 38 yX11_look ∈ gW := List.mem_filter.mpr ⟨List.mem_of_getElem? (i := 1074) (by decide +kernel), by decide +kernel⟩
theorem wd_1004 : Cond.instanceMethod yX11_look ∈ gW := List.mem_filter.mpr ⟨List.mem_of_getElem? (i := 1075) (by decide +kernel), by decide +kernel⟩
theorem wd_1005 : Cond.selects RX11 yX11_look yX11_look ∈ gW := List.mem_filter.mpr ⟨List.mem_of_getElem? (i := 1076) (by decide +kernel), by decide +kernel⟩
theorem wd_1006 : Cond.code yX11_look cX11_look 3 (some (.int)) ∈ gW := List.mem_filter.mpr ⟨List.mem_of_getElem? (i := 1077) (by decide +kernel), by decide +kernel⟩
theorem wd_1007 : Cond.constantLong RX11 149 11 ∈ gW := List.mem_filter.mpr ⟨List.mem_of_getElem? (i := 1078) (by decide +kernel), by decide +kernel⟩
theorem wd_1008 : Cond.methodLink RX11 151 yX11_lookBy ∈ gW := List.mem_filter.mpr ⟨List.mem_of_getElem? (i := 1079) (by decide +kernel), by decide +kernel⟩
theorem wd_1010 : Cond.instanceMethod yX11_lookBy ∈ gW := List.mem_filter.mpr ⟨List.mem_of_getElem? (i := 1081) (by decide +kernel), by decide +kernel⟩
theorem wd_1011 : Cond.code yX11_lookBy cX11_lookBy 3 (some (.int)) ∈ gW := List.mem_filter.mpr ⟨List.mem_of_getElem? (i := 1082) (by decide +kernel), by decide +kernel⟩
theorem wd_1012 : Cond.methodLink R_law 42 yX11_set ∈ gW := List.mem_filter.mpr ⟨List.mem_of_getElem? (i := 1083) (by decide +kernel), by decide +kernel⟩
theorem wd_1013 : Cond.instanceMethod yX11_set ∈ gW := List.mem_filter.mpr ⟨List.mem_of_getElem? (i := 1084) (by decide +kernel), by decide +kernel⟩
theorem wd_1014 : Cond.selects RX11 yX11_set yX11_set ∈ gW := List.mem_filter.mpr ⟨List.mem_of_getElem? (i := 1085) (by decide +kernel), by decide +kernel⟩
theorem wd_1015 : Cond.code yX11_set cX11_set 4 (some (.int)) ∈ gW := List.mem_filter.mpr ⟨List.mem_of_getElem? (i := 1086) (by decide +kernel), by decide +kernel⟩
theorem wd_1016 : Cond.constantLong RX11 154 100 ∈ gW := List.mem_filter.mpr ⟨List.mem_of_getElem? (i := 1087) (by decide +kernel), by decide +kernel⟩
theorem wd_1017 : Cond.constantLong RX11 156 50 ∈ gW := List.mem_filter.mpr ⟨List.mem_of_getElem? (i := 1088) (by decide +kernel), by decide +kernel⟩
theorem wd_1018 : Cond.methodLink R_law 47 yX11_event ∈ gW := List.mem_filter.mpr ⟨List.mem_of_getElem? (i := 1089) (by decide +kernel), by decide +kernel⟩
theorem wd_1019 : Cond.instanceMethod yX11_event ∈ gW := List.mem_filter.mpr ⟨List.mem_of_getElem? (i := 1090) (by decide +kernel), by decide +kernel⟩
theorem wd_1020 : Cond.selects RX11 yX11_event yX11_event ∈ gW := List.mem_filter.mpr ⟨List.mem_of_getElem? (i := 1091) (by decide +kernel), by decide +kernel⟩
theorem wd_1021 : Cond.code yX11_event cX11_event 4 (some (.int)) ∈ gW := List.mem_filter.mpr ⟨List.mem_of_getElem? (i := 1092) (by decide +kernel), by decide +kernel⟩
theorem wd_1022 : Cond.methodLink RX11 161 yX11_isMonth ∈ gW := List.mem_filter.mpr ⟨List.mem_of_getElem? (i := 1093) (by decide +kernel), by decide +kernel⟩
theorem wd_1023 : Cond.static yX11_isMonth ∈ gW := List.mem_filter.mpr ⟨List.mem_of_getElem? (i := 1094) (by decide +kernel), by decide +kernel⟩
theorem wd_1024 : Cond.code yX11_isMonth cX11_isMonth 1 (some (.boolean)) ∈ gW := List.mem_filter.mpr ⟨List.mem_of_getElem? (i := 1095) (by decide +kernel), by decide +kernel⟩
theorem wd_1025 : Cond.constantLong RX11 144 23 ∈ gW := List.mem_filter.mpr ⟨List.mem_of_getElem? (i := 1096) (by decide +kernel), by decide +kernel⟩
theorem wd_1026 : Cond.constantLong RX11 164 9 ∈ gW := List.mem_filter.mpr ⟨List.mem_of_getElem? (i := 1097) (by decide +kernel), by decide +kernel⟩
theorem wd_1027 : Cond.methodLink RX11 166 yX11_puts ∈ gW := List.mem_filter.mpr ⟨List.mem_of_getElem? (i := 1098) (by decide +kernel), by decide +kernel⟩
theorem wd_1029 : Cond.instanceMethod yX11_puts ∈ gW := List.mem_filter.mpr ⟨List.mem_of_getElem? (i := 1100) (by decide +kernel), by decide +kernel⟩
theorem wd_1030 : Cond.code yX11_puts cX11_puts 4 none ∈ gW := List.mem_filter.mpr ⟨List.mem_of_getElem? (i := 1101) (by decide +kernel), by decide +kernel⟩
theorem wd_1031 : Cond.methodLink R_law 52 yX11_back ∈ gW := List.mem_filter.mpr ⟨List.mem_of_getElem? (i := 1102) (by decide +kernel), by decide +kernel⟩
theorem wd_1032 : Cond.instanceMethod yX11_back ∈ gW := List.mem_filter.mpr ⟨List.mem_of_getElem? (i := 1103) (by decide +kernel), by decide +kernel⟩
theorem wd_1033 : Cond.selects RX11 yX11_back yX11_back ∈ gW := List.mem_filter.mpr ⟨List.mem_of_getElem? (i := 1104) (by decide +kernel), by decide +kernel⟩
theorem wd_1034 : Cond.code yX11_back cX11_back 1 (some (.int)) ∈ gW := List.mem_filter.mpr ⟨List.mem_of_getElem? (i := 1105) (by decide +kernel), by decide +kernel⟩
theorem wd_1035 : Cond.methodLink R_law 56 yX11_read ∈ gW := List.mem_filter.mpr ⟨List.mem_of_getElem? (i := 1106) (by decide +kernel), by decide +kernel⟩
theorem wd_1036 : Cond.instanceMethod yX11_read ∈ gW := List.mem_filter.mpr ⟨List.mem_of_getElem? (i := 1107) (by decide +kernel), by decide +kernel⟩
theorem wd_1037 : Cond.selects RX11 yX11_read yX11_read ∈ gW := List.mem_filter.mpr ⟨List.mem_of_getElem? (i := 1108) (by decide +kernel), by decide +kernel⟩
theorem wd_1038 : Cond.code yX11_read cX11_read 5 (some (.int)) ∈ gW := List.mem_filter.mpr ⟨List.mem_of_getElem? (i := 1109) (by decide +kernel), by decide +kernel⟩
theorem wd_1039 : Cond.methodLink RX11 170 yX11_event ∈ gW := List.mem_filter.mpr ⟨List.mem_of_getElem? (i := 1110) (by decide +kernel), by decide +kernel⟩
theorem wd_1040 : Cond.methodLink R_law 60 yX11_at ∈ gW := List.mem_filter.mpr ⟨List.mem_of_getElem? (i := 1111) (by decide +kernel), by decide +kernel⟩
theorem wd_1041 : Cond.instanceMethod yX11_at ∈ gW := List.mem_filter.mpr ⟨List.mem_of_getElem? (i := 1112) (by decide +kernel), by decide +kernel⟩
theorem wd_1042 : Cond.selects RX11 yX11_at yX11_at ∈ gW := List.mem_filter.mpr ⟨List.mem_of_getElem? (i := 1113) (by decide +kernel), by decide +kernel⟩
theorem wd_1043 : Cond.code yX11_at cX11_at 4 (some (.int)) ∈ gW := List.mem_filter.mpr ⟨List.mem_of_getElem? (i := 1114) (by decide +kernel), by decide +kernel⟩
theorem wd_1044 : Cond.methodLink RX11 217 yX11_find ∈ gW := List.mem_filter.mpr ⟨List.mem_of_getElem? (i := 1115) (by decide +kernel), by decide +kernel⟩
theorem wd_1046 : Cond.instanceMethod yX11_find ∈ gW := List.mem_filter.mpr ⟨List.mem_of_getElem? (i := 1117) (by decide +kernel), by decide +kernel⟩
theorem wd_1047 : Cond.code yX11_find cX11_find 1 none ∈ gW := List.mem_filter.mpr ⟨List.mem_of_getElem? (i := 1118) (by decide +kernel), by decide +kernel⟩
theorem wd_1048 : Cond.methodLink RX11 214 yX11_lives ∈ gW := List.mem_filter.mpr ⟨List.mem_of_getElem? (i := 1119) (by decide +kernel), by decide +kernel⟩
theorem wd_1050 : Cond.instanceMethod yX11_lives ∈ gW := List.mem_filter.mpr ⟨List.mem_of_getElem? (i := 1121) (by decide +kernel), by decide +kernel⟩
theorem wd_1051 : Cond.code yX11_lives cX11_lives 1 none ∈ gW := List.mem_filter.mpr ⟨List.mem_of_getElem? (i := 1122) (by decide +kernel), by decide +kernel⟩
theorem wd_1052 : Cond.methodLink RX11 208 yX11_grows ∈ gW := List.mem_filter.mpr ⟨List.mem_of_getElem? (i := 1123) (by decide +kernel), by decide +kernel⟩
theorem wd_1054 : Cond.instanceMethod yX11_grows ∈ gW := List.mem_filter.mpr ⟨List.mem_of_getElem? (i := 1125) (by decide +kernel), by decide +kernel⟩
theorem wd_1055 : Cond.code yX11_grows cX11_grows 4 none ∈ gW := List.mem_filter.mpr ⟨List.mem_of_getElem? (i := 1126) (by decide +kernel), by decide +kernel⟩
theorem wd_1056 : Cond.methodLink RX11 193 yX11_stateOf ∈ gW := List.mem_filter.mpr ⟨List.mem_of_getElem? (i := 1127) (by decide +kernel), by decide +kernel⟩
theorem wd_1058 : Cond.instanceMethod yX11_stateOf ∈ gW := List.mem_filter.mpr ⟨List.mem_of_getElem? (i := 1129) (by decide +kernel), by decide +kernel⟩
theorem wd_1059 : Cond.code yX11_stateOf cX11_stateOf 3 (some (.int)) ∈ gW := List.mem_filter.mpr ⟨List.mem_of_getElem? (i := 1130) (by decide +kernel), by decide +kernel⟩
theorem wd_1060 : Cond.methodLink RX11 186 yX11_isOn ∈ gW := List.mem_filter.mpr ⟨List.mem_of_getElem? (i := 1131) (by decide +kernel), by decide +kernel⟩
theorem wd_1062 : Cond.instanceMethod yX11_isOn ∈ gW := List.mem_filter.mpr ⟨List.mem_of_getElem? (i := 1133) (by decide +kernel), by decide +kernel⟩
theorem wd_1063 : Cond.code yX11_isOn cX11_isOn 8 (some (.boolean)) ∈ gW := List.mem_filter.mpr ⟨List.mem_of_getElem? (i := 1134) (by decide +kernel), by decide +kernel⟩
theorem wd_1064 : Cond.methodLink RX11 179 yX11_isIn ∈ gW := List.mem_filter.mpr ⟨List.mem_of_getElem? (i := 1135) (by decide +kernel), by decide +kernel⟩
theorem wd_1065 : Cond.static yX11_isIn ∈ gW := List.mem_filter.mpr ⟨List.mem_of_getElem? (i := 1136) (by decide +kernel), by decide +kernel⟩
theorem wd_1066 : Cond.code yX11_isIn cX11_isIn 2 (some (.boolean)) ∈ gW := List.mem_filter.mpr ⟨List.mem_of_getElem? (i := 1137) (by decide +kernel), by decide +kernel⟩
theorem wd_1067 : Cond.methodLink RX11 183 yX11_lasts ∈ gW := List.mem_filter.mpr ⟨List.mem_of_getElem? (i := 1138) (by decide +kernel), by decide +kernel⟩
theorem wd_1068 : Cond.static yX11_lasts ∈ gW := List.mem_filter.mpr ⟨List.mem_of_getElem? (i := 1139) (by decide +kernel), by decide +kernel⟩
theorem wd_1069 : Cond.code yX11_lasts cX11_lasts 2 (some (.int)) ∈ gW := List.mem_filter.mpr ⟨List.mem_of_getElem? (i := 1140) (by decide +kernel), by decide +kernel⟩
theorem wd_1070 : Cond.methodLink RX11 190 yX11_isSeason ∈ gW := List.mem_filter.mpr ⟨List.mem_of_getElem? (i := 1141) (by decide +kernel), by decide +kernel⟩
theorem wd_1072 : Cond.instanceMethod yX11_isSeason ∈ gW := List.mem_filter.mpr ⟨List.mem_of_getElem? (i := 1143) (by decide +kernel), by decide +kernel⟩
theorem wd_1073 : Cond.code yX11_isSeason cX11_isSeason 4 (some (.boolean)) ∈ gW := List.mem_filter.mpr ⟨List.mem_of_getElem? (i := 1144) (by decide +kernel), by decide +kernel⟩
theorem wd_1074 : Cond.methodLink RX11 196 yX11_isSeeming ∈ gW := List.mem_filter.mpr ⟨List.mem_of_getElem? (i := 1145) (by decide +kernel), by decide +kernel⟩
theorem wd_1076 : Cond.instanceMethod yX11_isSeeming ∈ gW := List.mem_filter.mpr ⟨List.mem_of_getElem? (i := 1147) (by decide +kernel), by decide +kernel⟩
theorem wd_1077 : Cond.code yX11_isSeeming cX11_isSeeming 3 (some (.boolean)) ∈ gW := List.mem_filter.mpr ⟨List.mem_of_getElem? (i := 1148) (by decide +kernel), by decide +kernel⟩
theorem wd_1078 : Cond.methodLink RX11 211 yX11_believes ∈ gW := List.mem_filter.mpr ⟨List.mem_of_getElem? (i := 1149) (by decide +kernel), by decide +kernel⟩
theorem wd_1080 : Cond.instanceMethod yX11_believes ∈ gW := List.mem_filter.mpr ⟨List.mem_of_getElem? (i := 1151) (by decide +kernel), by decide +kernel⟩
theorem wd_1081 : Cond.code yX11_believes cX11_believes 5 none ∈ gW := List.mem_filter.mpr ⟨List.mem_of_getElem? (i := 1152) (by decide +kernel), by decide +kernel⟩
theorem wd_1082 : Cond.methodLink RX11 199 yX11_kept ∈ gW := List.mem_filter.mpr ⟨List.mem_of_getElem? (i := 1153) (by decide +kernel), by decide +kernel⟩
theorem wd_1083 : Cond.static yX11_kept ∈ gW := List.mem_filter.mpr ⟨List.mem_of_getElem? (i := 1154) (by decide +kernel), by decide +kernel⟩
theorem wd_1084 : Cond.code yX11_kept cX11_kept 1 (some (.int)) ∈ gW := List.mem_filter.mpr ⟨List.mem_of_getElem? (i := 1155) (by decide +kernel), by decide +kernel⟩
theorem wd_1085 : Cond.methodLink RX11 202 yX11_looked ∈ gW := List.mem_filter.mpr ⟨List.mem_of_getElem? (i := 1156) (by decide +kernel), by decide +kernel⟩
theorem wd_1087 : Cond.instanceMethod yX11_looked ∈ gW := List.mem_filter.mpr ⟨List.mem_of_getElem? (i := 1158) (by decide +kernel), by decide +kernel⟩
theorem wd_1088 : Cond.code yX11_looked cX11_looked 4 (some (.int)) ∈ gW := List.mem_filter.mpr ⟨List.mem_of_getElem? (i := 1159) (by decide +kernel), by decide +kernel⟩
theorem wd_1089 : Cond.methodLink RX11 220 yX11_atBy ∈ gW := List.mem_filter.mpr ⟨List.mem_of_getElem? (i := 1160) (by decide +kernel), by decide +kernel⟩
theorem wd_1091 : Cond.instanceMethod yX11_atBy ∈ gW := List.mem_filter.mpr ⟨List.mem_of_getElem? (i := 1162) (by decide +kernel), by decide +kernel⟩
theorem wd_1092 : Cond.code yX11_atBy cX11_atBy 4 (some (.int)) ∈ gW := List.mem_filter.mpr ⟨List.mem_of_getElem? (i := 1163) (by decide +kernel), by decide +kernel⟩
theorem wd_1093 : Cond.methodLink R_law 64 yX11_hill ∈ gW := List.mem_filter.mpr ⟨List.mem_of_getElem? (i := 1164) (by decide +kernel), by decide +kernel⟩
theorem wd_1094 : Cond.instanceMethod yX11_hill ∈ gW := List.mem_filter.mpr ⟨List.mem_of_getElem? (i := 1165) (by decide +kernel), by decide +kernel⟩
theorem wd_1095 : Cond.selects RX11 yX11_hill yX11_hill ∈ gW := List.mem_filter.mpr ⟨List.mem_of_getElem? (i := 1166) (by decide +kernel), by decide +kernel⟩
theorem wd_1096 : Cond.code yX11_hill cX11_hill 3 (some (.int)) ∈ gW := List.mem_filter.mpr ⟨List.mem_of_getElem? (i := 1167) (by decide +kernel), by decide +kernel⟩
theorem wd_1097 : Cond.methodLink RX11 223 yX11_hillBy ∈ gW := List.mem_filter.mpr ⟨List.mem_of_getElem? (i := 1168) (by decide +kernel), by decide +kernel⟩
theorem wd_1099 : Cond.instanceMethod yX11_hillBy ∈ gW := List.mem_filter.mpr ⟨List.mem_of_getElem? (i := 1170) (by decide +kernel), by decide +kernel⟩
theorem wd_1100 : Cond.code yX11_hillBy cX11_hillBy 3 (some (.int)) ∈ gW := List.mem_filter.mpr ⟨List.mem_of_getElem? (i := 1171) (by decide +kernel), by decide +kernel⟩
theorem wd_1101 : Cond.methodLink R_law 68 yX11_bare ∈ gW := List.mem_filter.mpr ⟨List.mem_of_getElem? (i := 1172) (by decide +kernel), by decide +kernel⟩
theorem wd_1102 : Cond.instanceMethod yX11_bare ∈ gW := List.mem_filter.mpr ⟨List.mem_of_getElem? (i := 1173) (by decide +kernel), by decide +kernel⟩
theorem wd_1103 : Cond.selects RX11 yX11_bare yX11_bare ∈ gW := List.mem_filter.mpr ⟨List.mem_of_getElem? (i := 1174) (by decide +kernel), by decide +kernel⟩
theorem wd_1104 : Cond.code yX11_bare cX11_bare 1 (some (.int)) ∈ gW := List.mem_filter.mpr ⟨List.mem_of_getElem? (i := 1175) (by decide +kernel), by decide +kernel⟩
theorem wd_1105 : Cond.methodLink RX11 226 yX11_bareNow ∈ gW := List.mem_filter.mpr ⟨List.mem_of_getElem? (i := 1176) (by decide +kernel), by decide +kernel⟩
theorem wd_1107 : Cond.instanceMethod yX11_bareNow ∈ gW := List.mem_filter.mpr ⟨List.mem_of_getElem? (i := 1178) (by decide +kernel), by decide +kernel⟩
theorem wd_1108 : Cond.code yX11_bareNow cX11_bareNow 3 (some (.int)) ∈ gW := List.mem_filter.mpr ⟨List.mem_of_getElem? (i := 1179) (by decide +kernel), by decide +kernel⟩
theorem wd_1109 : Cond.methodLink R_law 72 yX11_run ∈ gW := List.mem_filter.mpr ⟨List.mem_of_getElem? (i := 1180) (by decide +kernel), by decide +kernel⟩
theorem wd_1110 : Cond.instanceMethod yX11_run ∈ gW := List.mem_filter.mpr ⟨List.mem_of_getElem? (i := 1181) (by decide +kernel), by decide +kernel⟩
theorem wd_1111 : Cond.selects RX11 yX11_run yX11_run ∈ gW := List.mem_filter.mpr ⟨List.mem_of_getElem? (i := 1182) (by decide +kernel), by decide +kernel⟩
theorem wd_1112 : Cond.code yX11_run cX11_run 1 (some (.int)) ∈ gW := List.mem_filter.mpr ⟨List.mem_of_getElem? (i := 1183) (by decide +kernel), by decide +kernel⟩
theorem wd_1113 : Cond.methodLink RX11 229 yX11_runNow ∈ gW := List.mem_filter.mpr ⟨List.mem_of_getElem? (i := 1184) (by decide +kernel), by decide +kernel⟩
theorem wd_1115 : Cond.instanceMethod yX11_runNow ∈ gW := List.mem_filter.mpr ⟨List.mem_of_getElem? (i := 1186) (by decide +kernel), by decide +kernel⟩
theorem wd_1116 : Cond.code yX11_runNow cX11_runNow 3 (some (.int)) ∈ gW := List.mem_filter.mpr ⟨List.mem_of_getElem? (i := 1187) (by decide +kernel), by decide +kernel⟩
theorem wd_1117 : Cond.methodLink R_law 76 yX11_fake ∈ gW := List.mem_filter.mpr ⟨List.mem_of_getElem? (i := 1188) (by decide +kernel), by decide +kernel⟩
theorem wd_1118 : Cond.instanceMethod yX11_fake ∈ gW := List.mem_filter.mpr ⟨List.mem_of_getElem? (i := 1189) (by decide +kernel), by decide +kernel⟩
theorem wd_1119 : Cond.selects RX11 yX11_fake yX11_fake ∈ gW := List.mem_filter.mpr ⟨List.mem_of_getElem? (i := 1190) (by decide +kernel), by decide +kernel⟩
theorem wd_1120 : Cond.code yX11_fake cX11_fake 1 (some (.int)) ∈ gW := List.mem_filter.mpr ⟨List.mem_of_getElem? (i := 1191) (by decide +kernel), by decide +kernel⟩
theorem wd_1121 : Cond.methodLink RX11 232 yX11_fakeNow ∈ gW := List.mem_filter.mpr ⟨List.mem_of_getElem? (i := 1192) (by decide +kernel), by decide +kernel⟩
theorem wd_1123 : Cond.instanceMethod yX11_fakeNow ∈ gW := List.mem_filter.mpr ⟨List.mem_of_getElem? (i := 1194) (by decide +kernel), by decide +kernel⟩
theorem wd_1124 : Cond.code yX11_fakeNow cX11_fakeNow 5 (some (.int)) ∈ gW := List.mem_filter.mpr ⟨List.mem_of_getElem? (i := 1195) (by decide +kernel), by decide +kernel⟩
theorem wd_1125 : Cond.methodLink R_law 80 yX11_last ∈ gW := List.mem_filter.mpr ⟨List.mem_of_getElem? (i := 1196) (by decide +kernel), by decide +kernel⟩
theorem wd_1126 : Cond.instanceMethod yX11_last ∈ gW := List.mem_filter.mpr ⟨List.mem_of_getElem? (i := 1197) (by decide +kernel), by decide +kernel⟩
theorem wd_1127 : Cond.selects RX11 yX11_last yX11_last ∈ gW := List.mem_filter.mpr ⟨List.mem_of_getElem? (i := 1198) (by decide +kernel), by decide +kernel⟩
theorem wd_1128 : Cond.code yX11_last cX11_last 2 (some (.int)) ∈ gW := List.mem_filter.mpr ⟨List.mem_of_getElem? (i := 1199) (by decide +kernel), by decide +kernel⟩
theorem wd_1129 : Cond.methodLink RX11 238 yX11_lastBy ∈ gW := List.mem_filter.mpr ⟨List.mem_of_getElem? (i := 1200) (by decide +kernel), by decide +kernel⟩
theorem wd_1131 : Cond.instanceMethod yX11_lastBy ∈ gW := List.mem_filter.mpr ⟨List.mem_of_getElem? (i := 1202) (by decide +kernel), by decide +kernel⟩
theorem wd_1132 : Cond.code yX11_lastBy cX11_lastBy 7 (some (.int)) ∈ gW := List.mem_filter.mpr ⟨List.mem_of_getElem? (i := 1203) (by decide +kernel), by decide +kernel⟩
theorem wd_1133 : Cond.methodLink RX11 235 yX11_greater ∈ gW := List.mem_filter.mpr ⟨List.mem_of_getElem? (i := 1204) (by decide +kernel), by decide +kernel⟩
theorem wd_1134 : Cond.static yX11_greater ∈ gW := List.mem_filter.mpr ⟨List.mem_of_getElem? (i := 1205) (by decide +kernel), by decide +kernel⟩
theorem wd_1135 : Cond.code yX11_greater cX11_greater 2 (some (.int)) ∈ gW := List.mem_filter.mpr ⟨List.mem_of_getElem? (i := 1206) (by decide +kernel), by decide +kernel⟩
theorem wd_1136 : Cond.methodLink R_law 84 yX11_plant ∈ gW := List.mem_filter.mpr ⟨List.mem_of_getElem? (i := 1207) (by decide +kernel), by decide +kernel⟩
theorem wd_1137 : Cond.instanceMethod yX11_plant ∈ gW := List.mem_filter.mpr ⟨List.mem_of_getElem? (i := 1208) (by decide +kernel), by decide +kernel⟩
theorem wd_1138 : Cond.selects RX11 yX11_plant yX11_plant ∈ gW := List.mem_filter.mpr ⟨List.mem_of_getElem? (i := 1209) (by decide +kernel), by decide +kernel⟩
theorem wd_1139 : Cond.code yX11_plant cX11_plant 2 (some (.int)) ∈ gW := List.mem_filter.mpr ⟨List.mem_of_getElem? (i := 1210) (by decide +kernel), by decide +kernel⟩
theorem wd_1140 : Cond.methodLink RX11 247 yX11_plantBy ∈ gW := List.mem_filter.mpr ⟨List.mem_of_getElem? (i := 1211) (by decide +kernel), by decide +kernel⟩
theorem wd_1142 : Cond.instanceMethod yX11_plantBy ∈ gW := List.mem_filter.mpr ⟨List.mem_of_getElem? (i := 1213) (by decide +kernel), by decide +kernel⟩
theorem wd_1143 : Cond.code yX11_plantBy cX11_plantBy 7 (some (.int)) ∈ gW := List.mem_filter.mpr ⟨List.mem_of_getElem? (i := 1214) (by decide +kernel), by decide +kernel⟩
theorem wd_1144 : Cond.methodLink RX11 241 yX11_ones ∈ gW := List.mem_filter.mpr ⟨List.mem_of_getElem? (i := 1215) (by decide +kernel), by decide +kernel⟩
theorem wd_1145 : Cond.static yX11_ones ∈ gW := List.mem_filter.mpr ⟨List.mem_of_getElem? (i := 1216) (by decide +kernel), by decide +kernel⟩
theorem wd_1146 : Cond.code yX11_ones cX11_ones 3 (some (.int)) ∈ gW := List.mem_filter.mpr ⟨List.mem_of_getElem? (i := 1217) (by decide +kernel), by decide +kernel⟩
theorem wd_1147 : Cond.methodLink RX11 244 yX11_lesser ∈ gW := List.mem_filter.mpr ⟨List.mem_of_getElem? (i := 1218) (by decide +kernel), by decide +kernel⟩
theorem wd_1148 : Cond.static yX11_lesser ∈ gW := List.mem_filter.mpr ⟨List.mem_of_getElem? (i := 1219) (by decide +kernel), by decide +kernel⟩
theorem wd_1149 : Cond.code yX11_lesser cX11_lesser 2 (some (.int)) ∈ gW := List.mem_filter.mpr ⟨List.mem_of_getElem? (i := 1220) (by decide +kernel), by decide +kernel⟩
theorem wd_1150 : Cond.methodLink R_law 88 yX11_send ∈ gW := List.mem_filter.mpr ⟨List.mem_of_getElem? (i := 1221) (by decide +kernel), by decide +kernel⟩
theorem wd_1151 : Cond.instanceMethod yX11_send ∈ gW := List.mem_filter.mpr ⟨List.mem_of_getElem? (i := 1222) (by decide +kernel), by decide +kernel⟩
theorem wd_1152 : Cond.selects RX11 yX11_send yX11_send ∈ gW := List.mem_filter.mpr ⟨List.mem_of_getElem? (i := 1223) (by decide +kernel), by decide +kernel⟩
theorem wd_1153 : Cond.code yX11_send cX11_send 2 (some (.int)) ∈ gW := List.mem_filter.mpr ⟨List.mem_of_getElem? (i := 1224) (by decide +kernel), by decide +kernel⟩
theorem wd_1154 : Cond.methodLink RX11 250 yX11_sendBy ∈ gW := List.mem_filter.mpr ⟨List.mem_of_getElem? (i := 1225) (by decide +kernel), by decide +kernel⟩
theorem wd_1156 : Cond.instanceMethod yX11_sendBy ∈ gW := List.mem_filter.mpr ⟨List.mem_of_getElem? (i := 1227) (by decide +kernel), by decide +kernel⟩
theorem wd_1157 : Cond.code yX11_sendBy cX11_sendBy 6 (some (.int)) ∈ gW := List.mem_filter.mpr ⟨List.mem_of_getElem? (i := 1228) (by decide +kernel), by decide +kernel⟩
theorem wd_1158 : Cond.methodLink R_law 92 yX11_save ∈ gW := List.mem_filter.mpr ⟨List.mem_of_getElem? (i := 1229) (by decide +kernel), by decide +kernel⟩
theorem wd_1159 : Cond.instanceMethod yX11_save ∈ gW := List.mem_filter.mpr ⟨List.mem_of_getElem? (i := 1230) (by decide +kernel), by decide +kernel⟩
theorem wd_1160 : Cond.selects RX11 yX11_save yX11_save ∈ gW := List.mem_filter.mpr ⟨List.mem_of_getElem? (i := 1231) (by decide +kernel), by decide +kernel⟩
theorem wd_1161 : Cond.code yX11_save cX11_save 2 (some (.int)) ∈ gW := List.mem_filter.mpr ⟨List.mem_of_getElem? (i := 1232) (by decide +kernel), by decide +kernel⟩
theorem wd_1162 : Cond.constantLong RX11 256 (-1) ∈ gW := List.mem_filter.mpr ⟨List.mem_of_getElem? (i := 1233) (by decide +kernel), by decide +kernel⟩
theorem wd_1163 : Cond.methodLink RX11 258 yX11_saveOf ∈ gW := List.mem_filter.mpr ⟨List.mem_of_getElem? (i := 1234) (by decide +kernel), by decide +kernel⟩
theorem wd_1165 : Cond.instanceMethod yX11_saveOf ∈ gW := List.mem_filter.mpr ⟨List.mem_of_getElem? (i := 1236) (by decide +kernel), by decide +kernel⟩
theorem wd_1166 : Cond.code yX11_saveOf cX11_saveOf 4 (some (.int)) ∈ gW := List.mem_filter.mpr ⟨List.mem_of_getElem? (i := 1237) (by decide +kernel), by decide +kernel⟩
theorem wd_1167 : Cond.methodLink RX11 253 yX11_isSaved ∈ gW := List.mem_filter.mpr ⟨List.mem_of_getElem? (i := 1238) (by decide +kernel), by decide +kernel⟩
theorem wd_1169 : Cond.instanceMethod yX11_isSaved ∈ gW := List.mem_filter.mpr ⟨List.mem_of_getElem? (i := 1240) (by decide +kernel), by decide +kernel⟩
theorem wd_1170 : Cond.code yX11_isSaved cX11_isSaved 2 (some (.boolean)) ∈ gW := List.mem_filter.mpr ⟨List.mem_of_getElem? (i := 1241) (by decide +kernel), by decide +kernel⟩
theorem wd_1171 : Cond.methodLink R_law 96 yX11_deal ∈ gW := List.mem_filter.mpr ⟨List.mem_of_getElem? (i := 1242) (by decide +kernel), by decide +kernel⟩
theorem wd_1172 : Cond.instanceMethod yX11_deal ∈ gW := List.mem_filter.mpr ⟨List.mem_of_getElem? (i := 1243) (by decide +kernel), by decide +kernel⟩
theorem wd_1173 : Cond.selects RX11 yX11_deal yX11_deal ∈ gW := List.mem_filter.mpr ⟨List.mem_of_getElem? (i := 1244) (by decide +kernel), by decide +kernel⟩
theorem wd_1174 : Cond.code yX11_deal cX11_deal 2 (some (.int)) ∈ gW := List.mem_filter.mpr ⟨List.mem_of_getElem? (i := 1245) (by decide +kernel), by decide +kernel⟩
theorem wd_1175 : Cond.methodLink RX11 261 yX11_dealBy ∈ gW := List.mem_filter.mpr ⟨List.mem_of_getElem? (i := 1246) (by decide +kernel), by decide +kernel⟩
theorem wd_1177 : Cond.instanceMethod yX11_dealBy ∈ gW := List.mem_filter.mpr ⟨List.mem_of_getElem? (i := 1248) (by decide +kernel), by decide +kernel⟩
theorem wd_1178 : Cond.code yX11_dealBy cX11_dealBy 7 (some (.int)) ∈ gW := List.mem_filter.mpr ⟨List.mem_of_getElem? (i := 1249) (by decide +kernel), by decide +kernel⟩
theorem wd_1179 : Cond.methodLink R_law 100 yX11_seen ∈ gW := List.mem_filter.mpr ⟨List.mem_of_getElem? (i := 1250) (by decide +kernel), by decide +kernel⟩
theorem wd_1180 : Cond.instanceMethod yX11_seen ∈ gW := List.mem_filter.mpr ⟨List.mem_of_getElem? (i := 1251) (by decide +kernel), by decide +kernel⟩
theorem wd_1181 : Cond.selects RX11 yX11_seen yX11_seen ∈ gW := List.mem_filter.mpr ⟨List.mem_of_getElem? (i := 1252) (by decide +kernel), by decide +kernel⟩
theorem wd_1182 : Cond.code yX11_seen cX11_seen 4 (some (.int)) ∈ gW := List.mem_filter.mpr ⟨List.mem_of_getElem? (i := 1253) (by decide +kernel), by decide +kernel⟩
theorem wd_1183 : Cond.constantLong RX11 264 4 ∈ gW := List.mem_filter.mpr ⟨List.mem_of_getElem? (i := 1254) (by decide +kernel), by decide +kernel⟩
theorem wd_1184 : Cond.methodLink R_law 104 yX11_forget ∈ gW := List.mem_filter.mpr ⟨List.mem_of_getElem? (i := 1255) (by decide +kernel), by decide +kernel⟩
theorem wd_1185 : Cond.instanceMethod yX11_forget ∈ gW := List.mem_filter.mpr ⟨List.mem_of_getElem? (i := 1256) (by decide +kernel), by decide +kernel⟩
theorem wd_1186 : Cond.selects RX11 yX11_forget yX11_forget ∈ gW := List.mem_filter.mpr ⟨List.mem_of_getElem? (i := 1257) (by decide +kernel), by decide +kernel⟩
theorem wd_1187 : Cond.code yX11_forget cX11_forget 2 (some (.int)) ∈ gW := List.mem_filter.mpr ⟨List.mem_of_getElem? (i := 1258) (by decide +kernel), by decide +kernel⟩
theorem wd_1188 : Cond.methodLink R_law 108 yX11_never ∈ gW := List.mem_filter.mpr ⟨List.mem_of_getElem? (i := 1259) (by decide +kernel), by decide +kernel⟩
theorem wd_1189 : Cond.instanceMethod yX11_never ∈ gW := List.mem_filter.mpr ⟨List.mem_of_getElem? (i := 1260) (by decide +kernel), by decide +kernel⟩
theorem wd_1190 : Cond.selects RX11 yX11_never yX11_never ∈ gW := List.mem_filter.mpr ⟨List.mem_of_getElem? (i := 1261) (by decide +kernel), by decide +kernel⟩
theorem wd_1191 : Cond.code yX11_never cX11_never 1 (some (.int)) ∈ gW := List.mem_filter.mpr ⟨List.mem_of_getElem? (i := 1262) (by decide +kernel), by decide +kernel⟩
theorem wd_1192 : Cond.methodLink RX11 273 yX11_neverNow ∈ gW := List.mem_filter.mpr ⟨List.mem_of_getElem? (i := 1263) (by decide +kernel), by decide +kernel⟩
theorem wd_1194 : Cond.instanceMethod yX11_neverNow ∈ gW := List.mem_filter.mpr ⟨List.mem_of_getElem? (i := 1265) (by decide +kernel), by decide +kernel⟩
theorem wd_1195 : Cond.code yX11_neverNow cX11_neverNow 3 (some (.int)) ∈ gW := List.mem_filter.mpr ⟨List.mem_of_getElem? (i := 1266) (by decide +kernel), by decide +kernel⟩
theorem wd_1196 : Cond.methodLink RX11 269 yX11_isSeen ∈ gW := List.mem_filter.mpr ⟨List.mem_of_getElem? (i := 1267) (by decide +kernel), by decide +kernel⟩
theorem wd_1198 : Cond.instanceMethod yX11_isSeen ∈ gW := List.mem_filter.mpr ⟨List.mem_of_getElem? (i := 1269) (by decide +kernel), by decide +kernel⟩
theorem wd_1199 : Cond.code yX11_isSeen cX11_isSeen 4 (some (.boolean)) ∈ gW := List.mem_filter.mpr ⟨List.mem_of_getElem? (i := 1270) (by decide +kernel), by decide +kernel⟩
theorem wd_1200 : Cond.methodLink R_law 112 yX11_was ∈ gW := List.mem_filter.mpr ⟨List.mem_of_getElem? (i := 1271) (by decide +kernel), by decide +kernel⟩
theorem wd_1201 : Cond.instanceMethod yX11_was ∈ gW := List.mem_filter.mpr ⟨List.mem_of_getElem? (i := 1272) (by decide +kernel), by decide +kernel⟩
theorem wd_1202 : Cond.selects RX11 yX11_was yX11_was ∈ gW := List.mem_filter.mpr ⟨List.mem_of_getElem? (i := 1273) (by decide +kernel), by decide +kernel⟩
theorem wd_1203 : Cond.code yX11_was cX11_was 3 (some (.int)) ∈ gW := List.mem_filter.mpr ⟨List.mem_of_getElem? (i := 1274) (by decide +kernel), by decide +kernel⟩
theorem wd_1204 : Cond.methodLink RX11 282 yX11_wasOf ∈ gW := List.mem_filter.mpr ⟨List.mem_of_getElem? (i := 1275) (by decide +kernel), by decide +kernel⟩
theorem wd_1206 : Cond.instanceMethod yX11_wasOf ∈ gW := List.mem_filter.mpr ⟨List.mem_of_getElem? (i := 1277) (by decide +kernel), by decide +kernel⟩
theorem wd_1207 : Cond.code yX11_wasOf cX11_wasOf 3 (some (.int)) ∈ gW := List.mem_filter.mpr ⟨List.mem_of_getElem? (i := 1278) (by decide +kernel), by decide +kernel⟩
theorem wd_1208 : Cond.methodLink RX11 276 yX11_beganOf ∈ gW := List.mem_filter.mpr ⟨List.mem_of_getElem? (i := 1279) (by decide +kernel), by decide +kernel⟩
theorem wd_1210 : Cond.instanceMethod yX11_beganOf ∈ gW := List.mem_filter.mpr ⟨List.mem_of_getElem? (i := 1281) (by decide +kernel), by decide +kernel⟩
theorem wd_1211 : Cond.code yX11_beganOf cX11_beganOf 5 (some (.int)) ∈ gW := List.mem_filter.mpr ⟨List.mem_of_getElem? (i := 1282) (by decide +kernel), by decide +kernel⟩
theorem wd_1212 : Cond.methodLink RX11 279 yX11_sortOf ∈ gW := List.mem_filter.mpr ⟨List.mem_of_getElem? (i := 1283) (by decide +kernel), by decide +kernel⟩
theorem wd_1214 : Cond.instanceMethod yX11_sortOf ∈ gW := List.mem_filter.mpr ⟨List.mem_of_getElem? (i := 1285) (by decide +kernel), by decide +kernel⟩
theorem wd_1215 : Cond.code yX11_sortOf cX11_sortOf 5 (some (.int)) ∈ gW := List.mem_filter.mpr ⟨List.mem_of_getElem? (i := 1286) (by decide +kernel), by decide +kernel⟩
theorem wd_1216 : Cond.methodLink R_law 116 yX11_ask ∈ gW := List.mem_filter.mpr ⟨List.mem_of_getElem? (i := 1287) (by decide +kernel), by decide +kernel⟩
theorem wd_1217 : Cond.instanceMethod yX11_ask ∈ gW := List.mem_filter.mpr ⟨List.mem_of_getElem? (i := 1288) (by decide +kernel), by decide +kernel⟩
theorem wd_1218 : Cond.selects RX11 yX11_ask yX11_ask ∈ gW := List.mem_filter.mpr ⟨List.mem_of_getElem? (i := 1289) (by decide +kernel), by decide +kernel⟩
theorem wd_1219 : Cond.code yX11_ask cX11_ask 2 (some (.int)) ∈ gW := List.mem_filter.mpr ⟨List.mem_of_getElem? (i := 1290) (by decide +kernel), by decide +kernel⟩
theorem wd_1220 : Cond.methodLink RX11 285 yX11_askOf ∈ gW := List.mem_filter.mpr ⟨List.mem_of_getElem? (i := 1291) (by decide +kernel), by decide +kernel⟩
theorem wd_1222 : Cond.instanceMethod yX11_askOf ∈ gW := List.mem_filter.mpr ⟨List.mem_of_getElem? (i := 1293) (by decide +kernel), by decide +kernel⟩
theorem wd_1223 : Cond.code yX11_askOf cX11_askOf 9 (some (.int)) ∈ gW := List.mem_filter.mpr ⟨List.mem_of_getElem? (i := 1294) (by decide +kernel), by decide +kernel⟩
theorem wd_1224 : Cond.methodLink R_law 121 yX11_luck ∈ gW := List.mem_filter.mpr ⟨List.mem_of_getElem? (i := 1295) (by decide +kernel), by decide +kernel⟩
theorem wd_1225 : Cond.instanceMethod yX11_luck ∈ gW := List.mem_filter.mpr ⟨List.mem_of_getElem? (i := 1296) (by decide +kernel), by decide +kernel⟩
theorem wd_1226 : Cond.selects RX11 yX11_luck yX11_luck ∈ gW := List.mem_filter.mpr ⟨List.mem_of_getElem? (i := 1297) (by decide +kernel), by decide +kernel⟩
theorem wd_1227 : Cond.code yX11_luck cX11_luck 4 (some (.long)) ∈ gW := List.mem_filter.mpr ⟨List.mem_of_getElem? (i := 1298) (by decide +kernel), by decide +kernel⟩
theorem wd_1228 : Cond.constantLong RX11 292 16 ∈ gW := List.mem_filter.mpr ⟨List.mem_of_getElem? (i := 1299) (by decide +kernel), by decide +kernel⟩
theorem wd_1229 : Cond.methodLink RX11 294 yX11_luckOf ∈ gW := List.mem_filter.mpr ⟨List.mem_of_getElem? (i := 1300) (by decide +kernel), by decide +kernel⟩
theorem wd_1231 : Cond.instanceMethod yX11_luckOf ∈ gW := List.mem_filter.mpr ⟨List.mem_of_getElem? (i := 1302) (by decide +kernel), by decide +kernel⟩
theorem wd_1232 : Cond.code yX11_luckOf cX11_luckOf 11 (some (.long)) ∈ gW := List.mem_filter.mpr ⟨List.mem_of_getElem? (i := 1303) (by decide +kernel), by decide +kernel⟩
theorem wd_1233 : Cond.methodLink RX11 288 yX11_part ∈ gW := List.mem_filter.mpr ⟨List.mem_of_getElem? (i := 1304) (by decide +kernel), by decide +kernel⟩
theorem wd_1234 : Cond.static yX11_part ∈ gW := List.mem_filter.mpr ⟨List.mem_of_getElem? (i := 1305) (by decide +kernel), by decide +kernel⟩
theorem wd_1235 : Cond.code yX11_part cX11_part 11 (some (.long)) ∈ gW := List.mem_filter.mpr ⟨List.mem_of_getElem? (i := 1306) (by decide +kernel), by decide +kernel⟩
theorem wd_1236 : Cond.methodLink RX11 298 yX11_no ∈ gW := List.mem_filter.mpr ⟨List.mem_of_getElem? (i := 1307) (by decide +kernel), by decide +kernel⟩
theorem wd_1237 : Cond.static yX11_no ∈ gW := List.mem_filter.mpr ⟨List.mem_of_getElem? (i := 1308) (by decide +kernel), by decide +kernel⟩
theorem wd_1238 : Cond.code yX11_no cX11_no 1 (some (.long)) ∈ gW := List.mem_filter.mpr ⟨List.mem_of_getElem? (i := 1309) (by decide +kernel), by decide +kernel⟩
theorem wd_1239 : Cond.constantLong RX11 72 (-9223372036854775808) ∈ gW := List.mem_filter.mpr ⟨List.mem_of_getElem? (i := 1310) (by decide +kernel), by decide +kernel⟩
theorem wd_1240 : Cond.methodLink R_law 125 yX11_century ∈ gW := List.mem_filter.mpr ⟨List.mem_of_getElem? (i := 1311) (by decide +kernel), by decide +kernel⟩
theorem wd_1241 : Cond.instanceMethod yX11_century ∈ gW := List.mem_filter.mpr ⟨List.mem_of_getElem? (i := 1312) (by decide +kernel), by decide +kernel⟩
theorem wd_1242 : Cond.selects RX11 yX11_century yX11_century ∈ gW := List.mem_filter.mpr ⟨List.mem_of_getElem? (i := 1313) (by decide +kernel), by decide +kernel⟩
theorem wd_1243 : Cond.code yX11_century cX11_century 4 (some (.int)) ∈ gW := List.mem_filter.mpr ⟨List.mem_of_getElem? (i := 1314) (by decide +kernel), by decide +kernel⟩
theorem wd_1244 : Cond.constantLong RX11 309 8 ∈ gW := List.mem_filter.mpr ⟨List.mem_of_getElem? (i := 1315) (by decide +kernel), by decide +kernel⟩
theorem wd_1245 : Cond.methodLink RX11 311 yX11_centuryOf ∈ gW := List.mem_filter.mpr ⟨List.mem_of_getElem? (i := 1316) (by decide +kernel), by decide +kernel⟩
theorem wd_1247 : Cond.instanceMethod yX11_centuryOf ∈ gW := List.mem_filter.mpr ⟨List.mem_of_getElem? (i := 1318) (by decide +kernel), by decide +kernel⟩
theorem wd_1248 : Cond.code yX11_centuryOf cX11_centuryOf 8 (some (.int)) ∈ gW := List.mem_filter.mpr ⟨List.mem_of_getElem? (i := 1319) (by decide +kernel), by decide +kernel⟩
theorem wd_1249 : Cond.methodLink RX11 306 yX11_lot ∈ gW := List.mem_filter.mpr ⟨List.mem_of_getElem? (i := 1320) (by decide +kernel), by decide +kernel⟩
theorem wd_1251 : Cond.instanceMethod yX11_lot ∈ gW := List.mem_filter.mpr ⟨List.mem_of_getElem? (i := 1322) (by decide +kernel), by decide +kernel⟩
theorem wd_1252 : Cond.code yX11_lot cX11_lot 2 (some (.int)) ∈ gW := List.mem_filter.mpr ⟨List.mem_of_getElem? (i := 1323) (by decide +kernel), by decide +kernel⟩
theorem wd_1253 : Cond.constant RX11 302 1103515245 ∈ gW := List.mem_filter.mpr ⟨List.mem_of_getElem? (i := 1324) (by decide +kernel), by decide +kernel⟩
theorem wd_1254 : Cond.methodLink R_law 151 yX11_write ∈ gW := List.mem_filter.mpr ⟨List.mem_of_getElem? (i := 1325) (by decide +kernel), by decide +kernel⟩
theorem wd_1255 : Cond.instanceMethod yX11_write ∈ gW := List.mem_filter.mpr ⟨List.mem_of_getElem? (i := 1326) (by decide +kernel), by decide +kernel⟩
theorem wd_1256 : Cond.selects RX11 yX11_write yX11_write ∈ gW := List.mem_filter.mpr ⟨List.mem_of_getElem? (i := 1327) (by decide +kernel), by decide +kernel⟩
theorem wd_1257 : Cond.code yX11_write cX11_write 4 (some (.int)) ∈ gW := List.mem_filter.mpr ⟨List.mem_of_getElem? (i := 1328) (by decide +kernel), by decide +kernel⟩
theorem wd_1258 : Cond.methodLink R_law 155 yX11_count ∈ gW := List.mem_filter.mpr ⟨List.mem_of_getElem? (i := 1329) (by decide +kernel), by decide +kernel⟩
theorem wd_1259 : Cond.instanceMethod yX11_count ∈ gW := List.mem_filter.mpr ⟨List.mem_of_getElem? (i := 1330) (by decide +kernel), by decide +kernel⟩
theorem wd_1260 : Cond.selects RX11 yX11_count yX11_count ∈ gW := List.mem_filter.mpr ⟨List.mem_of_getElem? (i := 1331) (by decide +kernel), by decide +kernel⟩
theorem wd_1261 : Cond.code yX11_count cX11_count 2 (some (.int)) ∈ gW := List.mem_filter.mpr ⟨List.mem_of_getElem? (i := 1332) (by decide +kernel), by decide +kernel⟩
theorem wd_1262 : Cond.methodLink RX11 314 yX11_allYellow ∈ gW := List.mem_filter.mpr ⟨List.mem_of_getElem? (i := 1333) (by decide +kernel), by decide +kernel⟩
theorem wd_1264 : Cond.instanceMethod yX11_allYellow ∈ gW := List.mem_filter.mpr ⟨List.mem_of_getElem? (i := 1335) (by decide +kernel), by decide +kernel⟩
theorem wd_1265 : Cond.code yX11_allYellow cX11_allYellow 3 (some (.int)) ∈ gW := List.mem_filter.mpr ⟨List.mem_of_getElem? (i := 1336) (by decide +kernel), by decide +kernel⟩
theorem wd_1266 : Cond.methodLink R_law 160 yX11_digest ∈ gW := List.mem_filter.mpr ⟨List.mem_of_getElem? (i := 1337) (by decide +kernel), by decide +kernel⟩
theorem wd_1267 : Cond.instanceMethod yX11_digest ∈ gW := List.mem_filter.mpr ⟨List.mem_of_getElem? (i := 1338) (by decide +kernel), by decide +kernel⟩
theorem wd_1268 : Cond.selects RX11 yX11_digest yX11_digest ∈ gW := List.mem_filter.mpr ⟨List.mem_of_getElem? (i := 1339) (by decide +kernel), by decide +kernel⟩
theorem wd_1269 : Cond.code yX11_digest cX11_digest 5 (some (.long)) ∈ gW := List.mem_filter.mpr ⟨List.mem_of_getElem? (i := 1340) (by decide +kernel), by decide +kernel⟩
theorem wd_1270 : Cond.constantLong RX11 323 17 ∈ gW := List.mem_filter.mpr ⟨List.mem_of_getElem? (i := 1341) (by decide +kernel), by decide +kernel⟩
theorem wd_1271 : Cond.constantLong RX11 317 31 ∈ gW := List.mem_filter.mpr ⟨List.mem_of_getElem? (i := 1342) (by decide +kernel), by decide +kernel⟩
theorem wd_1272 : Cond.methodLink RX11 325 yX11_count ∈ gW := List.mem_filter.mpr ⟨List.mem_of_getElem? (i := 1343) (by decide +kernel), by decide +kernel⟩
theorem wd_1273 : Cond.methodLink RX11 328 yX11_tellsBush ∈ gW := List.mem_filter.mpr ⟨List.mem_of_getElem? (i := 1344) (by decide +kernel), by decide +kernel⟩
theorem wd_1275 : Cond.instanceMethod yX11_tellsBush ∈ gW := List.mem_filter.mpr ⟨List.mem_of_getElem? (i := 1346) (by decide +kernel), by decide +kernel⟩
theorem wd_1276 : Cond.code yX11_tellsBush cX11_tellsBush 7 (some (.long)) ∈ gW := List.mem_filter.mpr ⟨List.mem_of_getElem? (i := 1347) (by decide +kernel), by decide +kernel⟩
theorem wd_1277 : Cond.methodLink RX11 319 yX11_tellsMonth ∈ gW := List.mem_filter.mpr ⟨List.mem_of_getElem? (i := 1348) (by decide +kernel), by decide +kernel⟩
theorem wd_1279 : Cond.instanceMethod yX11_tellsMonth ∈ gW := List.mem_filter.mpr ⟨List.mem_of_getElem? (i := 1350) (by decide +kernel), by decide +kernel⟩
theorem wd_1280 : Cond.code yX11_tellsMonth cX11_tellsMonth 8 (some (.long)) ∈ gW := List.mem_filter.mpr ⟨List.mem_of_getElem? (i := 1351) (by decide +kernel), by decide +kernel⟩
theorem ws_0 : Cond.selects RX10 yX10_textOf yX10_textOf ∈ gW := List.mem_filter.mpr ⟨List.mem_of_getElem? (i := 0) (by decide +kernel), by decide +kernel⟩
theorem ws_1 : Cond.selects RX9 yX9_parse yX9_parse ∈ gW := List.mem_filter.mpr ⟨List.mem_of_getElem? (i := 1) (by decide +kernel), by decide +kernel⟩
theorem ws_2 : Cond.selects RX9 yX9_firstFault yX9_firstFault ∈ gW := List.mem_filter.mpr ⟨List.mem_of_getElem? (i := 2) (by decide +kernel), by decide +kernel⟩
theorem ws_3 : Cond.selects RX9 yX9_mayStand yX9_mayStand ∈ gW := List.mem_filter.mpr ⟨List.mem_of_getElem? (i := 3) (by decide +kernel), by decide +kernel⟩
theorem ws_4 : Cond.selects RX10 yX10_finding yX10_finding ∈ gW := List.mem_filter.mpr ⟨List.mem_of_getElem? (i := 4) (by decide +kernel), by decide +kernel⟩
theorem ws_5 : Cond.selects RX6 yX6_countFires yX6_countFires ∈ gW := List.mem_filter.mpr ⟨List.mem_of_getElem? (i := 5) (by decide +kernel), by decide +kernel⟩
theorem ws_6 : Cond.selects RX6 yX6_gatherLooks yX6_gatherLooks ∈ gW := List.mem_filter.mpr ⟨List.mem_of_getElem? (i := 6) (by decide +kernel), by decide +kernel⟩
theorem ws_7 : Cond.selects RX6 yX6_worthOf yX6_worthOf ∈ gW := List.mem_filter.mpr ⟨List.mem_of_getElem? (i := 7) (by decide +kernel), by decide +kernel⟩
theorem ws_8 : Cond.selects RX6 yX6_behind yX6_behind ∈ gW := List.mem_filter.mpr ⟨List.mem_of_getElem? (i := 8) (by decide +kernel), by decide +kernel⟩
theorem ws_9 : Cond.selects RX10 yX10_bareIfPlanted yX10_bareIfPlanted ∈ gW := List.mem_filter.mpr ⟨List.mem_of_getElem? (i := 9) (by decide +kernel), by decide +kernel⟩
theorem ws_10 : Cond.selects RX10 yX10_bestSend yX10_bestSend ∈ gW := List.mem_filter.mpr ⟨List.mem_of_getElem? (i := 10) (by decide +kernel), by decide +kernel⟩
theorem ws_11 : Cond.selects RX10 yX10_fewestToLose yX10_fewestToLose ∈ gW := List.mem_filter.mpr ⟨List.mem_of_getElem? (i := 11) (by decide +kernel), by decide +kernel⟩
theorem ws_12 : Cond.selects RX10 yX10_bestDeal yX10_bestDeal ∈ gW := List.mem_filter.mpr ⟨List.mem_of_getElem? (i := 12) (by decide +kernel), by decide +kernel⟩
theorem ws_13 : Cond.selects RX10 yX10_beginsThatFit yX10_beginsThatFit ∈ gW := List.mem_filter.mpr ⟨List.mem_of_getElem? (i := 13) (by decide +kernel), by decide +kernel⟩
theorem ws_14 : Cond.selects RX10 yX10_kindsThatFit yX10_kindsThatFit ∈ gW := List.mem_filter.mpr ⟨List.mem_of_getElem? (i := 14) (by decide +kernel), by decide +kernel⟩
theorem ws_15 : Cond.selects RX10 yX10_greatestAlike yX10_greatestAlike ∈ gW := List.mem_filter.mpr ⟨List.mem_of_getElem? (i := 15) (by decide +kernel), by decide +kernel⟩
theorem ws_16 : Cond.selects RX10 yX10_bareShares yX10_bareShares ∈ gW := List.mem_filter.mpr ⟨List.mem_of_getElem? (i := 16) (by decide +kernel), by decide +kernel⟩
theorem ws_17 : Cond.selects RX10 yX10_gatherHinderers yX10_gatherHinderers ∈ gW := List.mem_filter.mpr ⟨List.mem_of_getElem? (i := 17) (by decide +kernel), by decide +kernel⟩
theorem ws_18 : Cond.selects RX10 yX10_hindersAll yX10_hindersAll ∈ gW := List.mem_filter.mpr ⟨List.mem_of_getElem? (i := 18) (by decide +kernel), by decide +kernel⟩
theorem ws_19 : Cond.selects RX10 yX10_shareOf yX10_shareOf ∈ gW := List.mem_filter.mpr ⟨List.mem_of_getElem? (i := 19) (by decide +kernel), by decide +kernel⟩
theorem ws_20 : Cond.selects RX10 yX10_drawEvents yX10_drawEvents ∈ gW := List.mem_filter.mpr ⟨List.mem_of_getElem? (i := 20) (by decide +kernel), by decide +kernel⟩
theorem ws_21 : Cond.selects RX8 yX8_narrowed yX8_narrowed ∈ gW := List.mem_filter.mpr ⟨List.mem_of_getElem? (i := 21) (by decide +kernel), by decide +kernel⟩
theorem ws_22 : Cond.selects RX10 yX10_allYellow yX10_allYellow ∈ gW := List.mem_filter.mpr ⟨List.mem_of_getElem? (i := 22) (by decide +kernel), by decide +kernel⟩
theorem ws_23 : Cond.selects RX10 yX10_digestOfCounts yX10_digestOfCounts ∈ gW := List.mem_filter.mpr ⟨List.mem_of_getElem? (i := 23) (by decide +kernel), by decide +kernel⟩
theorem ws_24 : Cond.selects RX10 yX10_digestOfMonths yX10_digestOfMonths ∈ gW := List.mem_filter.mpr ⟨List.mem_of_getElem? (i := 24) (by decide +kernel), by decide +kernel⟩
theorem ws_25 : Cond.selects RX10 yX10_digestOfLooks yX10_digestOfLooks ∈ gW := List.mem_filter.mpr ⟨List.mem_of_getElem? (i := 25) (by decide +kernel), by decide +kernel⟩
theorem ws_26 : Cond.selects RX10 yX10_digestOfBush yX10_digestOfBush ∈ gW := List.mem_filter.mpr ⟨List.mem_of_getElem? (i := 26) (by decide +kernel), by decide +kernel⟩
theorem ws_27 : Cond.selects RX10 yX10_digestOfBushIn yX10_digestOfBushIn ∈ gW := List.mem_filter.mpr ⟨List.mem_of_getElem? (i := 27) (by decide +kernel), by decide +kernel⟩
theorem ws_28 : Cond.selects RX10 yX10_digestOfHill yX10_digestOfHill ∈ gW := List.mem_filter.mpr ⟨List.mem_of_getElem? (i := 28) (by decide +kernel), by decide +kernel⟩
theorem ws_29 : Cond.selects RX10 yX10_digestOfPlans yX10_digestOfPlans ∈ gW := List.mem_filter.mpr ⟨List.mem_of_getElem? (i := 29) (by decide +kernel), by decide +kernel⟩
theorem ws_30 : Cond.selects RX10 yX10_digestOfLuck yX10_digestOfLuck ∈ gW := List.mem_filter.mpr ⟨List.mem_of_getElem? (i := 30) (by decide +kernel), by decide +kernel⟩
theorem ws_31 : Cond.selects RX11 yX11_finds yX11_finds ∈ gW := List.mem_filter.mpr ⟨List.mem_of_getElem? (i := 31) (by decide +kernel), by decide +kernel⟩
theorem ws_32 : Cond.selects RX11 yX11_lacks yX11_lacks ∈ gW := List.mem_filter.mpr ⟨List.mem_of_getElem? (i := 32) (by decide +kernel), by decide +kernel⟩
theorem ws_33 : Cond.selects RX11 yX11_readsText yX11_readsText ∈ gW := List.mem_filter.mpr ⟨List.mem_of_getElem? (i := 33) (by decide +kernel), by decide +kernel⟩
theorem ws_34 : Cond.selects RX11 yX11_readsBushes yX11_readsBushes ∈ gW := List.mem_filter.mpr ⟨List.mem_of_getElem? (i := 34) (by decide +kernel), by decide +kernel⟩
theorem ws_35 : Cond.selects RX11 yX11_readsLooks yX11_readsLooks ∈ gW := List.mem_filter.mpr ⟨List.mem_of_getElem? (i := 35) (by decide +kernel), by decide +kernel⟩
theorem ws_36 : Cond.selects RX11 yX11_isBush yX11_isBush ∈ gW := List.mem_filter.mpr ⟨List.mem_of_getElem? (i := 36) (by decide +kernel), by decide +kernel⟩
theorem ws_37 : Cond.selects RX11 yX11_lookBy yX11_lookBy ∈ gW := List.mem_filter.mpr ⟨List.mem_of_getElem? (i := 37) (by decide +kernel), by decide +kernel⟩
theorem ws_38 : Cond.selects RX11 yX11_puts yX11_puts ∈ gW := List.mem_filter.mpr ⟨List.mem_of_getElem? (i := 38) (by decide +kernel), by decide +kernel⟩
theorem ws_39 : Cond.selects RX11 yX11_find yX11_find ∈ gW := List.mem_filter.mpr ⟨List.mem_of_getElem? (i := 39) (by decide +kernel), by decide +kernel⟩
theorem ws_40 : Cond.selects RX11 yX11_lives yX11_lives ∈ gW := List.mem_filter.mpr ⟨List.mem_of_getElem? (i := 40) (by decide +kernel), by decide +kernel⟩
theorem ws_41 : Cond.selects RX11 yX11_grows yX11_grows ∈ gW := List.mem_filter.mpr ⟨List.mem_of_getElem? (i := 41) (by decide +kernel), by decide +kernel⟩
theorem ws_42 : Cond.selects RX11 yX11_stateOf yX11_stateOf ∈ gW := List.mem_filter.mpr ⟨List.mem_of_getElem? (i := 42) (by decide +kernel), by decide +kernel⟩
theorem ws_43 : Cond.selects RX11 yX11_isOn yX11_isOn ∈ gW := List.mem_filter.mpr ⟨List.mem_of_getElem? (i := 43) (by decide +kernel), by decide +kernel⟩
theorem ws_44 : Cond.selects RX11 yX11_isSeason yX11_isSeason ∈ gW := List.mem_filter.mpr ⟨List.mem_of_getElem? (i := 44) (by decide +kernel), by decide +kernel⟩
theorem ws_45 : Cond.selects RX11 yX11_isSeeming yX11_isSeeming ∈ gW := List.mem_filter.mpr ⟨List.mem_of_getElem? (i := 45) (by decide +kernel), by decide +kernel⟩
theorem ws_46 : Cond.selects RX11 yX11_believes yX11_believes ∈ gW := List.mem_filter.mpr ⟨List.mem_of_getElem? (i := 46) (by decide +kernel), by decide +kernel⟩
theorem ws_47 : Cond.selects RX11 yX11_looked yX11_looked ∈ gW := List.mem_filter.mpr ⟨List.mem_of_getElem? (i := 47) (by decide +kernel), by decide +kernel⟩
theorem ws_48 : Cond.selects RX11 yX11_atBy yX11_atBy ∈ gW := List.mem_filter.mpr ⟨List.mem_of_getElem? (i := 48) (by decide +kernel), by decide +kernel⟩
theorem ws_49 : Cond.selects RX11 yX11_hillBy yX11_hillBy ∈ gW := List.mem_filter.mpr ⟨List.mem_of_getElem? (i := 49) (by decide +kernel), by decide +kernel⟩
theorem ws_50 : Cond.selects RX11 yX11_bareNow yX11_bareNow ∈ gW := List.mem_filter.mpr ⟨List.mem_of_getElem? (i := 50) (by decide +kernel), by decide +kernel⟩
theorem ws_51 : Cond.selects RX11 yX11_runNow yX11_runNow ∈ gW := List.mem_filter.mpr ⟨List.mem_of_getElem? (i := 51) (by decide +kernel), by decide +kernel⟩
theorem ws_52 : Cond.selects RX11 yX11_fakeNow yX11_fakeNow ∈ gW := List.mem_filter.mpr ⟨List.mem_of_getElem? (i := 52) (by decide +kernel), by decide +kernel⟩
theorem ws_53 : Cond.selects RX11 yX11_lastBy yX11_lastBy ∈ gW := List.mem_filter.mpr ⟨List.mem_of_getElem? (i := 53) (by decide +kernel), by decide +kernel⟩
theorem ws_54 : Cond.selects RX11 yX11_plantBy yX11_plantBy ∈ gW := List.mem_filter.mpr ⟨List.mem_of_getElem? (i := 54) (by decide +kernel), by decide +kernel⟩
theorem ws_55 : Cond.selects RX11 yX11_sendBy yX11_sendBy ∈ gW := List.mem_filter.mpr ⟨List.mem_of_getElem? (i := 55) (by decide +kernel), by decide +kernel⟩
theorem ws_56 : Cond.selects RX11 yX11_saveOf yX11_saveOf ∈ gW := List.mem_filter.mpr ⟨List.mem_of_getElem? (i := 56) (by decide +kernel), by decide +kernel⟩
theorem ws_57 : Cond.selects RX11 yX11_isSaved yX11_isSaved ∈ gW := List.mem_filter.mpr ⟨List.mem_of_getElem? (i := 57) (by decide +kernel), by decide +kernel⟩
theorem ws_58 : Cond.selects RX11 yX11_dealBy yX11_dealBy ∈ gW := List.mem_filter.mpr ⟨List.mem_of_getElem? (i := 58) (by decide +kernel), by decide +kernel⟩
theorem ws_59 : Cond.selects RX11 yX11_neverNow yX11_neverNow ∈ gW := List.mem_filter.mpr ⟨List.mem_of_getElem? (i := 59) (by decide +kernel), by decide +kernel⟩
theorem ws_60 : Cond.selects RX11 yX11_isSeen yX11_isSeen ∈ gW := List.mem_filter.mpr ⟨List.mem_of_getElem? (i := 60) (by decide +kernel), by decide +kernel⟩
theorem ws_61 : Cond.selects RX11 yX11_wasOf yX11_wasOf ∈ gW := List.mem_filter.mpr ⟨List.mem_of_getElem? (i := 61) (by decide +kernel), by decide +kernel⟩
theorem ws_62 : Cond.selects RX11 yX11_beganOf yX11_beganOf ∈ gW := List.mem_filter.mpr ⟨List.mem_of_getElem? (i := 62) (by decide +kernel), by decide +kernel⟩
theorem ws_63 : Cond.selects RX11 yX11_sortOf yX11_sortOf ∈ gW := List.mem_filter.mpr ⟨List.mem_of_getElem? (i := 63) (by decide +kernel), by decide +kernel⟩
theorem ws_64 : Cond.selects RX11 yX11_askOf yX11_askOf ∈ gW := List.mem_filter.mpr ⟨List.mem_of_getElem? (i := 64) (by decide +kernel), by decide +kernel⟩
theorem ws_65 : Cond.selects RX11 yX11_luckOf yX11_luckOf ∈ gW := List.mem_filter.mpr ⟨List.mem_of_getElem? (i := 65) (by decide +kernel), by decide +kernel⟩
theorem ws_66 : Cond.selects RX11 yX11_centuryOf yX11_centuryOf ∈ gW := List.mem_filter.mpr ⟨List.mem_of_getElem? (i := 66) (by decide +kernel), by decide +kernel⟩
theorem ws_67 : Cond.selects RX11 yX11_lot yX11_lot ∈ gW := List.mem_filter.mpr ⟨List.mem_of_getElem? (i := 67) (by decide +kernel), by decide +kernel⟩
theorem ws_68 : Cond.selects RX11 yX11_allYellow yX11_allYellow ∈ gW := List.mem_filter.mpr ⟨List.mem_of_getElem? (i := 68) (by decide +kernel), by decide +kernel⟩
theorem ws_69 : Cond.selects RX11 yX11_tellsBush yX11_tellsBush ∈ gW := List.mem_filter.mpr ⟨List.mem_of_getElem? (i := 69) (by decide +kernel), by decide +kernel⟩
theorem ws_70 : Cond.selects RX11 yX11_tellsMonth yX11_tellsMonth ∈ gW := List.mem_filter.mpr ⟨List.mem_of_getElem? (i := 70) (by decide +kernel), by decide +kernel⟩
