/-- the array classes of this claim -/
abbrev gG (D : va_G) (cI cJ cT : ClassId) : vG := (D, [(cI, .int), (cJ, .long), (cT, .object RX6)])
abbrev rmD (d : Nat) : Room := { frames := d, cells := 0, slots := 0, locals := 44 * d }
theorem f_SampleDesk_18 : vF RX8 18 8 0 := ⟨RX8, TX8, 9, rfl, by decide, inV8, k_f_SampleDesk_18⟩
theorem fw_SampleDesk_18 : vFw RX8 18 8 0 (.object "SampleDesk$Tape") true := ⟨RX8, TX8, 9, tyX8, rfl, by decide, inV8, k_f_SampleDesk_18, tyX8_ok, nmX8, tyX8_ok 0 (by decide), rfl, fun _ => rfl⟩
theorem f_SampleDesk_22 : vF RX8 22 8 1 := ⟨RX8, TX8, 9, rfl, by decide, inV8, k_f_SampleDesk_22⟩
theorem fw_SampleDesk_22 : vFw RX8 22 8 1 (.array (.object "SampleDesk$Table")) true := ⟨RX8, TX8, 9, tyX8, rfl, by decide, inV8, k_f_SampleDesk_22, tyX8_ok, nmX8, tyX8_ok 1 (by decide), rfl, fun _ => rfl⟩
theorem f_SampleDesk_39 : vF RX8 39 8 2 := ⟨RX8, TX8, 9, rfl, by decide, inV8, k_f_SampleDesk_39⟩
theorem fw_SampleDesk_39 : vFw RX8 39 8 2 (.object "SampleDesk$Sampler") true := ⟨RX8, TX8, 9, tyX8, rfl, by decide, inV8, k_f_SampleDesk_39, tyX8_ok, nmX8, tyX8_ok 2 (by decide), rfl, fun _ => rfl⟩
theorem f_SampleDesk_46 : vF RX8 46 8 3 := ⟨RX8, TX8, 9, rfl, by decide, inV8, k_f_SampleDesk_46⟩
theorem fw_SampleDesk_46 : vFw RX8 46 8 3 (.object "SampleDesk$Order") true := ⟨RX8, TX8, 9, tyX8, rfl, by decide, inV8, k_f_SampleDesk_46, tyX8_ok, nmX8, tyX8_ok 3 (by decide), rfl, fun _ => rfl⟩
theorem f_SampleDesk_53 : vF RX8 53 8 4 := ⟨RX8, TX8, 9, rfl, by decide, inV8, k_f_SampleDesk_53⟩
theorem fw_SampleDesk_53 : vFw RX8 53 8 4 (.object "SampleDesk$Log") true := ⟨RX8, TX8, 9, tyX8, rfl, by decide, inV8, k_f_SampleDesk_53, tyX8_ok, nmX8, tyX8_ok 4 (by decide), rfl, fun _ => rfl⟩
theorem f_SampleDesk_57 : vF RX8 57 8 5 := ⟨RX8, TX8, 9, rfl, by decide, inV8, k_f_SampleDesk_57⟩
theorem fw_SampleDesk_57 : vFw RX8 57 8 5 (.array .int) true := ⟨RX8, TX8, 9, tyX8, rfl, by decide, inV8, k_f_SampleDesk_57, tyX8_ok, nmX8, tyX8_ok 5 (by decide), rfl, fun _ => rfl⟩
theorem f_SampleDesk_61 : vF RX8 61 8 6 := ⟨RX8, TX8, 9, rfl, by decide, inV8, k_f_SampleDesk_61⟩
theorem fw_SampleDesk_61 : vFw RX8 61 8 6 (.array .int) true := ⟨RX8, TX8, 9, tyX8, rfl, by decide, inV8, k_f_SampleDesk_61, tyX8_ok, nmX8, tyX8_ok 6 (by decide), rfl, fun _ => rfl⟩
theorem f_SampleDesk_64 : vF RX8 64 8 7 := ⟨RX8, TX8, 9, rfl, by decide, inV8, k_f_SampleDesk_64⟩
theorem fw_SampleDesk_64 : vFw RX8 64 8 7 .int false := ⟨RX8, TX8, 9, tyX8, rfl, by decide, inV8, k_f_SampleDesk_64, tyX8_ok, nmX8, tyX8_ok 7 (by decide), rfl, fun h => nomatch h⟩
theorem f_SampleDesk_68 : vF RX8 68 8 8 := ⟨RX8, TX8, 9, rfl, by decide, inV8, k_f_SampleDesk_68⟩
theorem fw_SampleDesk_68 : vFw RX8 68 8 8 .int false := ⟨RX8, TX8, 9, tyX8, rfl, by decide, inV8, k_f_SampleDesk_68, tyX8_ok, nmX8, tyX8_ok 8 (by decide), rfl, fun h => nomatch h⟩
theorem f_SampleDesk_71 : vF RX8 71 7 1 := ⟨RX7, TX7, 3, rfl, by decide, inV7, k_f_SampleDesk_71⟩
theorem fw_SampleDesk_71 : vFw RX8 71 7 1 .int false := ⟨RX7, TX7, 3, tyX7, rfl, by decide, inV7, k_f_SampleDesk_71, tyX7_ok, nmX7, tyX7_ok 1 (by decide), rfl, fun h => nomatch h⟩
theorem f_SampleDesk_91 : vF RX8 91 7 2 := ⟨RX7, TX7, 3, rfl, by decide, inV7, k_f_SampleDesk_91⟩
theorem fw_SampleDesk_91 : vFw RX8 91 7 2 .int false := ⟨RX7, TX7, 3, tyX7, rfl, by decide, inV7, k_f_SampleDesk_91, tyX7_ok, nmX7, tyX7_ok 2 (by decide), rfl, fun h => nomatch h⟩
theorem f_SampleDesk_108 : vF RX8 108 6 6 := ⟨RX6, TX6, 7, rfl, by decide, inV6, k_f_SampleDesk_108⟩
theorem fw_SampleDesk_108 : vFw RX8 108 6 6 .long false := ⟨RX6, TX6, 7, tyX6, rfl, by decide, inV6, k_f_SampleDesk_108, tyX6_ok, nmX6, tyX6_ok 6 (by decide), rfl, fun h => nomatch h⟩
theorem f_SampleDesk_112 : vF RX8 112 6 4 := ⟨RX6, TX6, 7, rfl, by decide, inV6, k_f_SampleDesk_112⟩
theorem fw_SampleDesk_112 : vFw RX8 112 6 4 .int false := ⟨RX6, TX6, 7, tyX6, rfl, by decide, inV6, k_f_SampleDesk_112, tyX6_ok, nmX6, tyX6_ok 4 (by decide), rfl, fun h => nomatch h⟩
theorem f_SampleDesk_115 : vF RX8 115 6 5 := ⟨RX6, TX6, 7, rfl, by decide, inV6, k_f_SampleDesk_115⟩
theorem fw_SampleDesk_115 : vFw RX8 115 6 5 .int false := ⟨RX6, TX6, 7, tyX6, rfl, by decide, inV6, k_f_SampleDesk_115, tyX6_ok, nmX6, tyX6_ok 5 (by decide), rfl, fun h => nomatch h⟩
theorem f_SampleDesk_118 : vF RX8 118 6 3 := ⟨RX6, TX6, 7, rfl, by decide, inV6, k_f_SampleDesk_118⟩
theorem f_SampleDesk_122 : vF RX8 122 6 2 := ⟨RX6, TX6, 7, rfl, by decide, inV6, k_f_SampleDesk_122⟩
theorem f_SampleDesk_137 : vF RX8 137 5 2 := ⟨RX5, TX5, 4, rfl, by decide, inV5, k_f_SampleDesk_137⟩
theorem f_SampleDesk_141 : vF RX8 141 7 0 := ⟨RX7, TX7, 3, rfl, by decide, inV7, k_f_SampleDesk_141⟩
theorem f_SampleDesk_152 : vF RX8 152 0 4 := ⟨RX0, TX0, 5, rfl, by decide, inV0, k_f_SampleDesk_152⟩
theorem fw_SampleDesk_152 : vFw RX8 152 0 4 .boolean false := ⟨RX0, TX0, 5, tyX0, rfl, by decide, inV0, k_f_SampleDesk_152, tyX0_ok, nmX0, tyX0_ok 4 (by decide), rfl, fun h => nomatch h⟩
theorem f_SampleDesk_170 : vF RX8 170 2 2 := ⟨RX2, TX2, 4, rfl, by decide, inV2, k_f_SampleDesk_170⟩
theorem fw_SampleDesk_170 : vFw RX8 170 2 2 .int false := ⟨RX2, TX2, 4, tyX2, rfl, by decide, inV2, k_f_SampleDesk_170, tyX2_ok, nmX2, tyX2_ok 2 (by decide), rfl, fun h => nomatch h⟩
theorem f_SampleDesk_179 : vF RX8 179 5 3 := ⟨RX5, TX5, 4, rfl, by decide, inV5, k_f_SampleDesk_179⟩
theorem f_SampleDesk_186 : vF RX8 186 2 3 := ⟨RX2, TX2, 4, rfl, by decide, inV2, k_f_SampleDesk_186⟩
theorem fw_SampleDesk_186 : vFw RX8 186 2 3 .int false := ⟨RX2, TX2, 4, tyX2, rfl, by decide, inV2, k_f_SampleDesk_186, tyX2_ok, nmX2, tyX2_ok 3 (by decide), rfl, fun h => nomatch h⟩
theorem f_SampleDesk_193 : vF RX8 193 3 0 := ⟨RX3, TX3, 4, rfl, by decide, inV3, k_f_SampleDesk_193⟩
theorem fw_SampleDesk_193 : vFw RX8 193 3 0 .int false := ⟨RX3, TX3, 4, tyX3, rfl, by decide, inV3, k_f_SampleDesk_193, tyX3_ok, nmX3, tyX3_ok 0 (by decide), rfl, fun h => nomatch h⟩
theorem f_SampleDesk_196 : vF RX8 196 4 5 := ⟨RX4, TX4, 6, rfl, by decide, inV4, k_f_SampleDesk_196⟩
theorem fw_SampleDesk_196 : vFw RX8 196 4 5 .int false := ⟨RX4, TX4, 6, tyX4, rfl, by decide, inV4, k_f_SampleDesk_196, tyX4_ok, nmX4, tyX4_ok 5 (by decide), rfl, fun h => nomatch h⟩
theorem f_SampleDesk_197 : vF RX8 197 4 4 := ⟨RX4, TX4, 6, rfl, by decide, inV4, k_f_SampleDesk_197⟩
theorem f_Dice_9 : vF RX0 9 0 0 := ⟨RX0, TX0, 5, rfl, by decide, inV0, k_f_Dice_9⟩
theorem fw_Dice_9 : vFw RX0 9 0 0 (.array .int) false := ⟨RX0, TX0, 5, tyX0, rfl, by decide, inV0, k_f_Dice_9, tyX0_ok, nmX0, tyX0_ok 0 (by decide), rfl, fun h => nomatch h⟩
theorem f_Dice_15 : vF RX0 15 0 1 := ⟨RX0, TX0, 5, rfl, by decide, inV0, k_f_Dice_15⟩
theorem fw_Dice_15 : vFw RX0 15 0 1 .int false := ⟨RX0, TX0, 5, tyX0, rfl, by decide, inV0, k_f_Dice_15, tyX0_ok, nmX0, tyX0_ok 1 (by decide), rfl, fun h => nomatch h⟩
theorem f_Dice_19 : vF RX0 19 0 2 := ⟨RX0, TX0, 5, rfl, by decide, inV0, k_f_Dice_19⟩
theorem fw_Dice_19 : vFw RX0 19 0 2 .int false := ⟨RX0, TX0, 5, tyX0, rfl, by decide, inV0, k_f_Dice_19, tyX0_ok, nmX0, tyX0_ok 2 (by decide), rfl, fun h => nomatch h⟩
theorem f_Dice_28 : vF RX0 28 0 3 := ⟨RX0, TX0, 5, rfl, by decide, inV0, k_f_Dice_28⟩
theorem fw_Dice_28 : vFw RX0 28 0 3 .int false := ⟨RX0, TX0, 5, tyX0, rfl, by decide, inV0, k_f_Dice_28, tyX0_ok, nmX0, tyX0_ok 3 (by decide), rfl, fun h => nomatch h⟩
theorem f_Dice_31 : vF RX0 31 0 4 := ⟨RX0, TX0, 5, rfl, by decide, inV0, k_f_Dice_31⟩
theorem fw_Dice_31 : vFw RX0 31 0 4 .boolean false := ⟨RX0, TX0, 5, tyX0, rfl, by decide, inV0, k_f_Dice_31, tyX0_ok, nmX0, tyX0_ok 4 (by decide), rfl, fun h => nomatch h⟩
theorem f_Laws_9 : vF RX1 9 1 0 := ⟨RX1, TX1, 1, rfl, by decide, inV1, k_f_Laws_9⟩
theorem fw_Laws_9 : vFw RX1 9 1 0 (.object "SampleDesk$Dice") true := ⟨RX1, TX1, 1, tyX1, rfl, by decide, inV1, k_f_Laws_9, tyX1_ok, nmX1, tyX1_ok 0 (by decide), rfl, fun _ => rfl⟩
theorem f_Laws_15 : vF RX1 15 0 4 := ⟨RX0, TX0, 5, rfl, by decide, inV0, k_f_Laws_15⟩
theorem fw_Laws_15 : vFw RX1 15 0 4 .boolean false := ⟨RX0, TX0, 5, tyX0, rfl, by decide, inV0, k_f_Laws_15, tyX0_ok, nmX0, tyX0_ok 4 (by decide), rfl, fun h => nomatch h⟩
theorem f_Log_9 : vF RX2 9 2 0 := ⟨RX2, TX2, 4, rfl, by decide, inV2, k_f_Log_9⟩
theorem fw_Log_9 : vFw RX2 9 2 0 (.array .long) true := ⟨RX2, TX2, 4, tyX2, rfl, by decide, inV2, k_f_Log_9, tyX2_ok, nmX2, tyX2_ok 0 (by decide), rfl, fun _ => rfl⟩
theorem f_Log_13 : vF RX2 13 2 1 := ⟨RX2, TX2, 4, rfl, by decide, inV2, k_f_Log_13⟩
theorem fw_Log_13 : vFw RX2 13 2 1 .int false := ⟨RX2, TX2, 4, tyX2, rfl, by decide, inV2, k_f_Log_13, tyX2_ok, nmX2, tyX2_ok 1 (by decide), rfl, fun h => nomatch h⟩
theorem f_Log_17 : vF RX2 17 2 2 := ⟨RX2, TX2, 4, rfl, by decide, inV2, k_f_Log_17⟩
theorem fw_Log_17 : vFw RX2 17 2 2 .int false := ⟨RX2, TX2, 4, tyX2, rfl, by decide, inV2, k_f_Log_17, tyX2_ok, nmX2, tyX2_ok 2 (by decide), rfl, fun h => nomatch h⟩
theorem f_Log_20 : vF RX2 20 2 3 := ⟨RX2, TX2, 4, rfl, by decide, inV2, k_f_Log_20⟩
theorem fw_Log_20 : vFw RX2 20 2 3 .int false := ⟨RX2, TX2, 4, tyX2, rfl, by decide, inV2, k_f_Log_20, tyX2_ok, nmX2, tyX2_ok 3 (by decide), rfl, fun h => nomatch h⟩
theorem f_Log_23 : vF RX2 23 3 0 := ⟨RX3, TX3, 4, rfl, by decide, inV3, k_f_Log_23⟩
theorem fw_Log_23 : vFw RX2 23 3 0 .int false := ⟨RX3, TX3, 4, tyX3, rfl, by decide, inV3, k_f_Log_23, tyX3_ok, nmX3, tyX3_ok 0 (by decide), rfl, fun h => nomatch h⟩
theorem f_Log_28 : vF RX2 28 3 1 := ⟨RX3, TX3, 4, rfl, by decide, inV3, k_f_Log_28⟩
theorem fw_Log_28 : vFw RX2 28 3 1 .int false := ⟨RX3, TX3, 4, tyX3, rfl, by decide, inV3, k_f_Log_28, tyX3_ok, nmX3, tyX3_ok 1 (by decide), rfl, fun h => nomatch h⟩
theorem f_Log_31 : vF RX2 31 3 2 := ⟨RX3, TX3, 4, rfl, by decide, inV3, k_f_Log_31⟩
theorem fw_Log_31 : vFw RX2 31 3 2 .int false := ⟨RX3, TX3, 4, tyX3, rfl, by decide, inV3, k_f_Log_31, tyX3_ok, nmX3, tyX3_ok 2 (by decide), rfl, fun h => nomatch h⟩
theorem f_Log_34 : vF RX2 34 3 3 := ⟨RX3, TX3, 4, rfl, by decide, inV3, k_f_Log_34⟩
theorem fw_Log_34 : vFw RX2 34 3 3 .int false := ⟨RX3, TX3, 4, tyX3, rfl, by decide, inV3, k_f_Log_34, tyX3_ok, nmX3, tyX3_ok 3 (by decide), rfl, fun h => nomatch h⟩
theorem f_Order_9 : vF RX3 9 3 0 := ⟨RX3, TX3, 4, rfl, by decide, inV3, k_f_Order_9⟩
theorem fw_Order_9 : vFw RX3 9 3 0 .int false := ⟨RX3, TX3, 4, tyX3, rfl, by decide, inV3, k_f_Order_9, tyX3_ok, nmX3, tyX3_ok 0 (by decide), rfl, fun h => nomatch h⟩
theorem f_Order_15 : vF RX3 15 3 1 := ⟨RX3, TX3, 4, rfl, by decide, inV3, k_f_Order_15⟩
theorem fw_Order_15 : vFw RX3 15 3 1 .int false := ⟨RX3, TX3, 4, tyX3, rfl, by decide, inV3, k_f_Order_15, tyX3_ok, nmX3, tyX3_ok 1 (by decide), rfl, fun h => nomatch h⟩
theorem f_Order_18 : vF RX3 18 3 2 := ⟨RX3, TX3, 4, rfl, by decide, inV3, k_f_Order_18⟩
theorem fw_Order_18 : vFw RX3 18 3 2 .int false := ⟨RX3, TX3, 4, tyX3, rfl, by decide, inV3, k_f_Order_18, tyX3_ok, nmX3, tyX3_ok 2 (by decide), rfl, fun h => nomatch h⟩
theorem f_Order_21 : vF RX3 21 3 3 := ⟨RX3, TX3, 4, rfl, by decide, inV3, k_f_Order_21⟩
theorem fw_Order_21 : vFw RX3 21 3 3 .int false := ⟨RX3, TX3, 4, tyX3, rfl, by decide, inV3, k_f_Order_21, tyX3_ok, nmX3, tyX3_ok 3 (by decide), rfl, fun h => nomatch h⟩
theorem f_Rows_9 : vF RX4 9 4 1 := ⟨RX4, TX4, 6, rfl, by decide, inV4, k_f_Rows_9⟩
theorem fw_Rows_9 : vFw RX4 9 4 1 (.array .int) true := ⟨RX4, TX4, 6, tyX4, rfl, by decide, inV4, k_f_Rows_9, tyX4_ok, nmX4, tyX4_ok 1 (by decide), rfl, fun _ => rfl⟩
theorem f_Rows_15 : vF RX4 15 4 2 := ⟨RX4, TX4, 6, rfl, by decide, inV4, k_f_Rows_15⟩
theorem fw_Rows_15 : vFw RX4 15 4 2 (.array .int) true := ⟨RX4, TX4, 6, tyX4, rfl, by decide, inV4, k_f_Rows_15, tyX4_ok, nmX4, tyX4_ok 2 (by decide), rfl, fun _ => rfl⟩
theorem f_Rows_18 : vF RX4 18 4 3 := ⟨RX4, TX4, 6, rfl, by decide, inV4, k_f_Rows_18⟩
theorem fw_Rows_18 : vFw RX4 18 4 3 (.array .int) true := ⟨RX4, TX4, 6, tyX4, rfl, by decide, inV4, k_f_Rows_18, tyX4_ok, nmX4, tyX4_ok 3 (by decide), rfl, fun _ => rfl⟩
theorem f_Rows_21 : vF RX4 21 4 4 := ⟨RX4, TX4, 6, rfl, by decide, inV4, k_f_Rows_21⟩
theorem fw_Rows_21 : vFw RX4 21 4 4 (.array .int) true := ⟨RX4, TX4, 6, tyX4, rfl, by decide, inV4, k_f_Rows_21, tyX4_ok, nmX4, tyX4_ok 4 (by decide), rfl, fun _ => rfl⟩
theorem f_Rows_24 : vF RX4 24 4 5 := ⟨RX4, TX4, 6, rfl, by decide, inV4, k_f_Rows_24⟩
theorem fw_Rows_24 : vFw RX4 24 4 5 .int false := ⟨RX4, TX4, 6, tyX4, rfl, by decide, inV4, k_f_Rows_24, tyX4_ok, nmX4, tyX4_ok 5 (by decide), rfl, fun h => nomatch h⟩
theorem f_Rows_28 : vF RX4 28 4 0 := ⟨RX4, TX4, 6, rfl, by decide, inV4, k_f_Rows_28⟩
theorem fw_Rows_28 : vFw RX4 28 4 0 (.object "SampleDesk$Dice") true := ⟨RX4, TX4, 6, tyX4, rfl, by decide, inV4, k_f_Rows_28, tyX4_ok, nmX4, tyX4_ok 0 (by decide), rfl, fun _ => rfl⟩
theorem f_Rows_34 : vF RX4 34 0 4 := ⟨RX0, TX0, 5, rfl, by decide, inV0, k_f_Rows_34⟩
theorem fw_Rows_34 : vFw RX4 34 0 4 .boolean false := ⟨RX0, TX0, 5, tyX0, rfl, by decide, inV0, k_f_Rows_34, tyX0_ok, nmX0, tyX0_ok 4 (by decide), rfl, fun h => nomatch h⟩
theorem f_Sampler_9 : vF RX5 9 5 0 := ⟨RX5, TX5, 4, rfl, by decide, inV5, k_f_Sampler_9⟩
theorem fw_Sampler_9 : vFw RX5 9 5 0 (.array (.object "SampleDesk$Table")) true := ⟨RX5, TX5, 4, tyX5, rfl, by decide, inV5, k_f_Sampler_9, tyX5_ok, nmX5, tyX5_ok 0 (by decide), rfl, fun _ => rfl⟩
theorem f_Sampler_15 : vF RX5 15 5 2 := ⟨RX5, TX5, 4, rfl, by decide, inV5, k_f_Sampler_15⟩
theorem fw_Sampler_15 : vFw RX5 15 5 2 (.object "SampleDesk$Dice") true := ⟨RX5, TX5, 4, tyX5, rfl, by decide, inV5, k_f_Sampler_15, tyX5_ok, nmX5, tyX5_ok 2 (by decide), rfl, fun _ => rfl⟩
theorem f_Sampler_19 : vF RX5 19 5 1 := ⟨RX5, TX5, 4, rfl, by decide, inV5, k_f_Sampler_19⟩
theorem fw_Sampler_19 : vFw RX5 19 5 1 (.object "SampleDesk$Laws") true := ⟨RX5, TX5, 4, tyX5, rfl, by decide, inV5, k_f_Sampler_19, tyX5_ok, nmX5, tyX5_ok 1 (by decide), rfl, fun _ => rfl⟩
theorem f_Sampler_23 : vF RX5 23 5 3 := ⟨RX5, TX5, 4, rfl, by decide, inV5, k_f_Sampler_23⟩
theorem fw_Sampler_23 : vFw RX5 23 5 3 (.object "SampleDesk$Rows") true := ⟨RX5, TX5, 4, tyX5, rfl, by decide, inV5, k_f_Sampler_23, tyX5_ok, nmX5, tyX5_ok 3 (by decide), rfl, fun _ => rfl⟩
theorem f_Sampler_27 : vF RX5 27 3 0 := ⟨RX3, TX3, 4, rfl, by decide, inV3, k_f_Sampler_27⟩
theorem fw_Sampler_27 : vFw RX5 27 3 0 .int false := ⟨RX3, TX3, 4, tyX3, rfl, by decide, inV3, k_f_Sampler_27, tyX3_ok, nmX3, tyX3_ok 0 (by decide), rfl, fun h => nomatch h⟩
theorem f_Sampler_33 : vF RX5 33 3 1 := ⟨RX3, TX3, 4, rfl, by decide, inV3, k_f_Sampler_33⟩
theorem fw_Sampler_33 : vFw RX5 33 3 1 .int false := ⟨RX3, TX3, 4, tyX3, rfl, by decide, inV3, k_f_Sampler_33, tyX3_ok, nmX3, tyX3_ok 1 (by decide), rfl, fun h => nomatch h⟩
theorem f_Sampler_36 : vF RX5 36 6 4 := ⟨RX6, TX6, 7, rfl, by decide, inV6, k_f_Sampler_36⟩
theorem fw_Sampler_36 : vFw RX5 36 6 4 .int false := ⟨RX6, TX6, 7, tyX6, rfl, by decide, inV6, k_f_Sampler_36, tyX6_ok, nmX6, tyX6_ok 4 (by decide), rfl, fun h => nomatch h⟩
theorem f_Sampler_41 : vF RX5 41 4 5 := ⟨RX4, TX4, 6, rfl, by decide, inV4, k_f_Sampler_41⟩
theorem fw_Sampler_41 : vFw RX5 41 4 5 .int false := ⟨RX4, TX4, 6, tyX4, rfl, by decide, inV4, k_f_Sampler_41, tyX4_ok, nmX4, tyX4_ok 5 (by decide), rfl, fun h => nomatch h⟩
theorem f_Sampler_60 : vF RX5 60 3 2 := ⟨RX3, TX3, 4, rfl, by decide, inV3, k_f_Sampler_60⟩
theorem fw_Sampler_60 : vFw RX5 60 3 2 .int false := ⟨RX3, TX3, 4, tyX3, rfl, by decide, inV3, k_f_Sampler_60, tyX3_ok, nmX3, tyX3_ok 2 (by decide), rfl, fun h => nomatch h⟩
theorem f_Sampler_67 : vF RX5 67 3 3 := ⟨RX3, TX3, 4, rfl, by decide, inV3, k_f_Sampler_67⟩
theorem fw_Sampler_67 : vFw RX5 67 3 3 .int false := ⟨RX3, TX3, 4, tyX3, rfl, by decide, inV3, k_f_Sampler_67, tyX3_ok, nmX3, tyX3_ok 3 (by decide), rfl, fun h => nomatch h⟩
theorem f_Table_9 : vF RX6 9 6 0 := ⟨RX6, TX6, 7, rfl, by decide, inV6, k_f_Table_9⟩
theorem fw_Table_9 : vFw RX6 9 6 0 (.array .int) true := ⟨RX6, TX6, 7, tyX6, rfl, by decide, inV6, k_f_Table_9, tyX6_ok, nmX6, tyX6_ok 0 (by decide), rfl, fun _ => rfl⟩
theorem f_Table_15 : vF RX6 15 6 1 := ⟨RX6, TX6, 7, rfl, by decide, inV6, k_f_Table_15⟩
theorem fw_Table_15 : vFw RX6 15 6 1 (.array .int) true := ⟨RX6, TX6, 7, tyX6, rfl, by decide, inV6, k_f_Table_15, tyX6_ok, nmX6, tyX6_ok 1 (by decide), rfl, fun _ => rfl⟩
theorem f_Table_18 : vF RX6 18 6 2 := ⟨RX6, TX6, 7, rfl, by decide, inV6, k_f_Table_18⟩
theorem fw_Table_18 : vFw RX6 18 6 2 (.array .int) true := ⟨RX6, TX6, 7, tyX6, rfl, by decide, inV6, k_f_Table_18, tyX6_ok, nmX6, tyX6_ok 2 (by decide), rfl, fun _ => rfl⟩
theorem f_Table_21 : vF RX6 21 6 3 := ⟨RX6, TX6, 7, rfl, by decide, inV6, k_f_Table_21⟩
theorem fw_Table_21 : vFw RX6 21 6 3 (.array .long) true := ⟨RX6, TX6, 7, tyX6, rfl, by decide, inV6, k_f_Table_21, tyX6_ok, nmX6, tyX6_ok 3 (by decide), rfl, fun _ => rfl⟩
theorem f_Table_25 : vF RX6 25 6 4 := ⟨RX6, TX6, 7, rfl, by decide, inV6, k_f_Table_25⟩
theorem fw_Table_25 : vFw RX6 25 6 4 .int false := ⟨RX6, TX6, 7, tyX6, rfl, by decide, inV6, k_f_Table_25, tyX6_ok, nmX6, tyX6_ok 4 (by decide), rfl, fun h => nomatch h⟩
theorem f_Table_29 : vF RX6 29 6 5 := ⟨RX6, TX6, 7, rfl, by decide, inV6, k_f_Table_29⟩
theorem fw_Table_29 : vFw RX6 29 6 5 .int false := ⟨RX6, TX6, 7, tyX6, rfl, by decide, inV6, k_f_Table_29, tyX6_ok, nmX6, tyX6_ok 5 (by decide), rfl, fun h => nomatch h⟩
theorem f_Table_32 : vF RX6 32 6 6 := ⟨RX6, TX6, 7, rfl, by decide, inV6, k_f_Table_32⟩
theorem fw_Table_32 : vFw RX6 32 6 6 .long false := ⟨RX6, TX6, 7, tyX6, rfl, by decide, inV6, k_f_Table_32, tyX6_ok, nmX6, tyX6_ok 6 (by decide), rfl, fun h => nomatch h⟩
theorem f_Table_69 : vF RX6 69 0 4 := ⟨RX0, TX0, 5, rfl, by decide, inV0, k_f_Table_69⟩
theorem fw_Table_69 : vFw RX6 69 0 4 .boolean false := ⟨RX0, TX0, 5, tyX0, rfl, by decide, inV0, k_f_Table_69, tyX0_ok, nmX0, tyX0_ok 4 (by decide), rfl, fun h => nomatch h⟩
theorem f_Tape_9 : vF RX7 9 7 0 := ⟨RX7, TX7, 3, rfl, by decide, inV7, k_f_Tape_9⟩
theorem fw_Tape_9 : vFw RX7 9 7 0 (.array .int) true := ⟨RX7, TX7, 3, tyX7, rfl, by decide, inV7, k_f_Tape_9, tyX7_ok, nmX7, tyX7_ok 0 (by decide), rfl, fun _ => rfl⟩
theorem f_Tape_15 : vF RX7 15 7 1 := ⟨RX7, TX7, 3, rfl, by decide, inV7, k_f_Tape_15⟩
theorem fw_Tape_15 : vFw RX7 15 7 1 .int false := ⟨RX7, TX7, 3, tyX7, rfl, by decide, inV7, k_f_Tape_15, tyX7_ok, nmX7, tyX7_ok 1 (by decide), rfl, fun h => nomatch h⟩
theorem f_Tape_19 : vF RX7 19 7 2 := ⟨RX7, TX7, 3, rfl, by decide, inV7, k_f_Tape_19⟩
theorem fw_Tape_19 : vFw RX7 19 7 2 .int false := ⟨RX7, TX7, 3, tyX7, rfl, by decide, inV7, k_f_Tape_19, tyX7_ok, nmX7, tyX7_ok 2 (by decide), rfl, fun h => nomatch h⟩
theorem f_SampleDeskModel_7 : vF RX9 7 9 5 := ⟨RX9, TX9, 26, rfl, by decide, inV9, k_f_SampleDeskModel_7⟩
theorem fw_SampleDeskModel_7 : vFw RX9 7 9 5 (.array .int) true := ⟨RX9, TX9, 26, tyX9, rfl, by decide, inV9, k_f_SampleDeskModel_7, tyX9_ok, nmX9, tyX9_ok 5 (by decide), rfl, fun _ => rfl⟩
theorem f_SampleDeskModel_13 : vF RX9 13 9 6 := ⟨RX9, TX9, 26, rfl, by decide, inV9, k_f_SampleDeskModel_13⟩
theorem fw_SampleDeskModel_13 : vFw RX9 13 9 6 (.array .long) true := ⟨RX9, TX9, 26, tyX9, rfl, by decide, inV9, k_f_SampleDeskModel_13, tyX9_ok, nmX9, tyX9_ok 6 (by decide), rfl, fun _ => rfl⟩
theorem f_SampleDeskModel_17 : vF RX9 17 9 7 := ⟨RX9, TX9, 26, rfl, by decide, inV9, k_f_SampleDeskModel_17⟩
theorem fw_SampleDeskModel_17 : vFw RX9 17 9 7 (.array .int) true := ⟨RX9, TX9, 26, tyX9, rfl, by decide, inV9, k_f_SampleDeskModel_17, tyX9_ok, nmX9, tyX9_ok 7 (by decide), rfl, fun _ => rfl⟩
theorem f_SampleDeskModel_20 : vF RX9 20 9 8 := ⟨RX9, TX9, 26, rfl, by decide, inV9, k_f_SampleDeskModel_20⟩
theorem fw_SampleDeskModel_20 : vFw RX9 20 9 8 (.array .long) true := ⟨RX9, TX9, 26, tyX9, rfl, by decide, inV9, k_f_SampleDeskModel_20, tyX9_ok, nmX9, tyX9_ok 8 (by decide), rfl, fun _ => rfl⟩
theorem f_SampleDeskModel_23 : vF RX9 23 9 9 := ⟨RX9, TX9, 26, rfl, by decide, inV9, k_f_SampleDeskModel_23⟩
theorem fw_SampleDeskModel_23 : vFw RX9 23 9 9 (.array .int) true := ⟨RX9, TX9, 26, tyX9, rfl, by decide, inV9, k_f_SampleDeskModel_23, tyX9_ok, nmX9, tyX9_ok 9 (by decide), rfl, fun _ => rfl⟩
theorem f_SampleDeskModel_26 : vF RX9 26 9 10 := ⟨RX9, TX9, 26, rfl, by decide, inV9, k_f_SampleDeskModel_26⟩
theorem fw_SampleDeskModel_26 : vFw RX9 26 9 10 (.array .int) true := ⟨RX9, TX9, 26, tyX9, rfl, by decide, inV9, k_f_SampleDeskModel_26, tyX9_ok, nmX9, tyX9_ok 10 (by decide), rfl, fun _ => rfl⟩
theorem f_SampleDeskModel_29 : vF RX9 29 9 11 := ⟨RX9, TX9, 26, rfl, by decide, inV9, k_f_SampleDeskModel_29⟩
theorem fw_SampleDeskModel_29 : vFw RX9 29 9 11 (.array .long) true := ⟨RX9, TX9, 26, tyX9, rfl, by decide, inV9, k_f_SampleDeskModel_29, tyX9_ok, nmX9, tyX9_ok 11 (by decide), rfl, fun _ => rfl⟩
theorem f_SampleDeskModel_32 : vF RX9 32 9 12 := ⟨RX9, TX9, 26, rfl, by decide, inV9, k_f_SampleDeskModel_32⟩
theorem fw_SampleDeskModel_32 : vFw RX9 32 9 12 (.array .int) true := ⟨RX9, TX9, 26, tyX9, rfl, by decide, inV9, k_f_SampleDeskModel_32, tyX9_ok, nmX9, tyX9_ok 12 (by decide), rfl, fun _ => rfl⟩
theorem f_SampleDeskModel_35 : vF RX9 35 9 14 := ⟨RX9, TX9, 26, rfl, by decide, inV9, k_f_SampleDeskModel_35⟩
theorem fw_SampleDeskModel_35 : vFw RX9 35 9 14 (.array .int) true := ⟨RX9, TX9, 26, tyX9, rfl, by decide, inV9, k_f_SampleDeskModel_35, tyX9_ok, nmX9, tyX9_ok 14 (by decide), rfl, fun _ => rfl⟩
theorem f_SampleDeskModel_38 : vF RX9 38 9 22 := ⟨RX9, TX9, 26, rfl, by decide, inV9, k_f_SampleDeskModel_38⟩
theorem fw_SampleDeskModel_38 : vFw RX9 38 9 22 (.array .int) true := ⟨RX9, TX9, 26, tyX9, rfl, by decide, inV9, k_f_SampleDeskModel_38, tyX9_ok, nmX9, tyX9_ok 22 (by decide), rfl, fun _ => rfl⟩
theorem f_SampleDeskModel_41 : vF RX9 41 9 24 := ⟨RX9, TX9, 26, rfl, by decide, inV9, k_f_SampleDeskModel_41⟩
theorem fw_SampleDeskModel_41 : vFw RX9 41 9 24 (.array .int) true := ⟨RX9, TX9, 26, tyX9, rfl, by decide, inV9, k_f_SampleDeskModel_41, tyX9_ok, nmX9, tyX9_ok 24 (by decide), rfl, fun _ => rfl⟩
theorem f_SampleDeskModel_44 : vF RX9 44 9 25 := ⟨RX9, TX9, 26, rfl, by decide, inV9, k_f_SampleDeskModel_44⟩
theorem fw_SampleDeskModel_44 : vFw RX9 44 9 25 (.array .long) true := ⟨RX9, TX9, 26, tyX9, rfl, by decide, inV9, k_f_SampleDeskModel_44, tyX9_ok, nmX9, tyX9_ok 25 (by decide), rfl, fun _ => rfl⟩
theorem f_SampleDeskModel_47 : vF RX9 47 9 0 := ⟨RX9, TX9, 26, rfl, by decide, inV9, k_f_SampleDeskModel_47⟩
theorem fw_SampleDeskModel_47 : vFw RX9 47 9 0 .int false := ⟨RX9, TX9, 26, tyX9, rfl, by decide, inV9, k_f_SampleDeskModel_47, tyX9_ok, nmX9, tyX9_ok 0 (by decide), rfl, fun h => nomatch h⟩
theorem f_SampleDeskModel_51 : vF RX9 51 9 1 := ⟨RX9, TX9, 26, rfl, by decide, inV9, k_f_SampleDeskModel_51⟩
theorem fw_SampleDeskModel_51 : vFw RX9 51 9 1 .int false := ⟨RX9, TX9, 26, tyX9, rfl, by decide, inV9, k_f_SampleDeskModel_51, tyX9_ok, nmX9, tyX9_ok 1 (by decide), rfl, fun h => nomatch h⟩
theorem f_SampleDeskModel_62 : vF RX9 62 9 2 := ⟨RX9, TX9, 26, rfl, by decide, inV9, k_f_SampleDeskModel_62⟩
theorem fw_SampleDeskModel_62 : vFw RX9 62 9 2 .int false := ⟨RX9, TX9, 26, tyX9, rfl, by decide, inV9, k_f_SampleDeskModel_62, tyX9_ok, nmX9, tyX9_ok 2 (by decide), rfl, fun h => nomatch h⟩
theorem f_SampleDeskModel_77 : vF RX9 77 9 20 := ⟨RX9, TX9, 26, rfl, by decide, inV9, k_f_SampleDeskModel_77⟩
theorem fw_SampleDeskModel_77 : vFw RX9 77 9 20 .boolean false := ⟨RX9, TX9, 26, tyX9, rfl, by decide, inV9, k_f_SampleDeskModel_77, tyX9_ok, nmX9, tyX9_ok 20 (by decide), rfl, fun h => nomatch h⟩
theorem f_SampleDeskModel_81 : vF RX9 81 9 18 := ⟨RX9, TX9, 26, rfl, by decide, inV9, k_f_SampleDeskModel_81⟩
theorem fw_SampleDeskModel_81 : vFw RX9 81 9 18 .int false := ⟨RX9, TX9, 26, tyX9, rfl, by decide, inV9, k_f_SampleDeskModel_81, tyX9_ok, nmX9, tyX9_ok 18 (by decide), rfl, fun h => nomatch h⟩
theorem f_SampleDeskModel_84 : vF RX9 84 9 15 := ⟨RX9, TX9, 26, rfl, by decide, inV9, k_f_SampleDeskModel_84⟩
theorem fw_SampleDeskModel_84 : vFw RX9 84 9 15 .boolean false := ⟨RX9, TX9, 26, tyX9, rfl, by decide, inV9, k_f_SampleDeskModel_84, tyX9_ok, nmX9, tyX9_ok 15 (by decide), rfl, fun h => nomatch h⟩
theorem f_SampleDeskModel_87 : vF RX9 87 9 17 := ⟨RX9, TX9, 26, rfl, by decide, inV9, k_f_SampleDeskModel_87⟩
theorem fw_SampleDeskModel_87 : vFw RX9 87 9 17 .int false := ⟨RX9, TX9, 26, tyX9, rfl, by decide, inV9, k_f_SampleDeskModel_87, tyX9_ok, nmX9, tyX9_ok 17 (by decide), rfl, fun h => nomatch h⟩
theorem f_SampleDeskModel_90 : vF RX9 90 9 16 := ⟨RX9, TX9, 26, rfl, by decide, inV9, k_f_SampleDeskModel_90⟩
theorem fw_SampleDeskModel_90 : vFw RX9 90 9 16 .int false := ⟨RX9, TX9, 26, tyX9, rfl, by decide, inV9, k_f_SampleDeskModel_90, tyX9_ok, nmX9, tyX9_ok 16 (by decide), rfl, fun h => nomatch h⟩
theorem f_SampleDeskModel_93 : vF RX9 93 9 19 := ⟨RX9, TX9, 26, rfl, by decide, inV9, k_f_SampleDeskModel_93⟩
theorem fw_SampleDeskModel_93 : vFw RX9 93 9 19 .int false := ⟨RX9, TX9, 26, tyX9, rfl, by decide, inV9, k_f_SampleDeskModel_93, tyX9_ok, nmX9, tyX9_ok 19 (by decide), rfl, fun h => nomatch h⟩
theorem f_SampleDeskModel_123 : vF RX9 123 9 21 := ⟨RX9, TX9, 26, rfl, by decide, inV9, k_f_SampleDeskModel_123⟩
theorem fw_SampleDeskModel_123 : vFw RX9 123 9 21 .int false := ⟨RX9, TX9, 26, tyX9, rfl, by decide, inV9, k_f_SampleDeskModel_123, tyX9_ok, nmX9, tyX9_ok 21 (by decide), rfl, fun h => nomatch h⟩
theorem f_SampleDeskModel_191 : vF RX9 191 9 23 := ⟨RX9, TX9, 26, rfl, by decide, inV9, k_f_SampleDeskModel_191⟩
theorem fw_SampleDeskModel_191 : vFw RX9 191 9 23 .int false := ⟨RX9, TX9, 26, tyX9, rfl, by decide, inV9, k_f_SampleDeskModel_191, tyX9_ok, nmX9, tyX9_ok 23 (by decide), rfl, fun h => nomatch h⟩
theorem f_SampleDeskModel_212 : vF RX9 212 9 13 := ⟨RX9, TX9, 26, rfl, by decide, inV9, k_f_SampleDeskModel_212⟩
theorem fw_SampleDeskModel_212 : vFw RX9 212 9 13 .int false := ⟨RX9, TX9, 26, tyX9, rfl, by decide, inV9, k_f_SampleDeskModel_212, tyX9_ok, nmX9, tyX9_ok 13 (by decide), rfl, fun h => nomatch h⟩
theorem f_SampleDeskModel_215 : vF RX9 215 9 4 := ⟨RX9, TX9, 26, rfl, by decide, inV9, k_f_SampleDeskModel_215⟩
theorem fw_SampleDeskModel_215 : vFw RX9 215 9 4 .int false := ⟨RX9, TX9, 26, tyX9, rfl, by decide, inV9, k_f_SampleDeskModel_215, tyX9_ok, nmX9, tyX9_ok 4 (by decide), rfl, fun h => nomatch h⟩
theorem f_SampleDeskModel_218 : vF RX9 218 9 3 := ⟨RX9, TX9, 26, rfl, by decide, inV9, k_f_SampleDeskModel_218⟩
theorem fw_SampleDeskModel_218 : vFw RX9 218 9 3 .int false := ⟨RX9, TX9, 26, tyX9, rfl, by decide, inV9, k_f_SampleDeskModel_218, tyX9_ok, nmX9, tyX9_ok 3 (by decide), rfl, fun h => nomatch h⟩
theorem m_SampleDesk_77 : vMV RX8 77 yX7_append 1 := ⟨k_m_SampleDesk_77, k_instanceMethod_X7_append, k_selects_X7_append, k_ini_Tape, ⟨by decide, by decide⟩, by decide +kernel⟩
theorem m_SampleDesk_87 : vMV RX8 87 yX7_exchange 2 := ⟨k_m_SampleDesk_87, k_instanceMethod_X7_exchange, k_selects_X7_exchange, k_ini_Tape, ⟨by decide, by decide⟩, by decide +kernel⟩
theorem m_SampleDesk_94 : vMS RX8 94 yX8_isNoTable 1 := ⟨k_m_SampleDesk_94, k_static_X8_isNoTable, k_ini_SampleDesk, ⟨by decide, by decide⟩, by decide +kernel⟩
theorem m_SampleDesk_98 : vMV RX8 98 yX6_exchangeWeight 2 := ⟨k_m_SampleDesk_98, k_instanceMethod_X6_exchangeWeight, k_selects_X6_exchangeWeight, k_ini_Table, ⟨by decide, by decide⟩, by decide +kernel⟩
theorem m_SampleDesk_101 : vMV RX8 101 yX6_sumOfWeights 0 := ⟨k_m_SampleDesk_101, k_instanceMethod_X6_sumOfWeights, k_selects_X6_sumOfWeights, k_ini_Table, ⟨by decide, by decide⟩, by decide +kernel⟩
theorem m_SampleDesk_105 : vMV RX8 105 yX6_prepare 1 := ⟨k_m_SampleDesk_105, k_instanceMethod_X6_prepare, k_selects_X6_prepare, k_ini_Table, ⟨by decide, by decide⟩, by decide +kernel⟩
theorem m_SampleDesk_125 : vMV RX8 125 yX3_set 4 := ⟨k_m_SampleDesk_125, k_instanceMethod_X3_set, k_selects_X3_set, k_ini_Order, ⟨by decide, by decide⟩, by decide +kernel⟩
theorem m_SampleDesk_129 : vMV RX8 129 yX3_isAllowed 0 := ⟨k_m_SampleDesk_129, k_instanceMethod_X3_isAllowed, k_selects_X3_isAllowed, k_ini_Order, ⟨by decide, by decide⟩, by decide +kernel⟩
theorem m_SampleDesk_133 : vMV RX8 133 yX5_isReadyFor 1 := ⟨k_m_SampleDesk_133, k_instanceMethod_X5_isReadyFor, k_selects_X5_isReadyFor, k_ini_Sampler, ⟨by decide, by decide⟩, by decide +kernel⟩
theorem m_SampleDesk_144 : vMV RX8 144 yX0_open 3 := ⟨k_m_SampleDesk_144, k_instanceMethod_X0_open, k_selects_X0_open, k_ini_Dice, ⟨by decide, by decide⟩, by decide +kernel⟩
theorem m_SampleDesk_148 : vMV RX8 148 yX5_answer 1 := ⟨k_m_SampleDesk_148, k_instanceMethod_X5_answer, k_selects_X5_answer, k_ini_Sampler, ⟨by decide, by decide⟩, by decide +kernel⟩
theorem m_SampleDesk_159 : vMV RX8 159 yX8_keep 1 := ⟨k_m_SampleDesk_159, k_instanceMethod_X8_keep, k_selects_X8_keep, k_ini_SampleDesk, ⟨by decide, by decide⟩, by decide +kernel⟩
theorem m_SampleDesk_163 : vMV RX8 163 yX8_requireCountable 1 := ⟨k_m_SampleDesk_163, k_instanceMethod_X8_requireCountable, k_selects_X8_requireCountable, k_ini_SampleDesk, ⟨by decide, by decide⟩, by decide +kernel⟩
theorem m_SampleDesk_166 : vMV RX8 166 yX8_tally 3 := ⟨k_m_SampleDesk_166, k_instanceMethod_X8_tally, k_selects_X8_tally, k_ini_SampleDesk, ⟨by decide, by decide⟩, by decide +kernel⟩
theorem m_SampleDesk_171 : vMV RX8 171 yX2_cell 2 := ⟨k_m_SampleDesk_171, k_instanceMethod_X2_cell, k_selects_X2_cell, k_ini_Log, ⟨by decide, by decide⟩, by decide +kernel⟩
theorem m_SampleDesk_175 : vMV RX8 175 yX0_bitsRead 0 := ⟨k_m_SampleDesk_175, k_instanceMethod_X0_bitsRead, k_selects_X0_bitsRead, k_ini_Dice, ⟨by decide, by decide⟩, by decide +kernel⟩
theorem m_SampleDesk_183 : vMV RX8 183 yX4_checkSum 0 := ⟨k_m_SampleDesk_183, k_instanceMethod_X4_checkSum, k_selects_X4_checkSum, k_ini_Rows, ⟨by decide, by decide⟩, by decide +kernel⟩
theorem m_SampleDesk_189 : vMV RX8 189 yX2_add 5 := ⟨k_m_SampleDesk_189, k_instanceMethod_X2_add, k_selects_X2_add, k_ini_Log, ⟨by decide, by decide⟩, by decide +kernel⟩
theorem m_SampleDesk_204 : vMS RX8 204 yJ9_max_7cf53 2 := ⟨k_m_SampleDesk_204, k_static_J9_max_7cf53, k_ini_java_lang_Math, ⟨by decide, by decide⟩, by decide +kernel⟩
theorem m_Dice_22 : vMS RX0 22 yJ9_min_7cf53 2 := ⟨k_m_Dice_22, k_static_J9_min_7cf53, k_ini_java_lang_Math, ⟨by decide, by decide⟩, by decide +kernel⟩
theorem m_Dice_36 : vMV RX0 36 yX0_nextBit 0 := ⟨k_m_Dice_36, k_instanceMethod_X0_nextBit, k_selects_X0_nextBit, k_ini_Dice, ⟨by decide, by decide⟩, by decide +kernel⟩
theorem m_Dice_40 : vMV RX0 40 yX0_coin 2 := ⟨k_m_Dice_40, k_instanceMethod_X0_coin, k_selects_X0_coin, k_ini_Dice, ⟨by decide, by decide⟩, by decide +kernel⟩
theorem m_Dice_44 : vMV RX0 44 yX0_unitExponentialCoin 2 := ⟨k_m_Dice_44, k_instanceMethod_X0_unitExponentialCoin, k_selects_X0_unitExponentialCoin, k_ini_Dice, ⟨by decide, by decide⟩, by decide +kernel⟩
theorem m_Laws_21 : vMV RX1 21 yX0_coin 2 := ⟨k_m_Laws_21, k_instanceMethod_X0_coin, k_selects_X0_coin, k_ini_Dice, ⟨by decide, by decide⟩, by decide +kernel⟩
theorem m_Laws_27 : vMV RX1 27 yX1_poissonPart 2 := ⟨k_m_Laws_27, k_instanceMethod_X1_poissonPart, k_selects_X1_poissonPart, k_ini_Laws, ⟨by decide, by decide⟩, by decide +kernel⟩
theorem m_Laws_31 : vMV RX1 31 yX0_coinsInARow 2 := ⟨k_m_Laws_31, k_instanceMethod_X0_coinsInARow, k_selects_X0_coinsInARow, k_ini_Dice, ⟨by decide, by decide⟩, by decide +kernel⟩
theorem m_Laws_34 : vMV RX1 34 yX1_areZero 1 := ⟨k_m_Laws_34, k_instanceMethod_X1_areZero, k_selects_X1_areZero, k_ini_Laws, ⟨by decide, by decide⟩, by decide +kernel⟩
theorem m_Laws_38 : vMV RX1 38 yX0_uniform 1 := ⟨k_m_Laws_38, k_instanceMethod_X0_uniform, k_selects_X0_uniform, k_ini_Dice, ⟨by decide, by decide⟩, by decide +kernel⟩
theorem m_Laws_44 : vMV RX1 44 yX0_exponentialCoin 2 := ⟨k_m_Laws_44, k_instanceMethod_X0_exponentialCoin, k_selects_X0_exponentialCoin, k_ini_Dice, ⟨by decide, by decide⟩, by decide +kernel⟩
theorem m_Laws_47 : vMV RX1 47 yX1_exponentialCoinsInARow 0 := ⟨k_m_Laws_47, k_instanceMethod_X1_exponentialCoinsInARow, k_selects_X1_exponentialCoinsInARow, k_ini_Laws, ⟨by decide, by decide⟩, by decide +kernel⟩
theorem m_Laws_51 : vMV RX1 51 yX0_nextBit 0 := ⟨k_m_Laws_51, k_instanceMethod_X0_nextBit, k_selects_X0_nextBit, k_ini_Dice, ⟨by decide, by decide⟩, by decide +kernel⟩
theorem m_Laws_54 : vMV RX1 54 yX0_unitExponentialCoin 2 := ⟨k_m_Laws_54, k_instanceMethod_X0_unitExponentialCoin, k_selects_X0_unitExponentialCoin, k_ini_Dice, ⟨by decide, by decide⟩, by decide +kernel⟩
theorem m_Log_37 : vMS RX2 37 yJ9_min_7cf53 2 := ⟨k_m_Log_37, k_static_J9_min_7cf53, k_ini_java_lang_Math, ⟨by decide, by decide⟩, by decide +kernel⟩
theorem m_Order_24 : vMS RX3 24 yX3_isUpTo 2 := ⟨k_m_Order_24, k_static_X3_isUpTo, k_ini_Order, ⟨by decide, by decide⟩, by decide +kernel⟩
theorem m_Order_28 : vMV RX3 28 yX3_width 0 := ⟨k_m_Order_28, k_instanceMethod_X3_width, k_selects_X3_width, k_ini_Order, ⟨by decide, by decide⟩, by decide +kernel⟩
theorem m_Order_32 : vMS RX3 32 yX3_isRatio 3 := ⟨k_m_Order_32, k_static_X3_isRatio, k_ini_Order, ⟨by decide, by decide⟩, by decide +kernel⟩
theorem m_Rows_40 : vMV RX4 40 yX0_uniform 1 := ⟨k_m_Rows_40, k_instanceMethod_X0_uniform, k_selects_X0_uniform, k_ini_Dice, ⟨by decide, by decide⟩, by decide +kernel⟩
theorem m_Rows_44 : vMV RX4 44 yX4_shuffle 1 := ⟨k_m_Rows_44, k_instanceMethod_X4_shuffle, k_selects_X4_shuffle, k_ini_Rows, ⟨by decide, by decide⟩, by decide +kernel⟩
theorem m_Rows_48 : vMV RX4 48 yX0_coin 2 := ⟨k_m_Rows_48, k_instanceMethod_X0_coin, k_selects_X0_coin, k_ini_Dice, ⟨by decide, by decide⟩, by decide +kernel⟩
theorem m_Rows_52 : vMV RX4 52 yX4_walk 1 := ⟨k_m_Rows_52, k_instanceMethod_X4_walk, k_selects_X4_walk, k_ini_Rows, ⟨by decide, by decide⟩, by decide +kernel⟩
theorem m_Sampler_46 : vMV RX5 46 yX6_pick 1 := ⟨k_m_Sampler_46, k_instanceMethod_X6_pick, k_selects_X6_pick, k_ini_Table, ⟨by decide, by decide⟩, by decide +kernel⟩
theorem m_Sampler_50 : vMV RX5 50 yX3_width 0 := ⟨k_m_Sampler_50, k_instanceMethod_X3_width, k_selects_X3_width, k_ini_Order, ⟨by decide, by decide⟩, by decide +kernel⟩
theorem m_Sampler_54 : vMV RX5 54 yX0_uniform 1 := ⟨k_m_Sampler_54, k_instanceMethod_X0_uniform, k_selects_X0_uniform, k_ini_Dice, ⟨by decide, by decide⟩, by decide +kernel⟩
theorem m_Sampler_63 : vMV RX5 63 yX0_coin 2 := ⟨k_m_Sampler_63, k_instanceMethod_X0_coin, k_selects_X0_coin, k_ini_Dice, ⟨by decide, by decide⟩, by decide +kernel⟩
theorem m_Sampler_70 : vMV RX5 70 yX1_binomial 3 := ⟨k_m_Sampler_70, k_instanceMethod_X1_binomial, k_selects_X1_binomial, k_ini_Laws, ⟨by decide, by decide⟩, by decide +kernel⟩
theorem m_Sampler_76 : vMV RX5 76 yX1_geometric 3 := ⟨k_m_Sampler_76, k_instanceMethod_X1_geometric, k_selects_X1_geometric, k_ini_Laws, ⟨by decide, by decide⟩, by decide +kernel⟩
theorem m_Sampler_79 : vMV RX5 79 yX1_poisson 2 := ⟨k_m_Sampler_79, k_instanceMethod_X1_poisson, k_selects_X1_poisson, k_ini_Laws, ⟨by decide, by decide⟩, by decide +kernel⟩
theorem m_Sampler_83 : vMV RX5 83 yX1_hyper 3 := ⟨k_m_Sampler_83, k_instanceMethod_X1_hyper, k_selects_X1_hyper, k_ini_Laws, ⟨by decide, by decide⟩, by decide +kernel⟩
theorem m_Sampler_86 : vMV RX5 86 yX1_bell 2 := ⟨k_m_Sampler_86, k_instanceMethod_X1_bell, k_selects_X1_bell, k_ini_Laws, ⟨by decide, by decide⟩, by decide +kernel⟩
theorem m_Sampler_90 : vMV RX5 90 yX0_exponentialCoin 2 := ⟨k_m_Sampler_90, k_instanceMethod_X0_exponentialCoin, k_selects_X0_exponentialCoin, k_ini_Dice, ⟨by decide, by decide⟩, by decide +kernel⟩
theorem m_Sampler_93 : vMV RX5 93 yX4_shuffle 1 := ⟨k_m_Sampler_93, k_instanceMethod_X4_shuffle, k_selects_X4_shuffle, k_ini_Rows, ⟨by decide, by decide⟩, by decide +kernel⟩
theorem m_Sampler_97 : vMV RX5 97 yX4_subset 2 := ⟨k_m_Sampler_97, k_instanceMethod_X4_subset, k_selects_X4_subset, k_ini_Rows, ⟨by decide, by decide⟩, by decide +kernel⟩
theorem m_Sampler_101 : vMV RX5 101 yX4_path 1 := ⟨k_m_Sampler_101, k_instanceMethod_X4_path, k_selects_X4_path, k_ini_Rows, ⟨by decide, by decide⟩, by decide +kernel⟩
theorem m_Sampler_104 : vMV RX5 104 yX4_tree 1 := ⟨k_m_Sampler_104, k_instanceMethod_X4_tree, k_selects_X4_tree, k_ini_Rows, ⟨by decide, by decide⟩, by decide +kernel⟩
theorem m_Sampler_107 : vMV RX5 107 yX4_stratum 2 := ⟨k_m_Sampler_107, k_instanceMethod_X4_stratum, k_selects_X4_stratum, k_ini_Rows, ⟨by decide, by decide⟩, by decide +kernel⟩
theorem m_Table_36 : vMV RX6 36 yX6_sumOfWeights 0 := ⟨k_m_Table_36, k_instanceMethod_X6_sumOfWeights, k_selects_X6_sumOfWeights, k_ini_Table, ⟨by decide, by decide⟩, by decide +kernel⟩
theorem m_Table_40 : vMV RX6 40 yX6_pair 0 := ⟨k_m_Table_40, k_instanceMethod_X6_pair, k_selects_X6_pair, k_ini_Table, ⟨by decide, by decide⟩, by decide +kernel⟩
theorem m_Table_43 : vMV RX6 43 yX6_takeShares 0 := ⟨k_m_Table_43, k_instanceMethod_X6_takeShares, k_selects_X6_takeShares, k_ini_Table, ⟨by decide, by decide⟩, by decide +kernel⟩
theorem m_Table_47 : vMV RX6 47 yX6_firstLarge 1 := ⟨k_m_Table_47, k_instanceMethod_X6_firstLarge, k_selects_X6_firstLarge, k_ini_Table, ⟨by decide, by decide⟩, by decide +kernel⟩
theorem m_Table_51 : vMV RX6 51 yX6_pickByTree 1 := ⟨k_m_Table_51, k_instanceMethod_X6_pickByTree, k_selects_X6_pickByTree, k_ini_Table, ⟨by decide, by decide⟩, by decide +kernel⟩
theorem m_Table_55 : vMV RX6 55 yX6_pickByAlias 1 := ⟨k_m_Table_55, k_instanceMethod_X6_pickByAlias, k_selects_X6_pickByAlias, k_ini_Table, ⟨by decide, by decide⟩, by decide +kernel⟩
theorem m_Table_58 : vMV RX6 58 yX0_uniform 1 := ⟨k_m_Table_58, k_instanceMethod_X0_uniform, k_selects_X0_uniform, k_ini_Dice, ⟨by decide, by decide⟩, by decide +kernel⟩
theorem m_Table_64 : vMV RX6 64 yX0_coin 2 := ⟨k_m_Table_64, k_instanceMethod_X0_coin, k_selects_X0_coin, k_ini_Dice, ⟨by decide, by decide⟩, by decide +kernel⟩
theorem m_Table_73 : vMV RX6 73 yX0_nextBit 0 := ⟨k_m_Table_73, k_instanceMethod_X0_nextBit, k_selects_X0_nextBit, k_ini_Dice, ⟨by decide, by decide⟩, by decide +kernel⟩
theorem m_SampleDeskLaw_7 : vMV RL 7 yX8_feed 4 := ⟨k_m_SampleDeskLaw_7, k_instanceMethod_X8_feed, k_selects_X8_feed, k_ini_SampleDesk, ⟨by decide, by decide⟩, by decide +kernel⟩
theorem m_SampleDeskLaw_15 : vMV RL 15 yX8_bit 2 := ⟨k_m_SampleDeskLaw_15, k_instanceMethod_X8_bit, k_selects_X8_bit, k_ini_SampleDesk, ⟨by decide, by decide⟩, by decide +kernel⟩
theorem m_SampleDeskLaw_23 : vMV RL 23 yX8_rewind 1 := ⟨k_m_SampleDeskLaw_23, k_instanceMethod_X8_rewind, k_selects_X8_rewind, k_ini_SampleDesk, ⟨by decide, by decide⟩, by decide +kernel⟩
theorem m_SampleDeskLaw_27 : vMV RL 27 yX8_weight 3 := ⟨k_m_SampleDeskLaw_27, k_instanceMethod_X8_weight, k_selects_X8_weight, k_ini_SampleDesk, ⟨by decide, by decide⟩, by decide +kernel⟩
theorem m_SampleDeskLaw_31 : vMV RL 31 yX8_build 2 := ⟨k_m_SampleDeskLaw_31, k_instanceMethod_X8_build, k_selects_X8_build, k_ini_SampleDesk, ⟨by decide, by decide⟩, by decide +kernel⟩
theorem m_SampleDeskLaw_35 : vMV RL 35 yX8_alias 3 := ⟨k_m_SampleDeskLaw_35, k_instanceMethod_X8_alias, k_selects_X8_alias, k_ini_SampleDesk, ⟨by decide, by decide⟩, by decide +kernel⟩
theorem m_SampleDeskLaw_39 : vMV RL 39 yX8_draw 4 := ⟨k_m_SampleDeskLaw_39, k_instanceMethod_X8_draw, k_selects_X8_draw, k_ini_SampleDesk, ⟨by decide, by decide⟩, by decide +kernel⟩
theorem m_SampleDeskLaw_45 : vMV RL 45 yX8_item 1 := ⟨k_m_SampleDeskLaw_45, k_instanceMethod_X8_item, k_selects_X8_item, k_ini_SampleDesk, ⟨by decide, by decide⟩, by decide +kernel⟩
theorem m_SampleDeskLaw_48 : vMV RL 48 yX8_decided 6 := ⟨k_m_SampleDeskLaw_48, k_instanceMethod_X8_decided, k_selects_X8_decided, k_ini_SampleDesk, ⟨by decide, by decide⟩, by decide +kernel⟩
theorem m_SampleDeskLaw_52 : vMV RL 52 yX8_undecided 5 := ⟨k_m_SampleDeskLaw_52, k_instanceMethod_X8_undecided, k_selects_X8_undecided, k_ini_SampleDesk, ⟨by decide, by decide⟩, by decide +kernel⟩
theorem m_SampleDeskLaw_56 : vMV RL 56 yX8_journal 2 := ⟨k_m_SampleDeskLaw_56, k_instanceMethod_X8_journal, k_selects_X8_journal, k_ini_SampleDesk, ⟨by decide, by decide⟩, by decide +kernel⟩
theorem m_SampleDeskLaw_59 : vMV RL 59 yX8_replay 1 := ⟨k_m_SampleDeskLaw_59, k_instanceMethod_X8_replay, k_selects_X8_replay, k_ini_SampleDesk, ⟨by decide, by decide⟩, by decide +kernel⟩
theorem m_SampleDeskLaw_67 : vMS RL 67 yL_feed 6 := ⟨k_m_SampleDeskLaw_67, k_static_L_feed, k_ini_SampleDeskLaw, ⟨by decide, by decide⟩, by decide +kernel⟩
theorem m_SampleDeskLaw_72 : vMV RL 72 yX9_feed 4 := ⟨k_m_SampleDeskLaw_72, k_instanceMethod_X9_feed, k_selects_X9_feed, k_ini_SampleDeskModel, ⟨by decide, by decide⟩, by decide +kernel⟩
theorem m_SampleDeskLaw_73 : vMV RL 73 yX9_thrown 0 := ⟨k_m_SampleDeskLaw_73, k_instanceMethod_X9_thrown, k_selects_X9_thrown, k_ini_SampleDeskModel, ⟨by decide, by decide⟩, by decide +kernel⟩
theorem m_SampleDeskLaw_77 : vMS RL 77 yL_bit 4 := ⟨k_m_SampleDeskLaw_77, k_static_L_bit, k_ini_SampleDeskLaw, ⟨by decide, by decide⟩, by decide +kernel⟩
theorem m_SampleDeskLaw_80 : vMV RL 80 yX9_bit 2 := ⟨k_m_SampleDeskLaw_80, k_instanceMethod_X9_bit, k_selects_X9_bit, k_ini_SampleDeskModel, ⟨by decide, by decide⟩, by decide +kernel⟩
theorem m_SampleDeskLaw_81 : vMS RL 81 yL_rewind 3 := ⟨k_m_SampleDeskLaw_81, k_static_L_rewind, k_ini_SampleDeskLaw, ⟨by decide, by decide⟩, by decide +kernel⟩
theorem m_SampleDeskLaw_84 : vMV RL 84 yX9_rewind 1 := ⟨k_m_SampleDeskLaw_84, k_instanceMethod_X9_rewind, k_selects_X9_rewind, k_ini_SampleDeskModel, ⟨by decide, by decide⟩, by decide +kernel⟩
theorem m_SampleDeskLaw_85 : vMS RL 85 yL_weight 5 := ⟨k_m_SampleDeskLaw_85, k_static_L_weight, k_ini_SampleDeskLaw, ⟨by decide, by decide⟩, by decide +kernel⟩
theorem m_SampleDeskLaw_88 : vMV RL 88 yX9_weight 3 := ⟨k_m_SampleDeskLaw_88, k_instanceMethod_X9_weight, k_selects_X9_weight, k_ini_SampleDeskModel, ⟨by decide, by decide⟩, by decide +kernel⟩
theorem m_SampleDeskLaw_89 : vMS RL 89 yL_build 4 := ⟨k_m_SampleDeskLaw_89, k_static_L_build, k_ini_SampleDeskLaw, ⟨by decide, by decide⟩, by decide +kernel⟩
theorem m_SampleDeskLaw_91 : vMV RL 91 yX9_build 2 := ⟨k_m_SampleDeskLaw_91, k_instanceMethod_X9_build, k_selects_X9_build, k_ini_SampleDeskModel, ⟨by decide, by decide⟩, by decide +kernel⟩
theorem m_SampleDeskLaw_92 : vMS RL 92 yL_alias 5 := ⟨k_m_SampleDeskLaw_92, k_static_L_alias, k_ini_SampleDeskLaw, ⟨by decide, by decide⟩, by decide +kernel⟩
theorem m_SampleDeskLaw_94 : vMV RL 94 yX9_alias 3 := ⟨k_m_SampleDeskLaw_94, k_instanceMethod_X9_alias, k_selects_X9_alias, k_ini_SampleDeskModel, ⟨by decide, by decide⟩, by decide +kernel⟩
theorem m_SampleDeskLaw_95 : vMS RL 95 yL_draw 6 := ⟨k_m_SampleDeskLaw_95, k_static_L_draw, k_ini_SampleDeskLaw, ⟨by decide, by decide⟩, by decide +kernel⟩
theorem m_SampleDeskLaw_97 : vMV RL 97 yX9_draw 4 := ⟨k_m_SampleDeskLaw_97, k_instanceMethod_X9_draw, k_selects_X9_draw, k_ini_SampleDeskModel, ⟨by decide, by decide⟩, by decide +kernel⟩
theorem m_SampleDeskLaw_98 : vMS RL 98 yL_item 3 := ⟨k_m_SampleDeskLaw_98, k_static_L_item, k_ini_SampleDeskLaw, ⟨by decide, by decide⟩, by decide +kernel⟩
theorem m_SampleDeskLaw_100 : vMV RL 100 yX9_item 1 := ⟨k_m_SampleDeskLaw_100, k_instanceMethod_X9_item, k_selects_X9_item, k_ini_SampleDeskModel, ⟨by decide, by decide⟩, by decide +kernel⟩
theorem m_SampleDeskLaw_101 : vMS RL 101 yL_decided 8 := ⟨k_m_SampleDeskLaw_101, k_static_L_decided, k_ini_SampleDeskLaw, ⟨by decide, by decide⟩, by decide +kernel⟩
theorem m_SampleDeskLaw_104 : vMV RL 104 yX9_decided 6 := ⟨k_m_SampleDeskLaw_104, k_instanceMethod_X9_decided, k_selects_X9_decided, k_ini_SampleDeskModel, ⟨by decide, by decide⟩, by decide +kernel⟩
theorem m_SampleDeskLaw_105 : vMS RL 105 yL_undecided 7 := ⟨k_m_SampleDeskLaw_105, k_static_L_undecided, k_ini_SampleDeskLaw, ⟨by decide, by decide⟩, by decide +kernel⟩
theorem m_SampleDeskLaw_108 : vMV RL 108 yX9_undecided 5 := ⟨k_m_SampleDeskLaw_108, k_instanceMethod_X9_undecided, k_selects_X9_undecided, k_ini_SampleDeskModel, ⟨by decide, by decide⟩, by decide +kernel⟩
theorem m_SampleDeskLaw_109 : vMS RL 109 yL_journal 4 := ⟨k_m_SampleDeskLaw_109, k_static_L_journal, k_ini_SampleDeskLaw, ⟨by decide, by decide⟩, by decide +kernel⟩
theorem m_SampleDeskLaw_111 : vMV RL 111 yX9_journal 2 := ⟨k_m_SampleDeskLaw_111, k_instanceMethod_X9_journal, k_selects_X9_journal, k_ini_SampleDeskModel, ⟨by decide, by decide⟩, by decide +kernel⟩
theorem m_SampleDeskLaw_112 : vMS RL 112 yL_replay 3 := ⟨k_m_SampleDeskLaw_112, k_static_L_replay, k_ini_SampleDeskLaw, ⟨by decide, by decide⟩, by decide +kernel⟩
theorem m_SampleDeskLaw_114 : vMV RL 114 yX9_replay 1 := ⟨k_m_SampleDeskLaw_114, k_instanceMethod_X9_replay, k_selects_X9_replay, k_ini_SampleDeskModel, ⟨by decide, by decide⟩, by decide +kernel⟩
theorem m_SampleDeskLaw_115 : vMV RL 115 yX8_count 1 := ⟨k_m_SampleDeskLaw_115, k_instanceMethod_X8_count, k_selects_X8_count, k_ini_SampleDesk, ⟨by decide, by decide⟩, by decide +kernel⟩
theorem m_SampleDeskLaw_118 : vMV RL 118 yX9_count 1 := ⟨k_m_SampleDeskLaw_118, k_instanceMethod_X9_count, k_selects_X9_count, k_ini_SampleDeskModel, ⟨by decide, by decide⟩, by decide +kernel⟩
theorem m_SampleDeskModel_54 : vMV RX9 54 yX9_fail 1 := ⟨k_m_SampleDeskModel_54, k_instanceMethod_X9_fail, k_selects_X9_fail, k_ini_SampleDeskModel, ⟨by decide, by decide⟩, by decide +kernel⟩
theorem m_SampleDeskModel_58 : vMS RX9 58 yX9_within 3 := ⟨k_m_SampleDeskModel_58, k_static_X9_within, k_ini_SampleDeskModel, ⟨by decide, by decide⟩, by decide +kernel⟩
theorem m_SampleDeskModel_69 : vMV RX9 69 yX9_sum 1 := ⟨k_m_SampleDeskModel_69, k_instanceMethod_X9_sum, k_selects_X9_sum, k_ini_SampleDeskModel, ⟨by decide, by decide⟩, by decide +kernel⟩
theorem m_SampleDeskModel_73 : vMV RX9 73 yX9_findAliases 1 := ⟨k_m_SampleDeskModel_73, k_instanceMethod_X9_findAliases, k_selects_X9_findAliases, k_ini_SampleDeskModel, ⟨by decide, by decide⟩, by decide +kernel⟩
theorem m_SampleDeskModel_98 : vMV RX9 98 yX9_nextBit 0 := ⟨k_m_SampleDeskModel_98, k_instanceMethod_X9_nextBit, k_selects_X9_nextBit, k_ini_SampleDeskModel, ⟨by decide, by decide⟩, by decide +kernel⟩
theorem m_SampleDeskModel_102 : vMV RX9 102 yX9_fromTree 1 := ⟨k_m_SampleDeskModel_102, k_instanceMethod_X9_fromTree, k_selects_X9_fromTree, k_ini_SampleDeskModel, ⟨by decide, by decide⟩, by decide +kernel⟩
theorem m_SampleDeskModel_105 : vMV RX9 105 yX9_uniform 1 := ⟨k_m_SampleDeskModel_105, k_instanceMethod_X9_uniform, k_selects_X9_uniform, k_ini_SampleDeskModel, ⟨by decide, by decide⟩, by decide +kernel⟩
theorem m_SampleDeskModel_109 : vMV RX9 109 yX9_coin 2 := ⟨k_m_SampleDeskModel_109, k_instanceMethod_X9_coin, k_selects_X9_coin, k_ini_SampleDeskModel, ⟨by decide, by decide⟩, by decide +kernel⟩
theorem m_SampleDeskModel_113 : vMV RX9 113 yX9_unitExponential 2 := ⟨k_m_SampleDeskModel_113, k_instanceMethod_X9_unitExponential, k_selects_X9_unitExponential, k_ini_SampleDeskModel, ⟨by decide, by decide⟩, by decide +kernel⟩
theorem m_SampleDeskModel_116 : vMV RX9 116 yX9_once 2 := ⟨k_m_SampleDeskModel_116, k_instanceMethod_X9_once, k_selects_X9_once, k_ini_SampleDeskModel, ⟨by decide, by decide⟩, by decide +kernel⟩
theorem m_SampleDeskModel_120 : vMV RX9 120 yX9_exponential 2 := ⟨k_m_SampleDeskModel_120, k_instanceMethod_X9_exponential, k_selects_X9_exponential, k_ini_SampleDeskModel, ⟨by decide, by decide⟩, by decide +kernel⟩
theorem m_SampleDeskModel_128 : vMV RX9 128 yX9_path 1 := ⟨k_m_SampleDeskModel_128, k_instanceMethod_X9_path, k_selects_X9_path, k_ini_SampleDeskModel, ⟨by decide, by decide⟩, by decide +kernel⟩
theorem m_SampleDeskModel_131 : vMV RX9 131 yX9_below 1 := ⟨k_m_SampleDeskModel_131, k_instanceMethod_X9_below, k_selects_X9_below, k_ini_SampleDeskModel, ⟨by decide, by decide⟩, by decide +kernel⟩
theorem m_SampleDeskModel_134 : vMV RX9 134 yX9_shuffle 1 := ⟨k_m_SampleDeskModel_134, k_instanceMethod_X9_shuffle, k_selects_X9_shuffle, k_ini_SampleDeskModel, ⟨by decide, by decide⟩, by decide +kernel⟩
theorem m_SampleDeskModel_137 : vMV RX9 137 yX9_subset 2 := ⟨k_m_SampleDeskModel_137, k_instanceMethod_X9_subset, k_selects_X9_subset, k_ini_SampleDeskModel, ⟨by decide, by decide⟩, by decide +kernel⟩
theorem m_SampleDeskModel_141 : vMV RX9 141 yX9_tree 1 := ⟨k_m_SampleDeskModel_141, k_instanceMethod_X9_tree, k_selects_X9_tree, k_ini_SampleDeskModel, ⟨by decide, by decide⟩, by decide +kernel⟩
theorem m_SampleDeskModel_144 : vMV RX9 144 yX9_stratum 2 := ⟨k_m_SampleDeskModel_144, k_instanceMethod_X9_stratum, k_selects_X9_stratum, k_ini_SampleDeskModel, ⟨by decide, by decide⟩, by decide +kernel⟩
theorem m_SampleDeskModel_149 : vMS RX9 149 yX9_isChance 2 := ⟨k_m_SampleDeskModel_149, k_static_X9_isChance, k_ini_SampleDeskModel, ⟨by decide, by decide⟩, by decide +kernel⟩
theorem m_SampleDeskModel_165 : vMV RX9 165 yX9_fromTable 1 := ⟨k_m_SampleDeskModel_165, k_instanceMethod_X9_fromTable, k_selects_X9_fromTable, k_ini_SampleDeskModel, ⟨by decide, by decide⟩, by decide +kernel⟩
theorem m_SampleDeskModel_170 : vMV RX9 170 yX9_binomial 3 := ⟨k_m_SampleDeskModel_170, k_instanceMethod_X9_binomial, k_selects_X9_binomial, k_ini_SampleDeskModel, ⟨by decide, by decide⟩, by decide +kernel⟩
theorem m_SampleDeskModel_174 : vMV RX9 174 yX9_geometric 3 := ⟨k_m_SampleDeskModel_174, k_instanceMethod_X9_geometric, k_selects_X9_geometric, k_ini_SampleDeskModel, ⟨by decide, by decide⟩, by decide +kernel⟩
theorem m_SampleDeskModel_177 : vMV RX9 177 yX9_poisson 2 := ⟨k_m_SampleDeskModel_177, k_instanceMethod_X9_poisson, k_selects_X9_poisson, k_ini_SampleDeskModel, ⟨by decide, by decide⟩, by decide +kernel⟩
theorem m_SampleDeskModel_180 : vMV RX9 180 yX9_hyper 3 := ⟨k_m_SampleDeskModel_180, k_instanceMethod_X9_hyper, k_selects_X9_hyper, k_ini_SampleDeskModel, ⟨by decide, by decide⟩, by decide +kernel⟩
theorem m_SampleDeskModel_183 : vMV RX9 183 yX9_bell 2 := ⟨k_m_SampleDeskModel_183, k_instanceMethod_X9_bell, k_selects_X9_bell, k_ini_SampleDeskModel, ⟨by decide, by decide⟩, by decide +kernel⟩
theorem m_SampleDeskModel_186 : vMV RX9 186 yX9_makeItems 3 := ⟨k_m_SampleDeskModel_186, k_instanceMethod_X9_makeItems, k_selects_X9_makeItems, k_ini_SampleDeskModel, ⟨by decide, by decide⟩, by decide +kernel⟩
theorem m_SampleDeskModel_194 : vMV RX9 194 yX9_sumOfItems 1 := ⟨k_m_SampleDeskModel_194, k_instanceMethod_X9_sumOfItems, k_selects_X9_sumOfItems, k_ini_SampleDeskModel, ⟨by decide, by decide⟩, by decide +kernel⟩
theorem m_SampleDeskModel_197 : vMS RX9 197 yX9_canBe 4 := ⟨k_m_SampleDeskModel_197, k_static_X9_canBe, k_ini_SampleDeskModel, ⟨by decide, by decide⟩, by decide +kernel⟩
theorem m_SampleDeskModel_201 : vMV RX9 201 yX9_isReady 2 := ⟨k_m_SampleDeskModel_201, k_instanceMethod_X9_isReady, k_selects_X9_isReady, k_ini_SampleDeskModel, ⟨by decide, by decide⟩, by decide +kernel⟩
theorem m_SampleDeskModel_204 : vMV RX9 204 yX9_go 5 := ⟨k_m_SampleDeskModel_204, k_instanceMethod_X9_go, k_selects_X9_go, k_ini_SampleDeskModel, ⟨by decide, by decide⟩, by decide +kernel⟩
theorem m_SampleDeskModel_208 : vMV RX9 208 yX9_note 5 := ⟨k_m_SampleDeskModel_208, k_instanceMethod_X9_note, k_selects_X9_note, k_ini_SampleDeskModel, ⟨by decide, by decide⟩, by decide +kernel⟩
theorem m_SampleDeskModel_223 : vMV RX9 223 yX9_canTry 5 := ⟨k_m_SampleDeskModel_223, k_instanceMethod_X9_canTry, k_selects_X9_canTry, k_ini_SampleDeskModel, ⟨by decide, by decide⟩, by decide +kernel⟩
theorem m_SampleDeskModel_227 : vMV RX9 227 yX9_tryAll 7 := ⟨k_m_SampleDeskModel_227, k_instanceMethod_X9_tryAll, k_selects_X9_tryAll, k_ini_SampleDeskModel, ⟨by decide, by decide⟩, by decide +kernel⟩
