set_option maxRecDepth 20000 in
theorem fl_X0_9 : xFl RX0 9 0 1 (.array .int) true := ⟨(RX0, TX0, 7), rfl, by decide, by decide +kernel, rfl, rfl, Or.inl (xT_1 121 rfl rfl)⟩
set_option maxRecDepth 20000 in
theorem fl_X0_15 : xFl RX0 15 0 2 (.array .int) true := ⟨(RX0, TX0, 7), rfl, by decide, by decide +kernel, rfl, rfl, Or.inl (xT_1 123 rfl rfl)⟩
set_option maxRecDepth 20000 in
theorem fl_X0_18 : xFl RX0 18 0 3 (.array .int) true := ⟨(RX0, TX0, 7), rfl, by decide, by decide +kernel, rfl, rfl, Or.inl (xT_1 125 rfl rfl)⟩
set_option maxRecDepth 20000 in
theorem fl_X0_21 : xFl RX0 21 0 4 (.array .int) true := ⟨(RX0, TX0, 7), rfl, by decide, by decide +kernel, rfl, rfl, Or.inl (xT_1 128 rfl rfl)⟩
set_option maxRecDepth 20000 in
theorem fl_X0_24 : xFl RX0 24 0 0 (.object "NotAnOx$Land") true := ⟨(RX0, TX0, 7), rfl, by decide, by decide +kernel, rfl, rfl, Or.inl (xT_1 120 rfl rfl)⟩
set_option maxRecDepth 20000 in
theorem fl_X0_28 : xFl RX0 28 0 5 (.int) false := ⟨(RX0, TX0, 7), rfl, by decide, by decide +kernel, rfl, rfl, Or.inl (xT_1 131 rfl rfl)⟩
set_option maxRecDepth 20000 in
theorem fl_X0_32 : xFl RX0 32 0 6 (.int) false := ⟨(RX0, TX0, 7), rfl, by decide, by decide +kernel, rfl, rfl, Or.inl (xT_1 133 rfl rfl)⟩
set_option maxRecDepth 20000 in
theorem fl_X0_35 : xFl RX0 35 2 1 (.array .int) true := ⟨(RX2, TX2, 8), rfl, by decide, by decide +kernel, rfl, rfl, Or.inr ⟨"NotAnOx", xN_1 72 rfl rfl⟩⟩
set_option maxRecDepth 20000 in
theorem cm_X0_44 : xCm mX0_open 44 mJ7_fill_53178 2 := ⟨xT_2 106 rfl rfl, xT_1 16 rfl rfl, ⟨by decide, by decide, by decide +kernel⟩, by decide, Or.inl (xT_2 157 rfl rfl)⟩
set_option maxRecDepth 20000 in
theorem fl_X0_50 : xFl RX0 50 2 2 (.array .int) true := ⟨(RX2, TX2, 8), rfl, by decide, by decide +kernel, rfl, rfl, Or.inr ⟨"NotAnOx", xN_1 74 rfl rfl⟩⟩
set_option maxRecDepth 20000 in
theorem cm_X0_53 : xCm mX0_copyFrom 53 mX0_copyEntries 1 := ⟨xT_3 55 rfl rfl, xT_1 5 rfl rfl, ⟨by decide, by decide, by decide +kernel⟩, by decide, Or.inl (xT_3 52 rfl rfl)⟩
set_option maxRecDepth 20000 in
theorem cm_X0_57 : xCm mX0_canBeChecked 57 mX0_holds 1 := ⟨xT_2 237 rfl rfl, xT_1 5 rfl rfl, ⟨by decide, by decide, by decide +kernel⟩, by decide, Or.inl (xT_3 34 rfl rfl)⟩
set_option maxRecDepth 20000 in
theorem cm_X0_61 : xCm mX0_canBeChecked 61 mX0_isChecked 1 := ⟨xT_3 1 rfl rfl, xT_1 5 rfl rfl, ⟨by decide, by decide, by decide +kernel⟩, by decide, Or.inl (xT_3 73 rfl rfl)⟩
set_option maxRecDepth 20000 in
theorem fl_X0_64 : xFl RX0 64 2 4 (.array (.array .int)) true := ⟨(RX2, TX2, 8), rfl, by decide, by decide +kernel, rfl, rfl, Or.inr ⟨"NotAnOx", xN_1 80 rfl rfl⟩⟩
set_option maxRecDepth 20000 in
theorem fl_X0_69 : xFl RX0 69 2 5 (.int) false := ⟨(RX2, TX2, 8), rfl, by decide, by decide +kernel, rfl, rfl, Or.inr ⟨"NotAnOx", xN_1 87 rfl rfl⟩⟩
set_option maxRecDepth 20000 in
theorem cm_X0_72 : xCm mX0_restSize 72 mX0_rest 0 := ⟨xT_3 105 rfl rfl, xT_1 5 rfl rfl, ⟨by decide, by decide, by decide +kernel⟩, by decide, Or.inl (xT_3 110 rfl rfl)⟩
set_option maxRecDepth 20000 in
theorem cm_X0_76 : xCm mX0_restSize 76 mJ6_bitCount_0f7a4 1 := ⟨xT_3 113 rfl rfl, xT_1 19 rfl rfl, ⟨by decide, by decide, by decide +kernel⟩, by decide, Or.inl (xT_3 111 rfl rfl)⟩
set_option maxRecDepth 20000 in
theorem fl_X0_82 : xFl RX0 82 2 3 (.array .int) true := ⟨(RX2, TX2, 8), rfl, by decide, by decide +kernel, rfl, rfl, Or.inr ⟨"NotAnOx", xN_1 77 rfl rfl⟩⟩
set_option maxRecDepth 20000 in
theorem cm_X0_85 : xCm mX0_sworn 85 mX9_lowestOf 1 := ⟨xT_3 8 rfl rfl, xT_1 1 rfl rfl, ⟨by decide, by decide, by decide +kernel⟩, by decide, Or.inr ⟨"NotAnOx", xN_3 6 rfl rfl⟩⟩
set_option maxRecDepth 20000 in
theorem cm_X0_88 : xCm mX0_sworn 88 mX0_copied 2 := ⟨xT_3 12 rfl rfl, xT_1 5 rfl rfl, ⟨by decide, by decide, by decide +kernel⟩, by decide, Or.inl (xT_3 9 rfl rfl)⟩
set_option maxRecDepth 20000 in
theorem cm_X0_92 : xCm mX0_swear 92 mX0_sworn 3 := ⟨xT_3 5 rfl rfl, xT_1 5 rfl rfl, ⟨by decide, by decide, by decide +kernel⟩, by decide, Or.inl (xT_3 64 rfl rfl)⟩
set_option maxRecDepth 20000 in
theorem fl_X0_96 : xFl RX0 96 2 0 (.array .int) true := ⟨(RX2, TX2, 8), rfl, by decide, by decide +kernel, rfl, rfl, Or.inr ⟨"NotAnOx", xN_1 70 rfl rfl⟩⟩
set_option maxRecDepth 20000 in
theorem fl_X0_99 : xFl RX0 99 2 7 (.int) false := ⟨(RX2, TX2, 8), rfl, by decide, by decide +kernel, rfl, rfl, Or.inr ⟨"NotAnOx", xN_1 96 rfl rfl⟩⟩
set_option maxRecDepth 20000 in
theorem cm_X0_102 : xCm mX0_askBy 102 mX0_swear 3 := ⟨xT_3 63 rfl rfl, xT_1 5 rfl rfl, ⟨by decide, by decide, by decide +kernel⟩, by decide, Or.inl (xT_3 60 rfl rfl)⟩
set_option maxRecDepth 20000 in
theorem fl_X0_105 : xFl RX0 105 2 6 (.int) false := ⟨(RX2, TX2, 8), rfl, by decide, by decide +kernel, rfl, rfl, Or.inr ⟨"NotAnOx", xN_1 91 rfl rfl⟩⟩
set_option maxRecDepth 20000 in
theorem cm_X0_108 : xCm mX0_mostDays 108 mJ9_max_7cf53 2 := ⟨xT_1 158 rfl rfl, xT_1 7 rfl rfl, ⟨by decide, by decide, by decide +kernel⟩, by decide, Or.inl (xT_4 31 rfl rfl)⟩
set_option maxRecDepth 20000 in
theorem fl_X1_9 : xFl RX1 9 1 0 (.object "NotAnOx$Land") true := ⟨(RX1, TX1, 4), rfl, by decide, by decide +kernel, rfl, rfl, Or.inl (xT_2 20 rfl rfl)⟩
set_option maxRecDepth 20000 in
theorem cm_X1_17 : xCm mX1_init 17 mX0_init 1 := ⟨xT_1 118 rfl rfl, xT_1 5 rfl rfl, ⟨by decide, by decide, by decide +kernel⟩, by decide, Or.inl (xT_2 19 rfl rfl)⟩
set_option maxRecDepth 20000 in
theorem fl_X1_20 : xFl RX1 20 1 1 (.object "NotAnOx$Book") true := ⟨(RX1, TX1, 4), rfl, by decide, by decide +kernel, rfl, rfl, Or.inl (xT_2 21 rfl rfl)⟩
set_option maxRecDepth 20000 in
theorem cm_X1_24 : xCm mX1_weigh 24 mX0_rest 0 := ⟨xT_3 105 rfl rfl, xT_1 5 rfl rfl, ⟨by decide, by decide, by decide +kernel⟩, by decide, Or.inl (xT_3 235 rfl rfl)⟩
set_option maxRecDepth 20000 in
theorem fl_X1_28 : xFl RX1 28 1 2 (.int) false := ⟨(RX1, TX1, 4), rfl, by decide, by decide +kernel, rfl, rfl, Or.inl (xT_2 22 rfl rfl)⟩
set_option maxRecDepth 20000 in
theorem cm_X1_32 : xCm mX1_weigh 32 mX1_weightOf 3 := ⟨xT_3 238 rfl rfl, xT_1 11 rfl rfl, ⟨by decide, by decide, by decide +kernel⟩, by decide, Or.inl (xT_3 236 rfl rfl)⟩
set_option maxRecDepth 20000 in
theorem fl_X1_36 : xFl RX1 36 1 3 (.int) false := ⟨(RX1, TX1, 4), rfl, by decide, by decide +kernel, rfl, rfl, Or.inl (xT_2 24 rfl rfl)⟩
set_option maxRecDepth 20000 in
theorem cm_X1_39 : xCm mX1_weigh 39 mX1_foundWith 2 := ⟨xT_4 2 rfl rfl, xT_1 11 rfl rfl, ⟨by decide, by decide, by decide +kernel⟩, by decide, Or.inl (xT_3 239 rfl rfl)⟩
set_option maxRecDepth 20000 in
theorem cm_X1_43 : xCm mX1_weigh 43 mX1_commonDivisor 2 := ⟨xT_4 9 rfl rfl, xT_1 11 rfl rfl, ⟨by decide, by decide, by decide +kernel⟩, by decide, Or.inl (xT_4 7 rfl rfl)⟩
set_option maxRecDepth 20000 in
theorem fl_X1_47 : xFl RX1 47 2 7 (.int) false := ⟨(RX2, TX2, 8), rfl, by decide, by decide +kernel, rfl, rfl, Or.inr ⟨"NotAnOx", xN_1 94 rfl rfl⟩⟩
set_option maxRecDepth 20000 in
theorem cm_X1_52 : xCm mX1_foundWith 52 mX0_copyEntries 1 := ⟨xT_3 55 rfl rfl, xT_1 5 rfl rfl, ⟨by decide, by decide, by decide +kernel⟩, by decide, Or.inl (xT_4 3 rfl rfl)⟩
set_option maxRecDepth 20000 in
theorem fl_X1_56 : xFl RX1 56 2 5 (.int) false := ⟨(RX2, TX2, 8), rfl, by decide, by decide +kernel, rfl, rfl, Or.inr ⟨"NotAnOx", xN_1 84 rfl rfl⟩⟩
set_option maxRecDepth 20000 in
theorem cm_X1_59 : xCm mX1_foundWith 59 mX0_holds 1 := ⟨xT_2 237 rfl rfl, xT_1 5 rfl rfl, ⟨by decide, by decide, by decide +kernel⟩, by decide, Or.inl (xT_4 4 rfl rfl)⟩
set_option maxRecDepth 20000 in
theorem fl_X1_63 : xFl RX1 63 2 0 (.array .int) true := ⟨(RX2, TX2, 8), rfl, by decide, by decide +kernel, rfl, rfl, Or.inr ⟨"NotAnOx", xN_1 68 rfl rfl⟩⟩
set_option maxRecDepth 20000 in
theorem cm_X1_67 : xCm mX1_foundWith 67 mX0_swear 3 := ⟨xT_3 63 rfl rfl, xT_1 5 rfl rfl, ⟨by decide, by decide, by decide +kernel⟩, by decide, Or.inl (xT_4 5 rfl rfl)⟩
set_option maxRecDepth 20000 in
theorem cm_X1_70 : xCm mX1_foundWith 70 mX0_found 0 := ⟨xT_3 164 rfl rfl, xT_1 5 rfl rfl, ⟨by decide, by decide, by decide +kernel⟩, by decide, Or.inl (xT_4 6 rfl rfl)⟩
set_option maxRecDepth 20000 in
theorem fl_X2_9 : xFl RX2 9 2 0 (.array .int) true := ⟨(RX2, TX2, 8), rfl, by decide, by decide +kernel, rfl, rfl, Or.inl (xT_1 66 rfl rfl)⟩
set_option maxRecDepth 20000 in
theorem fl_X2_15 : xFl RX2 15 2 1 (.array .int) true := ⟨(RX2, TX2, 8), rfl, by decide, by decide +kernel, rfl, rfl, Or.inl (xT_1 71 rfl rfl)⟩
set_option maxRecDepth 20000 in
theorem fl_X2_18 : xFl RX2 18 2 2 (.array .int) true := ⟨(RX2, TX2, 8), rfl, by decide, by decide +kernel, rfl, rfl, Or.inl (xT_1 73 rfl rfl)⟩
set_option maxRecDepth 20000 in
theorem fl_X2_21 : xFl RX2 21 2 3 (.array .int) true := ⟨(RX2, TX2, 8), rfl, by decide, by decide +kernel, rfl, rfl, Or.inl (xT_1 75 rfl rfl)⟩
set_option maxRecDepth 20000 in
theorem fl_X2_26 : xFl RX2 26 2 4 (.array (.array .int)) true := ⟨(RX2, TX2, 8), rfl, by decide, by decide +kernel, rfl, rfl, Or.inl (xT_1 78 rfl rfl)⟩
set_option maxRecDepth 20000 in
theorem fl_X2_29 : xFl RX2 29 2 5 (.int) false := ⟨(RX2, TX2, 8), rfl, by decide, by decide +kernel, rfl, rfl, Or.inl (xT_1 82 rfl rfl)⟩
set_option maxRecDepth 20000 in
theorem fl_X2_33 : xFl RX2 33 2 6 (.int) false := ⟨(RX2, TX2, 8), rfl, by decide, by decide +kernel, rfl, rfl, Or.inl (xT_1 88 rfl rfl)⟩
set_option maxRecDepth 20000 in
theorem fl_X2_36 : xFl RX2 36 2 7 (.int) false := ⟨(RX2, TX2, 8), rfl, by decide, by decide +kernel, rfl, rfl, Or.inl (xT_1 92 rfl rfl)⟩
set_option maxRecDepth 20000 in
theorem cm_X2_39 : xCm mX2_clear 39 mJ7_fill_53178 2 := ⟨xT_2 106 rfl rfl, xT_1 16 rfl rfl, ⟨by decide, by decide, by decide +kernel⟩, by decide, Or.inl (xT_2 104 rfl rfl)⟩
set_option maxRecDepth 20000 in
theorem cm_X2_46 : xCm mX2_addVillage 46 mX9_isWithin 3 := ⟨xT_2 130 rfl rfl, xT_1 1 rfl rfl, ⟨by decide, by decide, by decide +kernel⟩, by decide, Or.inr ⟨"NotAnOx", xN_2 128 rfl rfl⟩⟩
set_option maxRecDepth 20000 in
theorem cm_X2_50 : xCm mX2_addWay 50 mX2_isTold 1 := ⟨xT_2 138 rfl rfl, xT_1 4 rfl rfl, ⟨by decide, by decide, by decide +kernel⟩, by decide, Or.inl (xT_2 135 rfl rfl)⟩
set_option maxRecDepth 20000 in
theorem cm_X2_54 : xCm mX2_measure 54 mJ9_min_7cf53 2 := ⟨xT_2 149 rfl rfl, xT_1 7 rfl rfl, ⟨by decide, by decide, by decide +kernel⟩, by decide, Or.inl (xT_2 147 rfl rfl)⟩
set_option maxRecDepth 20000 in
theorem fl_X3_11 : xFl RX3 11 3 1 (.array (.object "NotAnOx$Book")) true := ⟨(RX3, TX3, 8), rfl, by decide, by decide +kernel, rfl, rfl, Or.inl (xT_1 226 rfl rfl)⟩
set_option maxRecDepth 20000 in
theorem fl_X3_17 : xFl RX3 17 3 2 (.array .int) true := ⟨(RX3, TX3, 8), rfl, by decide, by decide +kernel, rfl, rfl, Or.inl (xT_1 227 rfl rfl)⟩
set_option maxRecDepth 20000 in
theorem fl_X3_21 : xFl RX3 21 3 3 (.array .int) true := ⟨(RX3, TX3, 8), rfl, by decide, by decide +kernel, rfl, rfl, Or.inl (xT_1 228 rfl rfl)⟩
set_option maxRecDepth 20000 in
theorem fl_X3_24 : xFl RX3 24 3 0 (.object "NotAnOx$Land") true := ⟨(RX3, TX3, 8), rfl, by decide, by decide +kernel, rfl, rfl, Or.inl (xT_1 225 rfl rfl)⟩
set_option maxRecDepth 20000 in
theorem cm_X3_28 : xCm mX3_init 28 mX0_init 1 := ⟨xT_1 118 rfl rfl, xT_1 5 rfl rfl, ⟨by decide, by decide, by decide +kernel⟩, by decide, Or.inl (xT_1 224 rfl rfl)⟩
set_option maxRecDepth 20000 in
theorem fl_X3_31 : xFl RX3 31 3 4 (.boolean) false := ⟨(RX3, TX3, 8), rfl, by decide, by decide +kernel, rfl, rfl, Or.inl (xT_1 230 rfl rfl)⟩
set_option maxRecDepth 20000 in
theorem fl_X3_35 : xFl RX3 35 3 5 (.boolean) false := ⟨(RX3, TX3, 8), rfl, by decide, by decide +kernel, rfl, rfl, Or.inl (xT_1 231 rfl rfl)⟩
set_option maxRecDepth 20000 in
theorem cm_X3_38 : xCm mX3_seek 38 mX0_restSize 0 := ⟨xT_3 109 rfl rfl, xT_1 5 rfl rfl, ⟨by decide, by decide, by decide +kernel⟩, by decide, Or.inl (xT_3 155 rfl rfl)⟩
set_option maxRecDepth 20000 in
theorem fl_X3_42 : xFl RX3 42 3 6 (.int) false := ⟨(RX3, TX3, 8), rfl, by decide, by decide +kernel, rfl, rfl, Or.inl (xT_1 232 rfl rfl)⟩
set_option maxRecDepth 20000 in
theorem cm_X3_45 : xCm mX3_seek 45 mX0_copyEntries 1 := ⟨xT_3 55 rfl rfl, xT_1 5 rfl rfl, ⟨by decide, by decide, by decide +kernel⟩, by decide, Or.inl (xT_3 156 rfl rfl)⟩
set_option maxRecDepth 20000 in
theorem cm_X3_49 : xCm mX3_seek 49 mX3_goOn 1 := ⟨xT_3 160 rfl rfl, xT_1 10 rfl rfl, ⟨by decide, by decide, by decide +kernel⟩, by decide, Or.inl (xT_3 157 rfl rfl)⟩
set_option maxRecDepth 20000 in
theorem cm_X3_53 : xCm mX3_goOn 53 mX0_found 0 := ⟨xT_3 164 rfl rfl, xT_1 5 rfl rfl, ⟨by decide, by decide, by decide +kernel⟩, by decide, Or.inl (xT_3 161 rfl rfl)⟩
set_option maxRecDepth 20000 in
theorem cm_X3_56 : xCm mX3_goOn 56 mX3_weighOrder 1 := ⟨xT_3 168 rfl rfl, xT_1 10 rfl rfl, ⟨by decide, by decide, by decide +kernel⟩, by decide, Or.inl (xT_3 165 rfl rfl)⟩
set_option maxRecDepth 20000 in
theorem cm_X3_59 : xCm mX3_goOn 59 mX0_rest 0 := ⟨xT_3 105 rfl rfl, xT_1 5 rfl rfl, ⟨by decide, by decide, by decide +kernel⟩, by decide, Or.inl (xT_3 170 rfl rfl)⟩
set_option maxRecDepth 20000 in
theorem fl_X3_62 : xFl RX3 62 2 5 (.int) false := ⟨(RX2, TX2, 8), rfl, by decide, by decide +kernel, rfl, rfl, Or.inr ⟨"NotAnOx", xN_1 83 rfl rfl⟩⟩
set_option maxRecDepth 20000 in
theorem fl_X3_67 : xFl RX3 67 2 0 (.array .int) true := ⟨(RX2, TX2, 8), rfl, by decide, by decide +kernel, rfl, rfl, Or.inr ⟨"NotAnOx", xN_1 67 rfl rfl⟩⟩
set_option maxRecDepth 20000 in
theorem fl_X3_70 : xFl RX3 70 2 7 (.int) false := ⟨(RX2, TX2, 8), rfl, by decide, by decide +kernel, rfl, rfl, Or.inr ⟨"NotAnOx", xN_1 93 rfl rfl⟩⟩
set_option maxRecDepth 20000 in
theorem cm_X3_73 : xCm mX3_goOn 73 mX0_swear 3 := ⟨xT_3 63 rfl rfl, xT_1 5 rfl rfl, ⟨by decide, by decide, by decide +kernel⟩, by decide, Or.inl (xT_3 171 rfl rfl)⟩
set_option maxRecDepth 20000 in
theorem fl_X3_77 : xFl RX3 77 3 7 (.int) false := ⟨(RX3, TX3, 8), rfl, by decide, by decide +kernel, rfl, rfl, Or.inl (xT_1 233 rfl rfl)⟩
set_option maxRecDepth 20000 in
theorem cm_X4_7 : xCm mX4_init 7 mJ9_max_7cf53 2 := ⟨xT_1 158 rfl rfl, xT_1 7 rfl rfl, ⟨by decide, by decide, by decide +kernel⟩, by decide, Or.inl (xT_1 156 rfl rfl)⟩
set_option maxRecDepth 20000 in
theorem fl_X4_15 : xFl RX4 15 4 0 (.array (.object "NotAnOx$Book")) true := ⟨(RX4, TX4, 3), rfl, by decide, by decide +kernel, rfl, rfl, Or.inl (xT_1 162 rfl rfl)⟩
set_option maxRecDepth 20000 in
theorem cm_X4_21 : xCm mX4_init 21 mX0_init 1 := ⟨xT_1 118 rfl rfl, xT_1 5 rfl rfl, ⟨by decide, by decide, by decide +kernel⟩, by decide, Or.inl (xT_1 161 rfl rfl)⟩
set_option maxRecDepth 20000 in
theorem fl_X4_24 : xFl RX4 24 4 2 (.int) false := ⟨(RX4, TX4, 3), rfl, by decide, by decide +kernel, rfl, rfl, Or.inl (xT_1 164 rfl rfl)⟩
set_option maxRecDepth 20000 in
theorem fl_X4_28 : xFl RX4 28 4 1 (.int) false := ⟨(RX4, TX4, 3), rfl, by decide, by decide +kernel, rfl, rfl, Or.inl (xT_1 163 rfl rfl)⟩
set_option maxRecDepth 20000 in
theorem cm_X4_31 : xCm mX4_push 31 mX4_isFull 0 := ⟨xT_3 43 rfl rfl, xT_1 6 rfl rfl, ⟨by decide, by decide, by decide +kernel⟩, by decide, Or.inl (xT_3 40 rfl rfl)⟩
set_option maxRecDepth 20000 in
theorem cm_X4_35 : xCm mX4_push 35 mX4_slotOf 1 := ⟨xT_3 47 rfl rfl, xT_1 6 rfl rfl, ⟨by decide, by decide, by decide +kernel⟩, by decide, Or.inl (xT_3 44 rfl rfl)⟩
set_option maxRecDepth 20000 in
theorem cm_X4_39 : xCm mX4_push 39 mX0_copyFrom 1 := ⟨xT_3 51 rfl rfl, xT_1 5 rfl rfl, ⟨by decide, by decide, by decide +kernel⟩, by decide, Or.inl (xT_3 48 rfl rfl)⟩
set_option maxRecDepth 20000 in
theorem fl_X5_9 : xFl RX5 9 5 0 (.array .int) true := ⟨(RX5, TX5, 2), rfl, by decide, by decide +kernel, rfl, rfl, Or.inl (xT_1 50 rfl rfl)⟩
set_option maxRecDepth 20000 in
theorem cm_X5_15 : xCm mX5_readAll 15 mX2_clear 0 := ⟨xT_2 103 rfl rfl, xT_1 4 rfl rfl, ⟨by decide, by decide, by decide +kernel⟩, by decide, Or.inl (xT_2 100 rfl rfl)⟩
set_option maxRecDepth 20000 in
theorem fl_X5_20 : xFl RX5 20 5 1 (.int) false := ⟨(RX5, TX5, 2), rfl, by decide, by decide +kernel, rfl, rfl, Or.inl (xT_1 51 rfl rfl)⟩
set_option maxRecDepth 20000 in
theorem fl_X5_24 : xFl RX5 24 6 1 (.int) false := ⟨(RX6, TX6, 2), rfl, by decide, by decide +kernel, rfl, rfl, Or.inr ⟨"NotAnOx", xN_1 36 rfl rfl⟩⟩
set_option maxRecDepth 20000 in
theorem cm_X5_29 : xCm mX5_readAll 29 mX5_readItem 2 := ⟨xT_2 111 rfl rfl, xT_1 3 rfl rfl, ⟨by decide, by decide, by decide +kernel⟩, by decide, Or.inl (xT_2 108 rfl rfl)⟩
set_option maxRecDepth 20000 in
theorem cm_X5_33 : xCm mX5_readItem 33 mX6_letterAt 1 := ⟨xT_2 115 rfl rfl, xT_1 2 rfl rfl, ⟨by decide, by decide, by decide +kernel⟩, by decide, Or.inl (xT_2 112 rfl rfl)⟩
set_option maxRecDepth 20000 in
theorem cm_X5_37 : xCm mX5_readItem 37 mX5_readNumbers 2 := ⟨xT_2 119 rfl rfl, xT_1 3 rfl rfl, ⟨by decide, by decide, by decide +kernel⟩, by decide, Or.inl (xT_2 116 rfl rfl)⟩
set_option maxRecDepth 20000 in
theorem cm_X5_41 : xCm mX5_readItem 41 mX2_addVillage 2 := ⟨xT_2 127 rfl rfl, xT_1 4 rfl rfl, ⟨by decide, by decide, by decide +kernel⟩, by decide, Or.inl (xT_2 124 rfl rfl)⟩
set_option maxRecDepth 20000 in
theorem cm_X5_45 : xCm mX5_readItem 45 mX2_addWay 3 := ⟨xT_2 134 rfl rfl, xT_1 4 rfl rfl, ⟨by decide, by decide, by decide +kernel⟩, by decide, Or.inl (xT_2 131 rfl rfl)⟩
set_option maxRecDepth 20000 in
theorem cm_X5_49 : xCm mX5_readItem 49 mX2_addParty 1 := ⟨xT_2 142 rfl rfl, xT_1 4 rfl rfl, ⟨by decide, by decide, by decide +kernel⟩, by decide, Or.inl (xT_2 139 rfl rfl)⟩
set_option maxRecDepth 20000 in
theorem cm_X5_53 : xCm mX5_readNumbers 53 mX5_readNumber 1 := ⟨xT_2 123 rfl rfl, xT_1 3 rfl rfl, ⟨by decide, by decide, by decide +kernel⟩, by decide, Or.inl (xT_2 120 rfl rfl)⟩
set_option maxRecDepth 20000 in
theorem fl_X6_9 : xFl RX6 9 6 0 (.array .char) true := ⟨(RX6, TX6, 2), rfl, by decide, by decide +kernel, rfl, rfl, Or.inl (xT_1 34 rfl rfl)⟩
set_option maxRecDepth 20000 in
theorem fl_X6_15 : xFl RX6 15 6 1 (.int) false := ⟨(RX6, TX6, 2), rfl, by decide, by decide +kernel, rfl, rfl, Or.inl (xT_1 35 rfl rfl)⟩
set_option maxRecDepth 20000 in
theorem cm_X6_19 : xCm mX6_add 19 mX6_isFull 0 := ⟨xT_2 91 rfl rfl, xT_1 2 rfl rfl, ⟨by decide, by decide, by decide +kernel⟩, by decide, Or.inl (xT_2 88 rfl rfl)⟩
set_option maxRecDepth 20000 in
theorem fl_X7_9 : xFl RX7 9 7 1 (.array .int) true := ⟨(RX7, TX7, 6), rfl, by decide, by decide +kernel, rfl, rfl, Or.inl (xT_1 198 rfl rfl)⟩
set_option maxRecDepth 20000 in
theorem fl_X7_17 : xFl RX7 17 7 2 (.array (.array .int)) true := ⟨(RX7, TX7, 6), rfl, by decide, by decide +kernel, rfl, rfl, Or.inl (xT_1 199 rfl rfl)⟩
set_option maxRecDepth 20000 in
theorem fl_X7_20 : xFl RX7 20 7 3 (.array .int) true := ⟨(RX7, TX7, 6), rfl, by decide, by decide +kernel, rfl, rfl, Or.inl (xT_1 200 rfl rfl)⟩
set_option maxRecDepth 20000 in
theorem fl_X7_23 : xFl RX7 23 7 4 (.array .int) true := ⟨(RX7, TX7, 6), rfl, by decide, by decide +kernel, rfl, rfl, Or.inl (xT_1 201 rfl rfl)⟩
set_option maxRecDepth 20000 in
theorem fl_X7_26 : xFl RX7 26 7 0 (.object "NotAnOx$Land") true := ⟨(RX7, TX7, 6), rfl, by decide, by decide +kernel, rfl, rfl, Or.inl (xT_1 197 rfl rfl)⟩
set_option maxRecDepth 20000 in
theorem cm_X7_30 : xCm mX7_seek 30 mX0_rest 0 := ⟨xT_3 105 rfl rfl, xT_1 5 rfl rfl, ⟨by decide, by decide, by decide +kernel⟩, by decide, Or.inl (xT_3 102 rfl rfl)⟩
set_option maxRecDepth 20000 in
theorem cm_X7_36 : xCm mX7_seek 36 mX0_restSize 0 := ⟨xT_3 109 rfl rfl, xT_1 5 rfl rfl, ⟨by decide, by decide, by decide +kernel⟩, by decide, Or.inl (xT_3 106 rfl rfl)⟩
set_option maxRecDepth 20000 in
theorem fl_X7_39 : xFl RX7 39 2 6 (.int) false := ⟨(RX2, TX2, 8), rfl, by decide, by decide +kernel, rfl, rfl, Or.inr ⟨"NotAnOx", xN_1 89 rfl rfl⟩⟩
set_option maxRecDepth 20000 in
theorem fl_X7_45 : xFl RX7 45 0 3 (.array .int) true := ⟨(RX0, TX0, 7), rfl, by decide, by decide +kernel, rfl, rfl, Or.inr ⟨"NotAnOx", xN_1 126 rfl rfl⟩⟩
set_option maxRecDepth 20000 in
theorem cm_X7_48 : xCm mX7_seek 48 mX7_walkFrom 3 := ⟨xT_3 120 rfl rfl, xT_1 9 rfl rfl, ⟨by decide, by decide, by decide +kernel⟩, by decide, Or.inl (xT_3 117 rfl rfl)⟩
set_option maxRecDepth 20000 in
theorem fl_X7_52 : xFl RX7 52 7 5 (.int) false := ⟨(RX7, TX7, 6), rfl, by decide, by decide +kernel, rfl, rfl, Or.inl (xT_1 202 rfl rfl)⟩
set_option maxRecDepth 20000 in
theorem cm_X7_55 : xCm mX7_seek 55 mX7_shareOut 2 := ⟨xT_3 130 rfl rfl, xT_1 9 rfl rfl, ⟨by decide, by decide, by decide +kernel⟩, by decide, Or.inl (xT_3 127 rfl rfl)⟩
set_option maxRecDepth 20000 in
theorem cm_X7_59 : xCm mX7_seek 59 mX7_daysOfShares 1 := ⟨xT_3 135 rfl rfl, xT_1 9 rfl rfl, ⟨by decide, by decide, by decide +kernel⟩, by decide, Or.inl (xT_3 132 rfl rfl)⟩
set_option maxRecDepth 20000 in
theorem fl_X7_70 : xFl RX7 70 2 5 (.int) false := ⟨(RX2, TX2, 8), rfl, by decide, by decide +kernel, rfl, rfl, Or.inr ⟨"NotAnOx", xN_1 85 rfl rfl⟩⟩
set_option maxRecDepth 20000 in
theorem cm_X7_73 : xCm mX7_walkFrom 73 mX7_walkTo 3 := ⟨xT_3 125 rfl rfl, xT_1 9 rfl rfl, ⟨by decide, by decide, by decide +kernel⟩, by decide, Or.inl (xT_3 122 rfl rfl)⟩
set_option maxRecDepth 20000 in
theorem cm_X7_77 : xCm mX7_walkFrom 77 mJ9_min_7cf53 2 := ⟨xT_2 149 rfl rfl, xT_1 7 rfl rfl, ⟨by decide, by decide, by decide +kernel⟩, by decide, Or.inl (xT_3 126 rfl rfl)⟩
set_option maxRecDepth 20000 in
theorem fl_X7_83 : xFl RX7 83 2 4 (.array (.array .int)) true := ⟨(RX2, TX2, 8), rfl, by decide, by decide +kernel, rfl, rfl, Or.inr ⟨"NotAnOx", xN_1 79 rfl rfl⟩⟩
set_option maxRecDepth 20000 in
theorem cm_X7_86 : xCm mX7_shareOut 86 mJ7_fill_53178 2 := ⟨xT_2 106 rfl rfl, xT_1 16 rfl rfl, ⟨by decide, by decide, by decide +kernel⟩, by decide, Or.inl (xT_3 131 rfl rfl)⟩
set_option maxRecDepth 20000 in
theorem fl_X7_92 : xFl RX7 92 0 4 (.array .int) true := ⟨(RX0, TX0, 7), rfl, by decide, by decide +kernel, rfl, rfl, Or.inr ⟨"NotAnOx", xN_1 130 rfl rfl⟩⟩
set_option maxRecDepth 20000 in
theorem cm_X7_95 : xCm mX7_daysOfShares 95 mJ9_max_7cf53 2 := ⟨xT_1 158 rfl rfl, xT_1 7 rfl rfl, ⟨by decide, by decide, by decide +kernel⟩, by decide, Or.inl (xT_3 136 rfl rfl)⟩
set_option maxRecDepth 20000 in
theorem fl_X8_9 : xFl RX8 9 8 0 (.array .int) true := ⟨(RX8, TX8, 3), rfl, by decide, by decide +kernel, rfl, rfl, Or.inl (xT_1 179 rfl rfl)⟩
set_option maxRecDepth 20000 in
theorem fl_X8_15 : xFl RX8 15 8 1 (.array .int) true := ⟨(RX8, TX8, 3), rfl, by decide, by decide +kernel, rfl, rfl, Or.inl (xT_1 180 rfl rfl)⟩
set_option maxRecDepth 20000 in
theorem fl_X8_18 : xFl RX8 18 8 2 (.int) false := ⟨(RX8, TX8, 3), rfl, by decide, by decide +kernel, rfl, rfl, Or.inl (xT_1 181 rfl rfl)⟩
set_option maxRecDepth 20000 in
theorem cm_X8_22 : xCm mX8_add 22 mX8_isFull 0 := ⟨xT_3 197 rfl rfl, xT_1 8 rfl rfl, ⟨by decide, by decide, by decide +kernel⟩, by decide, Or.inl (xT_3 202 rfl rfl)⟩
set_option maxRecDepth 20000 in
theorem cm_X9_11 : xCm mX9_init 11 mX6_init 0 := ⟨xT_1 32 rfl rfl, xT_1 2 rfl rfl, ⟨by decide, by decide, by decide +kernel⟩, by decide, Or.inr ⟨"NotAnOx", xN_1 30 rfl rfl⟩⟩
set_option maxRecDepth 20000 in
theorem fl_X9_12 : xFl RX9 12 9 0 (.object "NotAnOx$Scroll") true := ⟨(RX9, TX9, 12), rfl, by decide, by decide +kernel, rfl, rfl, Or.inl (xT_2 170 rfl rfl)⟩
set_option maxRecDepth 20000 in
theorem cm_X9_18 : xCm mX9_init 18 mX5_init 0 := ⟨xT_1 48 rfl rfl, xT_1 3 rfl rfl, ⟨by decide, by decide, by decide +kernel⟩, by decide, Or.inr ⟨"NotAnOx", xN_1 46 rfl rfl⟩⟩
set_option maxRecDepth 20000 in
theorem fl_X9_19 : xFl RX9 19 9 1 (.object "NotAnOx$Reader") true := ⟨(RX9, TX9, 12), rfl, by decide, by decide +kernel, rfl, rfl, Or.inl (xT_2 171 rfl rfl)⟩
set_option maxRecDepth 20000 in
theorem cm_X9_25 : xCm mX9_init 25 mX2_init 0 := ⟨xT_1 62 rfl rfl, xT_1 4 rfl rfl, ⟨by decide, by decide, by decide +kernel⟩, by decide, Or.inr ⟨"NotAnOx", xN_1 60 rfl rfl⟩⟩
set_option maxRecDepth 20000 in
theorem fl_X9_26 : xFl RX9 26 9 2 (.object "NotAnOx$Land") true := ⟨(RX9, TX9, 12), rfl, by decide, by decide +kernel, rfl, rfl, Or.inl (xT_2 172 rfl rfl)⟩
set_option maxRecDepth 20000 in
theorem fl_X9_30 : xFl RX9 30 9 3 (.object "NotAnOx$Land") true := ⟨(RX9, TX9, 12), rfl, by decide, by decide +kernel, rfl, rfl, Or.inl (xT_2 173 rfl rfl)⟩
set_option maxRecDepth 20000 in
theorem cm_X9_35 : xCm mX9_init 35 mX0_init 1 := ⟨xT_1 118 rfl rfl, xT_1 5 rfl rfl, ⟨by decide, by decide, by decide +kernel⟩, by decide, Or.inl (xT_1 116 rfl rfl)⟩
set_option maxRecDepth 20000 in
theorem fl_X9_38 : xFl RX9 38 9 4 (.object "NotAnOx$Book") true := ⟨(RX9, TX9, 12), rfl, by decide, by decide +kernel, rfl, rfl, Or.inl (xT_2 174 rfl rfl)⟩
set_option maxRecDepth 20000 in
theorem fl_X9_42 : xFl RX9 42 9 5 (.object "NotAnOx$Book") true := ⟨(RX9, TX9, 12), rfl, by decide, by decide +kernel, rfl, rfl, Or.inl (xT_2 175 rfl rfl)⟩
set_option maxRecDepth 20000 in
theorem cm_X9_47 : xCm mX9_init 47 mX4_init 2 := ⟨xT_1 154 rfl rfl, xT_1 6 rfl rfl, ⟨by decide, by decide, by decide +kernel⟩, by decide, Or.inl (xT_1 152 rfl rfl)⟩
set_option maxRecDepth 20000 in
theorem fl_X9_50 : xFl RX9 50 9 6 (.object "NotAnOx$Pile") true := ⟨(RX9, TX9, 12), rfl, by decide, by decide +kernel, rfl, rfl, Or.inl (xT_2 176 rfl rfl)⟩
set_option maxRecDepth 20000 in
theorem fl_X9_54 : xFl RX9 54 9 7 (.object "NotAnOx$Pile") true := ⟨(RX9, TX9, 12), rfl, by decide, by decide +kernel, rfl, rfl, Or.inl (xT_2 177 rfl rfl)⟩
set_option maxRecDepth 20000 in
theorem cm_X9_59 : xCm mX9_init 59 mX8_init 0 := ⟨xT_1 177 rfl rfl, xT_1 8 rfl rfl, ⟨by decide, by decide, by decide +kernel⟩, by decide, Or.inr ⟨"NotAnOx", xN_1 175 rfl rfl⟩⟩
set_option maxRecDepth 20000 in
theorem fl_X9_60 : xFl RX9 60 9 8 (.object "NotAnOx$Sightings") true := ⟨(RX9, TX9, 12), rfl, by decide, by decide +kernel, rfl, rfl, Or.inl (xT_2 178 rfl rfl)⟩
set_option maxRecDepth 20000 in
theorem cm_X9_66 : xCm mX9_init 66 mX7_init 1 := ⟨xT_1 194 rfl rfl, xT_1 9 rfl rfl, ⟨by decide, by decide, by decide +kernel⟩, by decide, Or.inl (xT_1 192 rfl rfl)⟩
set_option maxRecDepth 20000 in
theorem fl_X9_67 : xFl RX9 67 9 9 (.object "NotAnOx$Sharing") true := ⟨(RX9, TX9, 12), rfl, by decide, by decide +kernel, rfl, rfl, Or.inl (xT_2 179 rfl rfl)⟩
set_option maxRecDepth 20000 in
theorem cm_X9_73 : xCm mX9_init 73 mX3_init 1 := ⟨xT_1 221 rfl rfl, xT_1 10 rfl rfl, ⟨by decide, by decide, by decide +kernel⟩, by decide, Or.inl (xT_1 219 rfl rfl)⟩
set_option maxRecDepth 20000 in
theorem fl_X9_74 : xFl RX9 74 9 10 (.object "NotAnOx$Orders") true := ⟨(RX9, TX9, 12), rfl, by decide, by decide +kernel, rfl, rfl, Or.inl (xT_2 180 rfl rfl)⟩
set_option maxRecDepth 20000 in
theorem cm_X9_80 : xCm mX9_init 80 mX1_init 1 := ⟨xT_2 16 rfl rfl, xT_1 11 rfl rfl, ⟨by decide, by decide, by decide +kernel⟩, by decide, Or.inl (xT_2 14 rfl rfl)⟩
set_option maxRecDepth 20000 in
theorem fl_X9_81 : xFl RX9 81 9 11 (.object "NotAnOx$Chance") true := ⟨(RX9, TX9, 12), rfl, by decide, by decide +kernel, rfl, rfl, Or.inl (xT_2 181 rfl rfl)⟩
set_option maxRecDepth 20000 in
theorem cm_X9_87 : xCm mX9_init 87 mJ0_length_8abf5 0 := ⟨xT_2 39 rfl rfl, xT_1 12 rfl rfl, ⟨by decide, by decide, by decide +kernel⟩, by decide, Or.inl (xT_2 36 rfl rfl)⟩
set_option maxRecDepth 20000 in
theorem cm_X9_93 : xCm mX9_init 93 mJ0_charAt_5068e 1 := ⟨xT_2 49 rfl rfl, xT_1 12 rfl rfl, ⟨by decide, by decide, by decide +kernel⟩, by decide, Or.inl (xT_2 46 rfl rfl)⟩
set_option maxRecDepth 20000 in
theorem cm_X9_97 : xCm mX9_init 97 mX6_add 1 := ⟨xT_2 87 rfl rfl, xT_1 2 rfl rfl, ⟨by decide, by decide, by decide +kernel⟩, by decide, Or.inl (xT_2 84 rfl rfl)⟩
set_option maxRecDepth 20000 in
theorem cm_X9_101 : xCm mX9_init 101 mX9_layScroll 0 := ⟨xT_2 95 rfl rfl, xT_1 1 rfl rfl, ⟨by decide, by decide, by decide +kernel⟩, by decide, Or.inl (xT_2 92 rfl rfl)⟩
set_option maxRecDepth 20000 in
theorem cm_X9_104 : xCm mX9_init 104 mX6_clear 0 := ⟨xT_2 169 rfl rfl, xT_1 2 rfl rfl, ⟨by decide, by decide, by decide +kernel⟩, by decide, Or.inl (xT_2 166 rfl rfl)⟩
set_option maxRecDepth 20000 in
theorem cm_X9_107 : xCm mX9_write 107 mX9_isWithin 3 := ⟨xT_2 130 rfl rfl, xT_1 1 rfl rfl, ⟨by decide, by decide, by decide +kernel⟩, by decide, Or.inl (xT_2 212 rfl rfl)⟩
set_option maxRecDepth 20000 in
theorem cm_X9_111 : xCm mX9_write 111 mX6_isFull 0 := ⟨xT_2 91 rfl rfl, xT_1 2 rfl rfl, ⟨by decide, by decide, by decide +kernel⟩, by decide, Or.inl (xT_2 213 rfl rfl)⟩
set_option maxRecDepth 20000 in
theorem fl_X9_115 : xFl RX9 115 6 1 (.int) false := ⟨(RX6, TX6, 2), rfl, by decide, by decide +kernel, rfl, rfl, Or.inr ⟨"NotAnOx", xN_1 37 rfl rfl⟩⟩
set_option maxRecDepth 20000 in
theorem cm_X9_119 : xCm mX9_fault 119 mX5_readAll 2 := ⟨xT_2 99 rfl rfl, xT_1 3 rfl rfl, ⟨by decide, by decide, by decide +kernel⟩, by decide, Or.inl (xT_2 96 rfl rfl)⟩
set_option maxRecDepth 20000 in
theorem fl_X9_123 : xFl RX9 123 2 5 (.int) false := ⟨(RX2, TX2, 8), rfl, by decide, by decide +kernel, rfl, rfl, Or.inr ⟨"NotAnOx", xN_1 86 rfl rfl⟩⟩
set_option maxRecDepth 20000 in
theorem fl_X9_126 : xFl RX9 126 2 6 (.int) false := ⟨(RX2, TX2, 8), rfl, by decide, by decide +kernel, rfl, rfl, Or.inr ⟨"NotAnOx", xN_1 90 rfl rfl⟩⟩
set_option maxRecDepth 20000 in
theorem cm_X9_129 : xCm mX9_village 129 mX9_isVillage 1 := ⟨xT_2 233 rfl rfl, xT_1 1 rfl rfl, ⟨by decide, by decide, by decide +kernel⟩, by decide, Or.inl (xT_2 230 rfl rfl)⟩
set_option maxRecDepth 20000 in
theorem fl_X9_133 : xFl RX9 133 2 0 (.array .int) true := ⟨(RX2, TX2, 8), rfl, by decide, by decide +kernel, rfl, rfl, Or.inr ⟨"NotAnOx", xN_1 69 rfl rfl⟩⟩
set_option maxRecDepth 20000 in
theorem fl_X9_137 : xFl RX9 137 0 1 (.array .int) true := ⟨(RX0, TX0, 7), rfl, by decide, by decide +kernel, rfl, rfl, Or.inr ⟨"NotAnOx", xN_1 122 rfl rfl⟩⟩
set_option maxRecDepth 20000 in
theorem cm_X9_140 : xCm mX9_village 140 mX0_holds 1 := ⟨xT_2 237 rfl rfl, xT_1 5 rfl rfl, ⟨by decide, by decide, by decide +kernel⟩, by decide, Or.inl (xT_2 234 rfl rfl)⟩
set_option maxRecDepth 20000 in
theorem fl_X9_143 : xFl RX9 143 0 2 (.array .int) true := ⟨(RX0, TX0, 7), rfl, by decide, by decide +kernel, rfl, rfl, Or.inr ⟨"NotAnOx", xN_1 124 rfl rfl⟩⟩
set_option maxRecDepth 20000 in
theorem cm_X9_146 : xCm mX9_village 146 mX0_isChecked 1 := ⟨xT_3 1 rfl rfl, xT_1 5 rfl rfl, ⟨by decide, by decide, by decide +kernel⟩, by decide, Or.inl (xT_2 238 rfl rfl)⟩
set_option maxRecDepth 20000 in
theorem fl_X9_149 : xFl RX9 149 2 7 (.int) false := ⟨(RX2, TX2, 8), rfl, by decide, by decide +kernel, rfl, rfl, Or.inr ⟨"NotAnOx", xN_1 95 rfl rfl⟩⟩
set_option maxRecDepth 20000 in
theorem cm_X9_152 : xCm mX9_village 152 mX0_sworn 3 := ⟨xT_3 5 rfl rfl, xT_1 5 rfl rfl, ⟨by decide, by decide, by decide +kernel⟩, by decide, Or.inl (xT_3 2 rfl rfl)⟩
set_option maxRecDepth 20000 in
theorem fl_X9_156 : xFl RX9 156 2 3 (.array .int) true := ⟨(RX2, TX2, 8), rfl, by decide, by decide +kernel, rfl, rfl, Or.inr ⟨"NotAnOx", xN_1 76 rfl rfl⟩⟩
set_option maxRecDepth 20000 in
theorem cm_X9_159 : xCm mX9_party 159 mX9_isParty 1 := ⟨xT_3 20 rfl rfl, xT_1 1 rfl rfl, ⟨by decide, by decide, by decide +kernel⟩, by decide, Or.inl (xT_3 17 rfl rfl)⟩
set_option maxRecDepth 20000 in
theorem fl_X9_162 : xFl RX9 162 0 3 (.array .int) true := ⟨(RX0, TX0, 7), rfl, by decide, by decide +kernel, rfl, rfl, Or.inr ⟨"NotAnOx", xN_1 127 rfl rfl⟩⟩
set_option maxRecDepth 20000 in
theorem fl_X9_165 : xFl RX9 165 0 4 (.array .int) true := ⟨(RX0, TX0, 7), rfl, by decide, by decide +kernel, rfl, rfl, Or.inr ⟨"NotAnOx", xN_1 129 rfl rfl⟩⟩
set_option maxRecDepth 20000 in
theorem fl_X9_168 : xFl RX9 168 2 4 (.array (.array .int)) true := ⟨(RX2, TX2, 8), rfl, by decide, by decide +kernel, rfl, rfl, Or.inr ⟨"NotAnOx", xN_1 81 rfl rfl⟩⟩
set_option maxRecDepth 20000 in
theorem cm_X9_173 : xCm mX9_ask 173 mX0_canBeAsked 2 := ⟨xT_3 33 rfl rfl, xT_1 5 rfl rfl, ⟨by decide, by decide, by decide +kernel⟩, by decide, Or.inl (xT_3 30 rfl rfl)⟩
set_option maxRecDepth 20000 in
theorem cm_X9_177 : xCm mX9_ask 177 mX4_push 1 := ⟨xT_3 39 rfl rfl, xT_1 6 rfl rfl, ⟨by decide, by decide, by decide +kernel⟩, by decide, Or.inl (xT_3 36 rfl rfl)⟩
set_option maxRecDepth 20000 in
theorem cm_X9_181 : xCm mX9_ask 181 mX0_askBy 2 := ⟨xT_3 59 rfl rfl, xT_1 5 rfl rfl, ⟨by decide, by decide, by decide +kernel⟩, by decide, Or.inl (xT_3 56 rfl rfl)⟩
set_option maxRecDepth 20000 in
theorem cm_X9_185 : xCm mX9_check 185 mX0_canBeChecked 1 := ⟨xT_3 72 rfl rfl, xT_1 5 rfl rfl, ⟨by decide, by decide, by decide +kernel⟩, by decide, Or.inl (xT_3 69 rfl rfl)⟩
set_option maxRecDepth 20000 in
theorem cm_X9_188 : xCm mX9_check 188 mX0_writeOxen 1 := ⟨xT_3 77 rfl rfl, xT_1 5 rfl rfl, ⟨by decide, by decide, by decide +kernel⟩, by decide, Or.inl (xT_3 74 rfl rfl)⟩
set_option maxRecDepth 20000 in
theorem cm_X9_192 : xCm mX9_strike 192 mX0_strikeOut 1 := ⟨xT_3 85 rfl rfl, xT_1 5 rfl rfl, ⟨by decide, by decide, by decide +kernel⟩, by decide, Or.inl (xT_3 82 rfl rfl)⟩
set_option maxRecDepth 20000 in
theorem fl_X9_195 : xFl RX9 195 4 2 (.int) false := ⟨(RX4, TX4, 3), rfl, by decide, by decide +kernel, rfl, rfl, Or.inr ⟨"NotAnOx", xN_1 165 rfl rfl⟩⟩
set_option maxRecDepth 20000 in
theorem cm_X9_196 : xCm mX9_undo 196 mX4_popInto 1 := ⟨xT_3 93 rfl rfl, xT_1 6 rfl rfl, ⟨by decide, by decide, by decide +kernel⟩, by decide, Or.inl (xT_3 90 rfl rfl)⟩
set_option maxRecDepth 20000 in
theorem cm_X9_199 : xCm mX9_soonest 199 mX7_seek 1 := ⟨xT_3 101 rfl rfl, xT_1 9 rfl rfl, ⟨by decide, by decide, by decide +kernel⟩, by decide, Or.inl (xT_3 98 rfl rfl)⟩
set_option maxRecDepth 20000 in
theorem fl_X9_202 : xFl RX9 202 7 5 (.int) false := ⟨(RX7, TX7, 6), rfl, by decide, by decide +kernel, rfl, rfl, Or.inr ⟨"NotAnOx", xN_1 203 rfl rfl⟩⟩
set_option maxRecDepth 20000 in
theorem cm_X9_205 : xCm mX9_soonest 205 mX7_whoAsks 1 := ⟨xT_3 141 rfl rfl, xT_1 9 rfl rfl, ⟨by decide, by decide, by decide +kernel⟩, by decide, Or.inl (xT_3 138 rfl rfl)⟩
set_option maxRecDepth 20000 in
theorem cm_X9_208 : xCm mX9_most 208 mX9_bestOrder 2 := ⟨xT_3 149 rfl rfl, xT_1 1 rfl rfl, ⟨by decide, by decide, by decide +kernel⟩, by decide, Or.inl (xT_3 146 rfl rfl)⟩
set_option maxRecDepth 20000 in
theorem cm_X9_212 : xCm mX9_checks 212 mX9_bestChecks 1 := ⟨xT_3 183 rfl rfl, xT_1 1 rfl rfl, ⟨by decide, by decide, by decide +kernel⟩, by decide, Or.inl (xT_3 180 rfl rfl)⟩
set_option maxRecDepth 20000 in
theorem cm_X9_215 : xCm mX9_checks 215 mX0_gainOf 1 := ⟨xT_3 189 rfl rfl, xT_1 5 rfl rfl, ⟨by decide, by decide, by decide +kernel⟩, by decide, Or.inl (xT_3 186 rfl rfl)⟩
set_option maxRecDepth 20000 in
theorem cm_X9_218 : xCm mX9_see 218 mX8_isFull 0 := ⟨xT_3 197 rfl rfl, xT_1 8 rfl rfl, ⟨by decide, by decide, by decide +kernel⟩, by decide, Or.inl (xT_3 194 rfl rfl)⟩
set_option maxRecDepth 20000 in
theorem cm_X9_219 : xCm mX9_see 219 mX8_add 2 := ⟨xT_3 201 rfl rfl, xT_1 8 rfl rfl, ⟨by decide, by decide, by decide +kernel⟩, by decide, Or.inl (xT_3 198 rfl rfl)⟩
set_option maxRecDepth 20000 in
theorem fl_X9_222 : xFl RX9 222 8 2 (.int) false := ⟨(RX8, TX8, 3), rfl, by decide, by decide +kernel, rfl, rfl, Or.inr ⟨"NotAnOx", xN_1 182 rfl rfl⟩⟩
set_option maxRecDepth 20000 in
theorem cm_X9_223 : xCm mX9_forget 223 mX8_clear 0 := ⟨xT_2 161 rfl rfl, xT_1 8 rfl rfl, ⟨by decide, by decide, by decide +kernel⟩, by decide, Or.inl (xT_2 158 rfl rfl)⟩
set_option maxRecDepth 20000 in
theorem cm_X9_224 : xCm mX9_kinds 224 mX8_fits 2 := ⟨xT_3 214 rfl rfl, xT_1 8 rfl rfl, ⟨by decide, by decide, by decide +kernel⟩, by decide, Or.inl (xT_3 211 rfl rfl)⟩
set_option maxRecDepth 20000 in
theorem cm_X9_227 : xCm mX9_copies 227 mX0_hasTwin 1 := ⟨xT_3 222 rfl rfl, xT_1 5 rfl rfl, ⟨by decide, by decide, by decide +kernel⟩, by decide, Or.inl (xT_3 219 rfl rfl)⟩
set_option maxRecDepth 20000 in
theorem cm_X9_230 : xCm mX9_honest 230 mX1_weigh 3 := ⟨xT_3 234 rfl rfl, xT_1 11 rfl rfl, ⟨by decide, by decide, by decide +kernel⟩, by decide, Or.inl (xT_3 231 rfl rfl)⟩
set_option maxRecDepth 20000 in
theorem fl_X9_234 : xFl RX9 234 1 2 (.int) false := ⟨(RX1, TX1, 4), rfl, by decide, by decide +kernel, rfl, rfl, Or.inr ⟨"NotAnOx", xN_2 23 rfl rfl⟩⟩
set_option maxRecDepth 20000 in
theorem fl_X9_237 : xFl RX9 237 1 3 (.int) false := ⟨(RX1, TX1, 4), rfl, by decide, by decide +kernel, rfl, rfl, Or.inr ⟨"NotAnOx", xN_2 25 rfl rfl⟩⟩
set_option maxRecDepth 20000 in
theorem cm_X9_240 : xCm mX9_shire 240 mX0_copyFrom 1 := ⟨xT_3 51 rfl rfl, xT_1 5 rfl rfl, ⟨by decide, by decide, by decide +kernel⟩, by decide, Or.inl (xT_4 14 rfl rfl)⟩
set_option maxRecDepth 20000 in
theorem cm_X9_243 : xCm mX9_shire 243 mX9_drawOf 2 := ⟨xT_4 17 rfl rfl, xT_1 1 rfl rfl, ⟨by decide, by decide, by decide +kernel⟩, by decide, Or.inl (xT_4 15 rfl rfl)⟩
set_option maxRecDepth 20000 in
theorem cm_X9_246 : xCm mX9_shire 246 mX9_stepByDraw 1 := ⟨xT_4 25 rfl rfl, xT_1 1 rfl rfl, ⟨by decide, by decide, by decide +kernel⟩, by decide, Or.inl (xT_4 22 rfl rfl)⟩
set_option maxRecDepth 20000 in
theorem cm_X9_250 : xCm mX9_shire 250 mX0_found 0 := ⟨xT_3 164 rfl rfl, xT_1 5 rfl rfl, ⟨by decide, by decide, by decide +kernel⟩, by decide, Or.inl (xT_4 26 rfl rfl)⟩
set_option maxRecDepth 20000 in
theorem cm_X9_253 : xCm mX9_shire 253 mX0_mostDays 0 := ⟨xT_4 30 rfl rfl, xT_1 5 rfl rfl, ⟨by decide, by decide, by decide +kernel⟩, by decide, Or.inl (xT_4 27 rfl rfl)⟩
set_option maxRecDepth 20000 in
theorem cm_X9_256 : xCm mX9_keep 256 mX4_isFull 0 := ⟨xT_3 43 rfl rfl, xT_1 6 rfl rfl, ⟨by decide, by decide, by decide +kernel⟩, by decide, Or.inl (xT_4 36 rfl rfl)⟩
set_option maxRecDepth 20000 in
theorem cm_X9_257 : xCm mX9_back 257 mX4_clear 0 := ⟨xT_2 165 rfl rfl, xT_1 6 rfl rfl, ⟨by decide, by decide, by decide +kernel⟩, by decide, Or.inl (xT_2 162 rfl rfl)⟩
set_option maxRecDepth 20000 in
theorem fl_X9_258 : xFl RX9 258 0 5 (.int) false := ⟨(RX0, TX0, 7), rfl, by decide, by decide +kernel, rfl, rfl, Or.inr ⟨"NotAnOx", xN_1 132 rfl rfl⟩⟩
set_option maxRecDepth 20000 in
theorem cm_X9_261 : xCm mX9_count 261 mJ6_bitCount_0f7a4 1 := ⟨xT_3 113 rfl rfl, xT_1 19 rfl rfl, ⟨by decide, by decide, by decide +kernel⟩, by decide, Or.inl (xT_3 184 rfl rfl)⟩
set_option maxRecDepth 20000 in
theorem fl_X9_266 : xFl RX9 266 0 6 (.int) false := ⟨(RX0, TX0, 7), rfl, by decide, by decide +kernel, rfl, rfl, Or.inr ⟨"NotAnOx", xN_1 134 rfl rfl⟩⟩
set_option maxRecDepth 20000 in
theorem cm_X9_269 : xCm mX9_count 269 mX0_allOxen 0 := ⟨xT_4 48 rfl rfl, xT_1 5 rfl rfl, ⟨by decide, by decide, by decide +kernel⟩, by decide, Or.inl (xT_4 45 rfl rfl)⟩
set_option maxRecDepth 20000 in
theorem cm_X9_272 : xCm mX9_layScroll 272 mX2_measure 0 := ⟨xT_2 146 rfl rfl, xT_1 4 rfl rfl, ⟨by decide, by decide, by decide +kernel⟩, by decide, Or.inl (xT_2 143 rfl rfl)⟩
set_option maxRecDepth 20000 in
theorem cm_X9_275 : xCm mX9_layScroll 275 mX0_open 0 := ⟨xT_2 153 rfl rfl, xT_1 5 rfl rfl, ⟨by decide, by decide, by decide +kernel⟩, by decide, Or.inl (xT_2 150 rfl rfl)⟩
set_option maxRecDepth 20000 in
theorem cm_X9_278 : xCm mX9_bestOrder 278 mX0_restSize 0 := ⟨xT_3 109 rfl rfl, xT_1 5 rfl rfl, ⟨by decide, by decide, by decide +kernel⟩, by decide, Or.inl (xT_3 150 rfl rfl)⟩
set_option maxRecDepth 20000 in
theorem cm_X9_281 : xCm mX9_bestOrder 281 mX3_seek 2 := ⟨xT_3 154 rfl rfl, xT_1 10 rfl rfl, ⟨by decide, by decide, by decide +kernel⟩, by decide, Or.inl (xT_3 151 rfl rfl)⟩
set_option maxRecDepth 20000 in
theorem fl_X9_284 : xFl RX9 284 3 7 (.int) false := ⟨(RX3, TX3, 8), rfl, by decide, by decide +kernel, rfl, rfl, Or.inr ⟨"NotAnOx", xN_1 234 rfl rfl⟩⟩
set_option maxRecDepth 20000 in
theorem fl_X9_287 : xFl RX9 287 3 3 (.array .int) true := ⟨(RX3, TX3, 8), rfl, by decide, by decide +kernel, rfl, rfl, Or.inr ⟨"NotAnOx", xN_1 229 rfl rfl⟩⟩
set_option maxRecDepth 20000 in
theorem cm_X9_290 : xCm mX9_bestChecks 290 mJ9_min_7cf53 2 := ⟨xT_2 149 rfl rfl, xT_1 7 rfl rfl, ⟨by decide, by decide, by decide +kernel⟩, by decide, Or.inl (xT_3 185 rfl rfl)⟩
set_option maxRecDepth 20000 in
theorem fl_X10_7 : xFl RX10 7 10 1 (.array .int) true := ⟨(RX10, TX10, 26), rfl, by decide, by decide +kernel, rfl, rfl, Or.inl (xT_4 75 rfl rfl)⟩
set_option maxRecDepth 20000 in
theorem fl_X10_13 : xFl RX10 13 10 3 (.array .int) true := ⟨(RX10, TX10, 26), rfl, by decide, by decide +kernel, rfl, rfl, Or.inl (xT_4 77 rfl rfl)⟩
set_option maxRecDepth 20000 in
theorem fl_X10_16 : xFl RX10 16 10 4 (.array .int) true := ⟨(RX10, TX10, 26), rfl, by decide, by decide +kernel, rfl, rfl, Or.inl (xT_4 78 rfl rfl)⟩
set_option maxRecDepth 20000 in
theorem fl_X10_19 : xFl RX10 19 10 6 (.array .int) true := ⟨(RX10, TX10, 26), rfl, by decide, by decide +kernel, rfl, rfl, Or.inl (xT_4 80 rfl rfl)⟩
set_option maxRecDepth 20000 in
theorem fl_X10_22 : xFl RX10 22 10 8 (.array .int) true := ⟨(RX10, TX10, 26), rfl, by decide, by decide +kernel, rfl, rfl, Or.inl (xT_4 82 rfl rfl)⟩
set_option maxRecDepth 20000 in
theorem fl_X10_25 : xFl RX10 25 10 9 (.array .int) true := ⟨(RX10, TX10, 26), rfl, by decide, by decide +kernel, rfl, rfl, Or.inl (xT_4 83 rfl rfl)⟩
set_option maxRecDepth 20000 in
theorem fl_X10_28 : xFl RX10 28 10 13 (.array .byte) true := ⟨(RX10, TX10, 26), rfl, by decide, by decide +kernel, rfl, rfl, Or.inl (xT_4 87 rfl rfl)⟩
set_option maxRecDepth 20000 in
theorem fl_X10_32 : xFl RX10 32 10 18 (.array .int) true := ⟨(RX10, TX10, 26), rfl, by decide, by decide +kernel, rfl, rfl, Or.inl (xT_4 92 rfl rfl)⟩
set_option maxRecDepth 20000 in
theorem fl_X10_35 : xFl RX10 35 10 19 (.array .int) true := ⟨(RX10, TX10, 26), rfl, by decide, by decide +kernel, rfl, rfl, Or.inl (xT_4 93 rfl rfl)⟩
set_option maxRecDepth 20000 in
theorem fl_X10_38 : xFl RX10 38 10 20 (.array .int) true := ⟨(RX10, TX10, 26), rfl, by decide, by decide +kernel, rfl, rfl, Or.inl (xT_4 94 rfl rfl)⟩
set_option maxRecDepth 20000 in
theorem fl_X10_41 : xFl RX10 41 10 21 (.array .int) true := ⟨(RX10, TX10, 26), rfl, by decide, by decide +kernel, rfl, rfl, Or.inl (xT_4 95 rfl rfl)⟩
set_option maxRecDepth 20000 in
theorem fl_X10_44 : xFl RX10 44 10 24 (.array .int) true := ⟨(RX10, TX10, 26), rfl, by decide, by decide +kernel, rfl, rfl, Or.inl (xT_4 98 rfl rfl)⟩
set_option maxRecDepth 20000 in
theorem fl_X10_47 : xFl RX10 47 10 25 (.array .int) true := ⟨(RX10, TX10, 26), rfl, by decide, by decide +kernel, rfl, rfl, Or.inl (xT_4 99 rfl rfl)⟩
set_option maxRecDepth 20000 in
theorem cm_X10_50 : xCm mX10_init 50 mX10_lives 3 := ⟨xT_4 58 rfl rfl, xT_1 18 rfl rfl, ⟨by decide, by decide, by decide +kernel⟩, by decide, Or.inl (xT_4 55 rfl rfl)⟩
set_option maxRecDepth 20000 in
theorem cm_X10_54 : xCm mX10_init 54 mX10_joins 3 := ⟨xT_4 62 rfl rfl, xT_1 18 rfl rfl, ⟨by decide, by decide, by decide +kernel⟩, by decide, Or.inl (xT_4 59 rfl rfl)⟩
set_option maxRecDepth 20000 in
theorem cm_X10_57 : xCm mX10_init 57 mX10_begins 2 := ⟨xT_4 66 rfl rfl, xT_1 18 rfl rfl, ⟨by decide, by decide, by decide +kernel⟩, by decide, Or.inl (xT_4 63 rfl rfl)⟩
set_option maxRecDepth 20000 in
theorem cm_X10_61 : xCm mX10_init 61 mX10_settles 0 := ⟨xT_4 70 rfl rfl, xT_1 18 rfl rfl, ⟨by decide, by decide, by decide +kernel⟩, by decide, Or.inl (xT_4 67 rfl rfl)⟩
set_option maxRecDepth 20000 in
theorem fl_X10_64 : xFl RX10 64 10 5 (.int) false := ⟨(RX10, TX10, 26), rfl, by decide, by decide +kernel, rfl, rfl, Or.inl (xT_4 79 rfl rfl)⟩
set_option maxRecDepth 20000 in
theorem fl_X10_68 : xFl RX10 68 10 7 (.int) false := ⟨(RX10, TX10, 26), rfl, by decide, by decide +kernel, rfl, rfl, Or.inl (xT_4 81 rfl rfl)⟩
set_option maxRecDepth 20000 in
theorem fl_X10_71 : xFl RX10 71 10 0 (.int) false := ⟨(RX10, TX10, 26), rfl, by decide, by decide +kernel, rfl, rfl, Or.inl (xT_4 74 rfl rfl)⟩
set_option maxRecDepth 20000 in
theorem fl_X10_74 : xFl RX10 74 10 2 (.int) false := ⟨(RX10, TX10, 26), rfl, by decide, by decide +kernel, rfl, rfl, Or.inl (xT_4 76 rfl rfl)⟩
set_option maxRecDepth 20000 in
theorem cm_X10_77 : xCm mX10_settles 77 mX10_smaller 2 := ⟨xT_4 73 rfl rfl, xT_1 18 rfl rfl, ⟨by decide, by decide, by decide +kernel⟩, by decide, Or.inl (xT_4 71 rfl rfl)⟩
set_option maxRecDepth 20000 in
theorem cm_X10_81 : xCm mX10_isVillage 81 mX10_in 3 := ⟨xT_4 161 rfl rfl, xT_1 18 rfl rfl, ⟨by decide, by decide, by decide +kernel⟩, by decide, Or.inl (xT_4 159 rfl rfl)⟩
set_option maxRecDepth 20000 in
theorem fl_X10_89 : xFl RX10 89 10 12 (.int) false := ⟨(RX10, TX10, 26), rfl, by decide, by decide +kernel, rfl, rfl, Or.inl (xT_4 86 rfl rfl)⟩
set_option maxRecDepth 20000 in
theorem fl_X10_92 : xFl RX10 92 10 14 (.int) false := ⟨(RX10, TX10, 26), rfl, by decide, by decide +kernel, rfl, rfl, Or.inl (xT_4 88 rfl rfl)⟩
set_option maxRecDepth 20000 in
theorem cm_X10_95 : xCm mX10_number 95 mX10_next 0 := ⟨xT_4 177 rfl rfl, xT_1 18 rfl rfl, ⟨by decide, by decide, by decide +kernel⟩, by decide, Or.inl (xT_4 174 rfl rfl)⟩
set_option maxRecDepth 20000 in
theorem fl_X10_103 : xFl RX10 103 10 16 (.boolean) false := ⟨(RX10, TX10, 26), rfl, by decide, by decide +kernel, rfl, rfl, Or.inl (xT_4 90 rfl rfl)⟩
set_option maxRecDepth 20000 in
theorem cm_X10_107 : xCm mX10_more 107 mX10_number 2 := ⟨xT_4 185 rfl rfl, xT_1 18 rfl rfl, ⟨by decide, by decide, by decide +kernel⟩, by decide, Or.inl (xT_4 182 rfl rfl)⟩
set_option maxRecDepth 20000 in
theorem cm_X10_110 : xCm mX10_item 110 mX10_more 2 := ⟨xT_4 191 rfl rfl, xT_1 18 rfl rfl, ⟨by decide, by decide, by decide +kernel⟩, by decide, Or.inl (xT_4 188 rfl rfl)⟩
set_option maxRecDepth 20000 in
theorem fl_X10_113 : xFl RX10 113 10 15 (.int) false := ⟨(RX10, TX10, 26), rfl, by decide, by decide +kernel, rfl, rfl, Or.inl (xT_4 89 rfl rfl)⟩
set_option maxRecDepth 20000 in
theorem cm_X10_116 : xCm mX10_reads 116 mX10_item 1 := ⟨xT_4 181 rfl rfl, xT_1 18 rfl rfl, ⟨by decide, by decide, by decide +kernel⟩, by decide, Or.inl (xT_4 178 rfl rfl)⟩
set_option maxRecDepth 20000 in
theorem cm_X10_120 : xCm mX10_fault 120 mX10_reads 0 := ⟨xT_4 173 rfl rfl, xT_1 18 rfl rfl, ⟨by decide, by decide, by decide +kernel⟩, by decide, Or.inl (xT_4 170 rfl rfl)⟩
set_option maxRecDepth 20000 in
theorem cm_X10_124 : xCm mX10_lay 124 mX10_copied 2 := ⟨xT_4 199 rfl rfl, xT_1 18 rfl rfl, ⟨by decide, by decide, by decide +kernel⟩, by decide, Or.inl (xT_4 196 rfl rfl)⟩
set_option maxRecDepth 20000 in
theorem fl_X10_127 : xFl RX10 127 10 10 (.int) false := ⟨(RX10, TX10, 26), rfl, by decide, by decide +kernel, rfl, rfl, Or.inl (xT_4 84 rfl rfl)⟩
set_option maxRecDepth 20000 in
theorem fl_X10_130 : xFl RX10 130 10 11 (.int) false := ⟨(RX10, TX10, 26), rfl, by decide, by decide +kernel, rfl, rfl, Or.inl (xT_4 85 rfl rfl)⟩
set_option maxRecDepth 20000 in
theorem fl_X10_133 : xFl RX10 133 10 17 (.int) false := ⟨(RX10, TX10, 26), rfl, by decide, by decide +kernel, rfl, rfl, Or.inl (xT_4 91 rfl rfl)⟩
set_option maxRecDepth 20000 in
theorem cm_X10_136 : xCm mX10_besides 136 mX10_areNear 2 := ⟨xT_4 231 rfl rfl, xT_1 18 rfl rfl, ⟨by decide, by decide, by decide +kernel⟩, by decide, Or.inl (xT_4 228 rfl rfl)⟩
set_option maxRecDepth 20000 in
theorem cm_X10_140 : xCm mX10_lowest 140 mX10_besides 1 := ⟨xT_4 227 rfl rfl, xT_1 18 rfl rfl, ⟨by decide, by decide, by decide +kernel⟩, by decide, Or.inl (xT_4 224 rfl rfl)⟩
set_option maxRecDepth 20000 in
theorem cm_X10_144 : xCm mX10_lowest 144 mX10_has 2 := ⟨xT_4 215 rfl rfl, xT_1 18 rfl rfl, ⟨by decide, by decide, by decide +kernel⟩, by decide, Or.inl (xT_4 213 rfl rfl)⟩
set_option maxRecDepth 20000 in
theorem cm_X10_147 : xCm mX10_sworn 147 mX10_lowest 2 := ⟨xT_4 223 rfl rfl, xT_1 18 rfl rfl, ⟨by decide, by decide, by decide +kernel⟩, by decide, Or.inl (xT_4 220 rfl rfl)⟩
set_option maxRecDepth 20000 in
theorem cm_X10_150 : xCm mX10_sworn 150 mX10_isBesideHonest 2 := ⟨xT_4 235 rfl rfl, xT_1 18 rfl rfl, ⟨by decide, by decide, by decide +kernel⟩, by decide, Or.inl (xT_4 232 rfl rfl)⟩
set_option maxRecDepth 20000 in
theorem cm_X10_153 : xCm mX10_writes 153 mX10_sworn 3 := ⟨xT_4 219 rfl rfl, xT_1 18 rfl rfl, ⟨by decide, by decide, by decide +kernel⟩, by decide, Or.inl (xT_4 216 rfl rfl)⟩
set_option maxRecDepth 20000 in
theorem cm_X10_157 : xCm mX10_village 157 mX10_isVillage 1 := ⟨xT_4 207 rfl rfl, xT_1 18 rfl rfl, ⟨by decide, by decide, by decide +kernel⟩, by decide, Or.inl (xT_4 204 rfl rfl)⟩
set_option maxRecDepth 20000 in
theorem cm_X10_163 : xCm mX10_village 163 mX10_isIn 1 := ⟨xT_4 212 rfl rfl, xT_1 18 rfl rfl, ⟨by decide, by decide, by decide +kernel⟩, by decide, Or.inl (xT_4 209 rfl rfl)⟩
set_option maxRecDepth 20000 in
theorem cm_X10_166 : xCm mX10_asks 166 mX10_writes 2 := ⟨xT_5 23 rfl rfl, xT_1 18 rfl rfl, ⟨by decide, by decide, by decide +kernel⟩, by decide, Or.inl (xT_5 20 rfl rfl)⟩
set_option maxRecDepth 20000 in
theorem cm_X10_169 : xCm mX10_ask 169 mX10_canAsk 3 := ⟨xT_5 11 rfl rfl, xT_1 18 rfl rfl, ⟨by decide, by decide, by decide +kernel⟩, by decide, Or.inl (xT_5 8 rfl rfl)⟩
set_option maxRecDepth 20000 in
theorem cm_X10_173 : xCm mX10_ask 173 mX10_known 0 := ⟨xT_5 15 rfl rfl, xT_1 18 rfl rfl, ⟨by decide, by decide, by decide +kernel⟩, by decide, Or.inl (xT_5 12 rfl rfl)⟩
set_option maxRecDepth 20000 in
theorem cm_X10_176 : xCm mX10_ask 176 mX10_asks 3 := ⟨xT_5 19 rfl rfl, xT_1 18 rfl rfl, ⟨by decide, by decide, by decide +kernel⟩, by decide, Or.inl (xT_5 16 rfl rfl)⟩
set_option maxRecDepth 20000 in
theorem cm_X10_179 : xCm mX10_check 179 mX10_canCheck 2 := ⟨xT_5 31 rfl rfl, xT_1 18 rfl rfl, ⟨by decide, by decide, by decide +kernel⟩, by decide, Or.inl (xT_5 28 rfl rfl)⟩
set_option maxRecDepth 20000 in
theorem cm_X10_182 : xCm mX10_check 182 mX10_checked 2 := ⟨xT_5 35 rfl rfl, xT_1 18 rfl rfl, ⟨by decide, by decide, by decide +kernel⟩, by decide, Or.inl (xT_5 32 rfl rfl)⟩
set_option maxRecDepth 20000 in
theorem cm_X10_185 : xCm mX10_strike 185 mX10_struck 2 := ⟨xT_5 43 rfl rfl, xT_1 18 rfl rfl, ⟨by decide, by decide, by decide +kernel⟩, by decide, Or.inl (xT_5 40 rfl rfl)⟩
set_option maxRecDepth 20000 in
theorem cm_X10_188 : xCm mX10_askedBy 188 mX10_rest 0 := ⟨xT_5 56 rfl rfl, xT_1 18 rfl rfl, ⟨by decide, by decide, by decide +kernel⟩, by decide, Or.inl (xT_5 53 rfl rfl)⟩
set_option maxRecDepth 20000 in
theorem cm_X10_191 : xCm mX10_takes 191 mX10_askedBy 2 := ⟨xT_5 69 rfl rfl, xT_1 18 rfl rfl, ⟨by decide, by decide, by decide +kernel⟩, by decide, Or.inl (xT_5 66 rfl rfl)⟩
set_option maxRecDepth 20000 in
theorem cm_X10_195 : xCm mX10_takes 195 mX10_larger 2 := ⟨xT_5 72 rfl rfl, xT_1 18 rfl rfl, ⟨by decide, by decide, by decide +kernel⟩, by decide, Or.inl (xT_5 70 rfl rfl)⟩
set_option maxRecDepth 20000 in
theorem cm_X10_200 : xCm mX10_soonest 200 mX10_routes 1 := ⟨xT_5 60 rfl rfl, xT_1 18 rfl rfl, ⟨by decide, by decide, by decide +kernel⟩, by decide, Or.inl (xT_5 57 rfl rfl)⟩
set_option maxRecDepth 20000 in
theorem cm_X10_203 : xCm mX10_soonest 203 mX10_takes 1 := ⟨xT_5 65 rfl rfl, xT_1 18 rfl rfl, ⟨by decide, by decide, by decide +kernel⟩, by decide, Or.inl (xT_5 62 rfl rfl)⟩
set_option maxRecDepth 20000 in
theorem fl_X10_206 : xFl RX10 206 10 22 (.int) false := ⟨(RX10, TX10, 26), rfl, by decide, by decide +kernel, rfl, rfl, Or.inl (xT_4 96 rfl rfl)⟩
set_option maxRecDepth 20000 in
theorem fl_X10_209 : xFl RX10 209 10 23 (.int) false := ⟨(RX10, TX10, 26), rfl, by decide, by decide +kernel, rfl, rfl, Or.inl (xT_4 97 rfl rfl)⟩
set_option maxRecDepth 20000 in
theorem cm_X10_212 : xCm mX10_goesOn 212 mX10_swaps 2 := ⟨xT_5 101 rfl rfl, xT_1 18 rfl rfl, ⟨by decide, by decide, by decide +kernel⟩, by decide, Or.inl (xT_5 98 rfl rfl)⟩
set_option maxRecDepth 20000 in
theorem cm_X10_215 : xCm mX10_orders 215 mX10_lists 0 := ⟨xT_5 89 rfl rfl, xT_1 18 rfl rfl, ⟨by decide, by decide, by decide +kernel⟩, by decide, Or.inl (xT_5 86 rfl rfl)⟩
set_option maxRecDepth 20000 in
theorem cm_X10_218 : xCm mX10_orders 218 mX10_found 1 := ⟨xT_5 93 rfl rfl, xT_1 18 rfl rfl, ⟨by decide, by decide, by decide +kernel⟩, by decide, Or.inl (xT_5 90 rfl rfl)⟩
set_option maxRecDepth 20000 in
theorem cm_X10_221 : xCm mX10_orders 221 mX10_goesOn 0 := ⟨xT_5 97 rfl rfl, xT_1 18 rfl rfl, ⟨by decide, by decide, by decide +kernel⟩, by decide, Or.inl (xT_5 94 rfl rfl)⟩
set_option maxRecDepth 20000 in
theorem cm_X10_226 : xCm mX10_ordered 226 mX10_orders 1 := ⟨xT_5 85 rfl rfl, xT_1 18 rfl rfl, ⟨by decide, by decide, by decide +kernel⟩, by decide, Or.inl (xT_5 82 rfl rfl)⟩
set_option maxRecDepth 20000 in
theorem cm_X10_230 : xCm mX10_most 230 mX10_ordered 2 := ⟨xT_5 80 rfl rfl, xT_1 18 rfl rfl, ⟨by decide, by decide, by decide +kernel⟩, by decide, Or.inl (xT_5 77 rfl rfl)⟩
set_option maxRecDepth 20000 in
theorem cm_X10_236 : xCm mX10_checks 236 mX10_bits 1 := ⟨xT_5 113 rfl rfl, xT_1 18 rfl rfl, ⟨by decide, by decide, by decide +kernel⟩, by decide, Or.inl (xT_5 111 rfl rfl)⟩
set_option maxRecDepth 20000 in
theorem cm_X10_257 : xCm mX10_shire 257 mX10_mostDays 1 := ⟨xT_5 154 rfl rfl, xT_1 18 rfl rfl, ⟨by decide, by decide, by decide +kernel⟩, by decide, Or.inl (xT_5 151 rfl rfl)⟩
set_option maxRecDepth 20000 in
theorem cm_X10_260 : xCm mX10_count 260 mX10_oxen 0 := ⟨xT_5 170 rfl rfl, xT_1 18 rfl rfl, ⟨by decide, by decide, by decide +kernel⟩, by decide, Or.inl (xT_5 167 rfl rfl)⟩
set_option maxRecDepth 20000 in
theorem cm_J0_335 : xCm mJ0_length_8abf5 335 mJ0_coder_7d493 0 := ⟨xT_2 43 rfl rfl, xT_1 12 rfl rfl, ⟨by decide, by decide, by decide +kernel⟩, by decide, Or.inl (xT_2 40 rfl rfl)⟩
set_option maxRecDepth 20000 in
theorem cm_J0_492 : xCm mJ0_charAt_5068e 492 mJ0_isLatin1_aae02 0 := ⟨xT_2 53 rfl rfl, xT_1 12 rfl rfl, ⟨by decide, by decide, by decide +kernel⟩, by decide, Or.inl (xT_2 50 rfl rfl)⟩
set_option maxRecDepth 20000 in
theorem cm_J0_495 : xCm mJ0_charAt_5068e 495 mJ1_charAt_3b067 2 := ⟨xT_2 56 rfl rfl, xT_1 13 rfl rfl, ⟨by decide, by decide, by decide +kernel⟩, by decide, Or.inl (xT_2 54 rfl rfl)⟩
set_option maxRecDepth 20000 in
theorem cm_J0_1059 : xCm mJ0_checkIndex_df160 1059 mJ3_checkIndex_8e157 3 := ⟨xT_2 64 rfl rfl, xT_1 14 rfl rfl, ⟨by decide, by decide, by decide +kernel⟩, by decide, Or.inl (xT_2 62 rfl rfl)⟩
set_option maxRecDepth 20000 in
theorem cm_J1_9 : xCm mJ1_charAt_3b067 9 mJ0_checkIndex_df160 2 := ⟨xT_2 59 rfl rfl, xT_1 12 rfl rfl, ⟨by decide, by decide, by decide +kernel⟩, by decide, Or.inl (xT_2 57 rfl rfl)⟩
set_option maxRecDepth 20000 in
theorem cm_L_9 : xCm mL 9 mX9_init 0 := ⟨xT_1 24 rfl rfl, xT_1 1 rfl rfl, ⟨by decide, by decide, by decide +kernel⟩, by decide, Or.inl (xT_1 22 rfl rfl)⟩
set_option maxRecDepth 20000 in
theorem cm_L_12 : xCm mL 12 mX10_init 0 := ⟨xT_4 53 rfl rfl, xT_1 18 rfl rfl, ⟨by decide, by decide, by decide +kernel⟩, by decide, Or.inl (xT_4 51 rfl rfl)⟩
set_option maxRecDepth 20000 in
theorem cm_L_13 : xCm mL 13 mX9_write 1 := ⟨xT_2 211 rfl rfl, xT_1 1 rfl rfl, ⟨by decide, by decide, by decide +kernel⟩, by decide, Or.inl (xT_2 208 rfl rfl)⟩
set_option maxRecDepth 20000 in
theorem cm_L_17 : xCm mL 17 mX10_write 1 := ⟨xT_4 156 rfl rfl, xT_1 18 rfl rfl, ⟨by decide, by decide, by decide +kernel⟩, by decide, Or.inl (xT_4 153 rfl rfl)⟩
set_option maxRecDepth 20000 in
theorem cm_L_18 : xCm mL 18 mX9_wipe 0 := ⟨xT_2 217 rfl rfl, xT_1 1 rfl rfl, ⟨by decide, by decide, by decide +kernel⟩, by decide, Or.inl (xT_2 214 rfl rfl)⟩
set_option maxRecDepth 20000 in
theorem cm_L_22 : xCm mL 22 mX10_wipe 0 := ⟨xT_4 165 rfl rfl, xT_1 18 rfl rfl, ⟨by decide, by decide, by decide +kernel⟩, by decide, Or.inl (xT_4 162 rfl rfl)⟩
set_option maxRecDepth 20000 in
theorem cm_L_23 : xCm mL 23 mX9_fault 0 := ⟨xT_2 221 rfl rfl, xT_1 1 rfl rfl, ⟨by decide, by decide, by decide +kernel⟩, by decide, Or.inl (xT_2 218 rfl rfl)⟩
set_option maxRecDepth 20000 in
theorem cm_L_26 : xCm mL 26 mX10_fault 0 := ⟨xT_4 169 rfl rfl, xT_1 18 rfl rfl, ⟨by decide, by decide, by decide +kernel⟩, by decide, Or.inl (xT_4 166 rfl rfl)⟩
set_option maxRecDepth 20000 in
theorem cm_L_27 : xCm mL 27 mX9_lay 0 := ⟨xT_2 225 rfl rfl, xT_1 1 rfl rfl, ⟨by decide, by decide, by decide +kernel⟩, by decide, Or.inl (xT_2 222 rfl rfl)⟩
set_option maxRecDepth 20000 in
theorem cm_L_30 : xCm mL 30 mX10_lay 0 := ⟨xT_4 195 rfl rfl, xT_1 18 rfl rfl, ⟨by decide, by decide, by decide +kernel⟩, by decide, Or.inl (xT_4 192 rfl rfl)⟩
set_option maxRecDepth 20000 in
theorem cm_L_31 : xCm mL 31 mX9_village 2 := ⟨xT_2 229 rfl rfl, xT_1 1 rfl rfl, ⟨by decide, by decide, by decide +kernel⟩, by decide, Or.inl (xT_2 226 rfl rfl)⟩
set_option maxRecDepth 20000 in
theorem cm_L_35 : xCm mL 35 mX10_village 2 := ⟨xT_4 203 rfl rfl, xT_1 18 rfl rfl, ⟨by decide, by decide, by decide +kernel⟩, by decide, Or.inl (xT_4 200 rfl rfl)⟩
set_option maxRecDepth 20000 in
theorem cm_L_36 : xCm mL 36 mX9_party 2 := ⟨xT_3 16 rfl rfl, xT_1 1 rfl rfl, ⟨by decide, by decide, by decide +kernel⟩, by decide, Or.inl (xT_3 13 rfl rfl)⟩
set_option maxRecDepth 20000 in
theorem cm_L_39 : xCm mL 39 mX10_party 2 := ⟨xT_4 239 rfl rfl, xT_1 18 rfl rfl, ⟨by decide, by decide, by decide +kernel⟩, by decide, Or.inl (xT_4 236 rfl rfl)⟩
set_option maxRecDepth 20000 in
theorem cm_L_40 : xCm mL 40 mX9_far 2 := ⟨xT_3 24 rfl rfl, xT_1 1 rfl rfl, ⟨by decide, by decide, by decide +kernel⟩, by decide, Or.inl (xT_3 21 rfl rfl)⟩
set_option maxRecDepth 20000 in
theorem cm_L_43 : xCm mL 43 mX10_far 2 := ⟨xT_5 3 rfl rfl, xT_1 18 rfl rfl, ⟨by decide, by decide, by decide +kernel⟩, by decide, Or.inl (xT_5 0 rfl rfl)⟩
set_option maxRecDepth 20000 in
theorem cm_L_44 : xCm mL 44 mX9_ask 2 := ⟨xT_3 29 rfl rfl, xT_1 1 rfl rfl, ⟨by decide, by decide, by decide +kernel⟩, by decide, Or.inl (xT_3 26 rfl rfl)⟩
set_option maxRecDepth 20000 in
theorem cm_L_47 : xCm mL 47 mX10_ask 2 := ⟨xT_5 7 rfl rfl, xT_1 18 rfl rfl, ⟨by decide, by decide, by decide +kernel⟩, by decide, Or.inl (xT_5 4 rfl rfl)⟩
set_option maxRecDepth 20000 in
theorem cm_L_48 : xCm mL 48 mX9_check 1 := ⟨xT_3 68 rfl rfl, xT_1 1 rfl rfl, ⟨by decide, by decide, by decide +kernel⟩, by decide, Or.inl (xT_3 65 rfl rfl)⟩
set_option maxRecDepth 20000 in
theorem cm_L_51 : xCm mL 51 mX10_check 1 := ⟨xT_5 27 rfl rfl, xT_1 18 rfl rfl, ⟨by decide, by decide, by decide +kernel⟩, by decide, Or.inl (xT_5 24 rfl rfl)⟩
set_option maxRecDepth 20000 in
theorem cm_L_52 : xCm mL 52 mX9_strike 1 := ⟨xT_3 81 rfl rfl, xT_1 1 rfl rfl, ⟨by decide, by decide, by decide +kernel⟩, by decide, Or.inl (xT_3 78 rfl rfl)⟩
set_option maxRecDepth 20000 in
theorem cm_L_55 : xCm mL 55 mX10_strike 1 := ⟨xT_5 39 rfl rfl, xT_1 18 rfl rfl, ⟨by decide, by decide, by decide +kernel⟩, by decide, Or.inl (xT_5 36 rfl rfl)⟩
set_option maxRecDepth 20000 in
theorem cm_L_56 : xCm mL 56 mX9_undo 0 := ⟨xT_3 89 rfl rfl, xT_1 1 rfl rfl, ⟨by decide, by decide, by decide +kernel⟩, by decide, Or.inl (xT_3 86 rfl rfl)⟩
set_option maxRecDepth 20000 in
theorem cm_L_59 : xCm mL 59 mX10_undo 0 := ⟨xT_5 47 rfl rfl, xT_1 18 rfl rfl, ⟨by decide, by decide, by decide +kernel⟩, by decide, Or.inl (xT_5 44 rfl rfl)⟩
set_option maxRecDepth 20000 in
theorem cm_L_60 : xCm mL 60 mX9_soonest 1 := ⟨xT_3 97 rfl rfl, xT_1 1 rfl rfl, ⟨by decide, by decide, by decide +kernel⟩, by decide, Or.inl (xT_3 94 rfl rfl)⟩
set_option maxRecDepth 20000 in
theorem cm_L_63 : xCm mL 63 mX10_soonest 1 := ⟨xT_5 51 rfl rfl, xT_1 18 rfl rfl, ⟨by decide, by decide, by decide +kernel⟩, by decide, Or.inl (xT_5 48 rfl rfl)⟩
set_option maxRecDepth 20000 in
theorem cm_L_64 : xCm mL 64 mX9_most 1 := ⟨xT_3 145 rfl rfl, xT_1 1 rfl rfl, ⟨by decide, by decide, by decide +kernel⟩, by decide, Or.inl (xT_3 142 rfl rfl)⟩
set_option maxRecDepth 20000 in
theorem cm_L_67 : xCm mL 67 mX10_most 1 := ⟨xT_5 76 rfl rfl, xT_1 18 rfl rfl, ⟨by decide, by decide, by decide +kernel⟩, by decide, Or.inl (xT_5 73 rfl rfl)⟩
set_option maxRecDepth 20000 in
theorem cm_L_68 : xCm mL 68 mX9_least 1 := ⟨xT_3 175 rfl rfl, xT_1 1 rfl rfl, ⟨by decide, by decide, by decide +kernel⟩, by decide, Or.inl (xT_3 172 rfl rfl)⟩
set_option maxRecDepth 20000 in
theorem cm_L_71 : xCm mL 71 mX10_least 1 := ⟨xT_5 105 rfl rfl, xT_1 18 rfl rfl, ⟨by decide, by decide, by decide +kernel⟩, by decide, Or.inl (xT_5 102 rfl rfl)⟩
set_option maxRecDepth 20000 in
theorem cm_L_72 : xCm mL 72 mX9_checks 2 := ⟨xT_3 179 rfl rfl, xT_1 1 rfl rfl, ⟨by decide, by decide, by decide +kernel⟩, by decide, Or.inl (xT_3 176 rfl rfl)⟩
set_option maxRecDepth 20000 in
theorem cm_L_75 : xCm mL 75 mX10_checks 2 := ⟨xT_5 109 rfl rfl, xT_1 18 rfl rfl, ⟨by decide, by decide, by decide +kernel⟩, by decide, Or.inl (xT_5 106 rfl rfl)⟩
set_option maxRecDepth 20000 in
theorem cm_L_76 : xCm mL 76 mX9_see 2 := ⟨xT_3 193 rfl rfl, xT_1 1 rfl rfl, ⟨by decide, by decide, by decide +kernel⟩, by decide, Or.inl (xT_3 190 rfl rfl)⟩
set_option maxRecDepth 20000 in
theorem cm_L_79 : xCm mL 79 mX10_see 2 := ⟨xT_5 117 rfl rfl, xT_1 18 rfl rfl, ⟨by decide, by decide, by decide +kernel⟩, by decide, Or.inl (xT_5 114 rfl rfl)⟩
set_option maxRecDepth 20000 in
theorem cm_L_80 : xCm mL 80 mX9_forget 0 := ⟨xT_3 206 rfl rfl, xT_1 1 rfl rfl, ⟨by decide, by decide, by decide +kernel⟩, by decide, Or.inl (xT_3 203 rfl rfl)⟩
set_option maxRecDepth 20000 in
theorem cm_L_83 : xCm mL 83 mX10_forget 0 := ⟨xT_5 122 rfl rfl, xT_1 18 rfl rfl, ⟨by decide, by decide, by decide +kernel⟩, by decide, Or.inl (xT_5 119 rfl rfl)⟩
set_option maxRecDepth 20000 in
theorem cm_L_84 : xCm mL 84 mX9_kinds 1 := ⟨xT_3 210 rfl rfl, xT_1 1 rfl rfl, ⟨by decide, by decide, by decide +kernel⟩, by decide, Or.inl (xT_3 207 rfl rfl)⟩
set_option maxRecDepth 20000 in
theorem cm_L_87 : xCm mL 87 mX10_kinds 1 := ⟨xT_5 126 rfl rfl, xT_1 18 rfl rfl, ⟨by decide, by decide, by decide +kernel⟩, by decide, Or.inl (xT_5 123 rfl rfl)⟩
set_option maxRecDepth 20000 in
theorem cm_L_88 : xCm mL 88 mX9_copies 0 := ⟨xT_3 218 rfl rfl, xT_1 1 rfl rfl, ⟨by decide, by decide, by decide +kernel⟩, by decide, Or.inl (xT_3 215 rfl rfl)⟩
set_option maxRecDepth 20000 in
theorem cm_L_91 : xCm mL 91 mX10_copies 0 := ⟨xT_5 130 rfl rfl, xT_1 18 rfl rfl, ⟨by decide, by decide, by decide +kernel⟩, by decide, Or.inl (xT_5 127 rfl rfl)⟩
set_option maxRecDepth 20000 in
theorem cm_L_92 : xCm mL 92 mX9_agree 2 := ⟨xT_3 226 rfl rfl, xT_1 1 rfl rfl, ⟨by decide, by decide, by decide +kernel⟩, by decide, Or.inl (xT_3 223 rfl rfl)⟩
set_option maxRecDepth 20000 in
theorem cm_L_95 : xCm mL 95 mX10_agree 2 := ⟨xT_5 134 rfl rfl, xT_1 18 rfl rfl, ⟨by decide, by decide, by decide +kernel⟩, by decide, Or.inl (xT_5 131 rfl rfl)⟩
set_option maxRecDepth 20000 in
theorem cm_L_96 : xCm mL 96 mX9_honest 3 := ⟨xT_3 230 rfl rfl, xT_1 1 rfl rfl, ⟨by decide, by decide, by decide +kernel⟩, by decide, Or.inl (xT_3 227 rfl rfl)⟩
set_option maxRecDepth 20000 in
theorem cm_L_100 : xCm mL 100 mX10_honest 3 := ⟨xT_5 138 rfl rfl, xT_1 18 rfl rfl, ⟨by decide, by decide, by decide +kernel⟩, by decide, Or.inl (xT_5 135 rfl rfl)⟩
set_option maxRecDepth 20000 in
theorem cm_L_101 : xCm mL 101 mX9_shire 3 := ⟨xT_4 13 rfl rfl, xT_1 1 rfl rfl, ⟨by decide, by decide, by decide +kernel⟩, by decide, Or.inl (xT_4 10 rfl rfl)⟩
set_option maxRecDepth 20000 in
theorem cm_L_104 : xCm mL 104 mX10_shire 3 := ⟨xT_5 144 rfl rfl, xT_1 18 rfl rfl, ⟨by decide, by decide, by decide +kernel⟩, by decide, Or.inl (xT_5 141 rfl rfl)⟩
set_option maxRecDepth 20000 in
theorem cm_L_105 : xCm mL 105 mX9_keep 0 := ⟨xT_4 35 rfl rfl, xT_1 1 rfl rfl, ⟨by decide, by decide, by decide +kernel⟩, by decide, Or.inl (xT_4 32 rfl rfl)⟩
set_option maxRecDepth 20000 in
theorem cm_L_108 : xCm mL 108 mX10_keep 0 := ⟨xT_5 158 rfl rfl, xT_1 18 rfl rfl, ⟨by decide, by decide, by decide +kernel⟩, by decide, Or.inl (xT_5 155 rfl rfl)⟩
set_option maxRecDepth 20000 in
theorem cm_L_109 : xCm mL 109 mX9_back 0 := ⟨xT_4 40 rfl rfl, xT_1 1 rfl rfl, ⟨by decide, by decide, by decide +kernel⟩, by decide, Or.inl (xT_4 37 rfl rfl)⟩
set_option maxRecDepth 20000 in
theorem cm_L_112 : xCm mL 112 mX10_back 0 := ⟨xT_5 162 rfl rfl, xT_1 18 rfl rfl, ⟨by decide, by decide, by decide +kernel⟩, by decide, Or.inl (xT_5 159 rfl rfl)⟩
set_option maxRecDepth 20000 in
theorem cm_L_113 : xCm mL 113 mX9_count 1 := ⟨xT_4 44 rfl rfl, xT_1 1 rfl rfl, ⟨by decide, by decide, by decide +kernel⟩, by decide, Or.inl (xT_4 41 rfl rfl)⟩
set_option maxRecDepth 20000 in
theorem cm_L_116 : xCm mL 116 mX10_count 1 := ⟨xT_5 166 rfl rfl, xT_1 18 rfl rfl, ⟨by decide, by decide, by decide +kernel⟩, by decide, Or.inl (xT_5 163 rfl rfl)⟩
