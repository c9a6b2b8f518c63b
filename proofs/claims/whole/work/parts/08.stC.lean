theorem eX9_init_0 : x_aload mX9_init 0 0 1 := Or.inl ⟨0, by decide +kernel, rfl, rfl⟩
theorem eX9_init_4 : x_aload mX9_init 4 0 5 := Or.inl ⟨0, by decide +kernel, rfl, rfl⟩
theorem eX9_init_8 : xD mX9_init 8 (.dup) 1 9 := ⟨by decide +kernel, rfl⟩
set_option maxRecDepth 20000 in
theorem eX9_init_9 : xCI mX9_init 9 mX6_init 0 12 := ⟨11, by decide +kernel, rfl, ⟨cm_X9_11.1, cm_X9_11.2.1, cm_X9_11.2.2.1, cm_X9_11.2.2.2.1, cm_X9_11.2.2.2.2⟩, xT_1 31 rfl rfl, rfl⟩
set_option maxRecDepth 20000 in
theorem eX9_init_12 : xPF mX9_init 12 9 0 (.object "NotAnOx$Scroll") 15 := ⟨12, _, by decide +kernel, rfl, fl_X9_12, fun _ => ⟨rfl, ⟨_, rfl, rfl⟩, _, rfl, xT_2 170 rfl rfl⟩⟩
theorem eX9_init_15 : x_aload mX9_init 15 0 16 := Or.inl ⟨0, by decide +kernel, rfl, rfl⟩
theorem eX9_init_19 : xD mX9_init 19 (.dup) 1 20 := ⟨by decide +kernel, rfl⟩
set_option maxRecDepth 20000 in
theorem eX9_init_20 : xCI mX9_init 20 mX5_init 0 23 := ⟨18, by decide +kernel, rfl, ⟨cm_X9_18.1, cm_X9_18.2.1, cm_X9_18.2.2.1, cm_X9_18.2.2.2.1, cm_X9_18.2.2.2.2⟩, xT_1 47 rfl rfl, rfl⟩
set_option maxRecDepth 20000 in
theorem eX9_init_23 : xPF mX9_init 23 9 1 (.object "NotAnOx$Reader") 26 := ⟨19, _, by decide +kernel, rfl, fl_X9_19, fun _ => ⟨rfl, ⟨_, rfl, rfl⟩, _, rfl, xT_2 171 rfl rfl⟩⟩
theorem eX9_init_26 : x_aload mX9_init 26 0 27 := Or.inl ⟨0, by decide +kernel, rfl, rfl⟩
theorem eX9_init_30 : xD mX9_init 30 (.dup) 1 31 := ⟨by decide +kernel, rfl⟩
set_option maxRecDepth 20000 in
theorem eX9_init_31 : xCI mX9_init 31 mX2_init 0 34 := ⟨25, by decide +kernel, rfl, ⟨cm_X9_25.1, cm_X9_25.2.1, cm_X9_25.2.2.1, cm_X9_25.2.2.2.1, cm_X9_25.2.2.2.2⟩, xT_1 61 rfl rfl, rfl⟩
set_option maxRecDepth 20000 in
theorem eX9_init_34 : xPF mX9_init 34 9 2 (.object "NotAnOx$Land") 37 := ⟨26, _, by decide +kernel, rfl, fl_X9_26, fun _ => ⟨rfl, ⟨_, rfl, rfl⟩, _, rfl, xT_2 172 rfl rfl⟩⟩
theorem eX9_init_37 : x_aload mX9_init 37 0 38 := Or.inl ⟨0, by decide +kernel, rfl, rfl⟩
theorem eX9_init_41 : xD mX9_init 41 (.dup) 1 42 := ⟨by decide +kernel, rfl⟩
set_option maxRecDepth 20000 in
theorem eX9_init_42 : xCI mX9_init 42 mX2_init 0 45 := ⟨25, by decide +kernel, rfl, ⟨cm_X9_25.1, cm_X9_25.2.1, cm_X9_25.2.2.1, cm_X9_25.2.2.2.1, cm_X9_25.2.2.2.2⟩, xT_1 61 rfl rfl, rfl⟩
set_option maxRecDepth 20000 in
theorem eX9_init_45 : xPF mX9_init 45 9 3 (.object "NotAnOx$Land") 48 := ⟨30, _, by decide +kernel, rfl, fl_X9_30, fun _ => ⟨rfl, ⟨_, rfl, rfl⟩, _, rfl, xT_2 173 rfl rfl⟩⟩
theorem eX9_init_48 : x_aload mX9_init 48 0 49 := Or.inl ⟨0, by decide +kernel, rfl, rfl⟩
theorem eX9_init_52 : xD mX9_init 52 (.dup) 1 53 := ⟨by decide +kernel, rfl⟩
theorem eX9_init_53 : x_aload mX9_init 53 0 54 := Or.inl ⟨0, by decide +kernel, rfl, rfl⟩
theorem eX9_init_54 : xGF mX9_init 54 9 3 57 := ⟨30, _, _, by decide +kernel, rfl, fl_X9_30⟩
set_option maxRecDepth 20000 in
theorem eX9_init_57 : xCI mX9_init 57 mX0_init 1 60 := ⟨35, by decide +kernel, rfl, ⟨cm_X9_35.1, cm_X9_35.2.1, cm_X9_35.2.2.1, cm_X9_35.2.2.2.1, cm_X9_35.2.2.2.2⟩, xT_1 117 rfl rfl, rfl⟩
set_option maxRecDepth 20000 in
theorem eX9_init_60 : xPF mX9_init 60 9 4 (.object "NotAnOx$Book") 63 := ⟨38, _, by decide +kernel, rfl, fl_X9_38, fun _ => ⟨rfl, ⟨_, rfl, rfl⟩, _, rfl, xT_2 174 rfl rfl⟩⟩
theorem eX9_init_63 : x_aload mX9_init 63 0 64 := Or.inl ⟨0, by decide +kernel, rfl, rfl⟩
theorem eX9_init_67 : xD mX9_init 67 (.dup) 1 68 := ⟨by decide +kernel, rfl⟩
theorem eX9_init_68 : x_aload mX9_init 68 0 69 := Or.inl ⟨0, by decide +kernel, rfl, rfl⟩
theorem eX9_init_69 : xGF mX9_init 69 9 3 72 := ⟨30, _, _, by decide +kernel, rfl, fl_X9_30⟩
set_option maxRecDepth 20000 in
theorem eX9_init_72 : xCI mX9_init 72 mX0_init 1 75 := ⟨35, by decide +kernel, rfl, ⟨cm_X9_35.1, cm_X9_35.2.1, cm_X9_35.2.2.1, cm_X9_35.2.2.2.1, cm_X9_35.2.2.2.2⟩, xT_1 117 rfl rfl, rfl⟩
set_option maxRecDepth 20000 in
theorem eX9_init_75 : xPF mX9_init 75 9 5 (.object "NotAnOx$Book") 78 := ⟨42, _, by decide +kernel, rfl, fl_X9_42, fun _ => ⟨rfl, ⟨_, rfl, rfl⟩, _, rfl, xT_2 175 rfl rfl⟩⟩
theorem eX9_init_78 : x_aload mX9_init 78 0 79 := Or.inl ⟨0, by decide +kernel, rfl, rfl⟩
theorem eX9_init_82 : xD mX9_init 82 (.dup) 1 83 := ⟨by decide +kernel, rfl⟩
theorem eX9_init_83 : x_aload mX9_init 83 0 84 := Or.inl ⟨0, by decide +kernel, rfl, rfl⟩
theorem eX9_init_84 : xGF mX9_init 84 9 3 87 := ⟨30, _, _, by decide +kernel, rfl, fl_X9_30⟩
theorem eX9_init_87 : xK mX9_init 87 (nI 8) 89 := Or.inr (Or.inl (⟨8, by decide +kernel, by decide, rfl⟩))
set_option maxRecDepth 20000 in
theorem eX9_init_89 : xCI mX9_init 89 mX4_init 2 92 := ⟨47, by decide +kernel, rfl, ⟨cm_X9_47.1, cm_X9_47.2.1, cm_X9_47.2.2.1, cm_X9_47.2.2.2.1, cm_X9_47.2.2.2.2⟩, xT_1 153 rfl rfl, rfl⟩
set_option maxRecDepth 20000 in
theorem eX9_init_92 : xPF mX9_init 92 9 6 (.object "NotAnOx$Pile") 95 := ⟨50, _, by decide +kernel, rfl, fl_X9_50, fun _ => ⟨rfl, ⟨_, rfl, rfl⟩, _, rfl, xT_2 176 rfl rfl⟩⟩
theorem eX9_init_95 : x_aload mX9_init 95 0 96 := Or.inl ⟨0, by decide +kernel, rfl, rfl⟩
theorem eX9_init_99 : xD mX9_init 99 (.dup) 1 100 := ⟨by decide +kernel, rfl⟩
theorem eX9_init_100 : x_aload mX9_init 100 0 101 := Or.inl ⟨0, by decide +kernel, rfl, rfl⟩
theorem eX9_init_101 : xGF mX9_init 101 9 3 104 := ⟨30, _, _, by decide +kernel, rfl, fl_X9_30⟩
theorem eX9_init_104 : xK mX9_init 104 (nI 2) 105 := Or.inl (⟨2, by decide +kernel, by decide, rfl⟩)
set_option maxRecDepth 20000 in
theorem eX9_init_105 : xCI mX9_init 105 mX4_init 2 108 := ⟨47, by decide +kernel, rfl, ⟨cm_X9_47.1, cm_X9_47.2.1, cm_X9_47.2.2.1, cm_X9_47.2.2.2.1, cm_X9_47.2.2.2.2⟩, xT_1 153 rfl rfl, rfl⟩
set_option maxRecDepth 20000 in
theorem eX9_init_108 : xPF mX9_init 108 9 7 (.object "NotAnOx$Pile") 111 := ⟨54, _, by decide +kernel, rfl, fl_X9_54, fun _ => ⟨rfl, ⟨_, rfl, rfl⟩, _, rfl, xT_2 177 rfl rfl⟩⟩
theorem eX9_init_111 : x_aload mX9_init 111 0 112 := Or.inl ⟨0, by decide +kernel, rfl, rfl⟩
theorem eX9_init_115 : xD mX9_init 115 (.dup) 1 116 := ⟨by decide +kernel, rfl⟩
set_option maxRecDepth 20000 in
theorem eX9_init_116 : xCI mX9_init 116 mX8_init 0 119 := ⟨59, by decide +kernel, rfl, ⟨cm_X9_59.1, cm_X9_59.2.1, cm_X9_59.2.2.1, cm_X9_59.2.2.2.1, cm_X9_59.2.2.2.2⟩, xT_1 176 rfl rfl, rfl⟩
set_option maxRecDepth 20000 in
theorem eX9_init_119 : xPF mX9_init 119 9 8 (.object "NotAnOx$Sightings") 122 := ⟨60, _, by decide +kernel, rfl, fl_X9_60, fun _ => ⟨rfl, ⟨_, rfl, rfl⟩, _, rfl, xT_2 178 rfl rfl⟩⟩
theorem eX9_init_122 : x_aload mX9_init 122 0 123 := Or.inl ⟨0, by decide +kernel, rfl, rfl⟩
theorem eX9_init_126 : xD mX9_init 126 (.dup) 1 127 := ⟨by decide +kernel, rfl⟩
theorem eX9_init_127 : x_aload mX9_init 127 0 128 := Or.inl ⟨0, by decide +kernel, rfl, rfl⟩
theorem eX9_init_128 : xGF mX9_init 128 9 3 131 := ⟨30, _, _, by decide +kernel, rfl, fl_X9_30⟩
set_option maxRecDepth 20000 in
theorem eX9_init_131 : xCI mX9_init 131 mX7_init 1 134 := ⟨66, by decide +kernel, rfl, ⟨cm_X9_66.1, cm_X9_66.2.1, cm_X9_66.2.2.1, cm_X9_66.2.2.2.1, cm_X9_66.2.2.2.2⟩, xT_1 193 rfl rfl, rfl⟩
set_option maxRecDepth 20000 in
theorem eX9_init_134 : xPF mX9_init 134 9 9 (.object "NotAnOx$Sharing") 137 := ⟨67, _, by decide +kernel, rfl, fl_X9_67, fun _ => ⟨rfl, ⟨_, rfl, rfl⟩, _, rfl, xT_2 179 rfl rfl⟩⟩
theorem eX9_init_137 : x_aload mX9_init 137 0 138 := Or.inl ⟨0, by decide +kernel, rfl, rfl⟩
theorem eX9_init_141 : xD mX9_init 141 (.dup) 1 142 := ⟨by decide +kernel, rfl⟩
theorem eX9_init_142 : x_aload mX9_init 142 0 143 := Or.inl ⟨0, by decide +kernel, rfl, rfl⟩
theorem eX9_init_143 : xGF mX9_init 143 9 3 146 := ⟨30, _, _, by decide +kernel, rfl, fl_X9_30⟩
set_option maxRecDepth 20000 in
theorem eX9_init_146 : xCI mX9_init 146 mX3_init 1 149 := ⟨73, by decide +kernel, rfl, ⟨cm_X9_73.1, cm_X9_73.2.1, cm_X9_73.2.2.1, cm_X9_73.2.2.2.1, cm_X9_73.2.2.2.2⟩, xT_1 220 rfl rfl, rfl⟩
set_option maxRecDepth 20000 in
theorem eX9_init_149 : xPF mX9_init 149 9 10 (.object "NotAnOx$Orders") 152 := ⟨74, _, by decide +kernel, rfl, fl_X9_74, fun _ => ⟨rfl, ⟨_, rfl, rfl⟩, _, rfl, xT_2 180 rfl rfl⟩⟩
theorem eX9_init_152 : x_aload mX9_init 152 0 153 := Or.inl ⟨0, by decide +kernel, rfl, rfl⟩
theorem eX9_init_156 : xD mX9_init 156 (.dup) 1 157 := ⟨by decide +kernel, rfl⟩
theorem eX9_init_157 : x_aload mX9_init 157 0 158 := Or.inl ⟨0, by decide +kernel, rfl, rfl⟩
theorem eX9_init_158 : xGF mX9_init 158 9 3 161 := ⟨30, _, _, by decide +kernel, rfl, fl_X9_30⟩
set_option maxRecDepth 20000 in
theorem eX9_init_161 : xCI mX9_init 161 mX1_init 1 164 := ⟨80, by decide +kernel, rfl, ⟨cm_X9_80.1, cm_X9_80.2.1, cm_X9_80.2.2.1, cm_X9_80.2.2.2.1, cm_X9_80.2.2.2.2⟩, xT_2 15 rfl rfl, rfl⟩
set_option maxRecDepth 20000 in
theorem eX9_init_164 : xPF mX9_init 164 9 11 (.object "NotAnOx$Chance") 167 := ⟨81, _, by decide +kernel, rfl, fl_X9_81, fun _ => ⟨rfl, ⟨_, rfl, rfl⟩, _, rfl, xT_2 181 rfl rfl⟩⟩
theorem eX9_init_167 : xK mX9_init 167 (nI 0) 168 := Or.inl (⟨0, by decide +kernel, by decide, rfl⟩)
theorem eX9_init_168 : x_istore mX9_init 168 1 169 := Or.inl ⟨1, by decide +kernel, rfl, rfl⟩
theorem eX9_init_169 : x_iload mX9_init 169 1 170 := Or.inl ⟨1, by decide +kernel, rfl, rfl⟩
theorem eX9_init_175 : xJ mX9_init 175 (.if_icmp .ge) 197 178 := ⟨(22), by decide +kernel, by decide, rfl⟩
theorem eX9_init_178 : x_aload mX9_init 178 0 179 := Or.inl ⟨0, by decide +kernel, rfl, rfl⟩
theorem eX9_init_179 : xGF mX9_init 179 9 0 182 := ⟨12, _, _, by decide +kernel, rfl, fl_X9_12⟩
theorem eX9_init_184 : x_iload mX9_init 184 1 185 := Or.inl ⟨1, by decide +kernel, rfl, rfl⟩
set_option maxRecDepth 20000 in
theorem eX9_init_188 : xCV mX9_init 188 mX6_add 1 6 191 := ⟨97, by decide +kernel, rfl, ⟨cm_X9_97.1, cm_X9_97.2.1, cm_X9_97.2.2.1, cm_X9_97.2.2.2.1, cm_X9_97.2.2.2.2⟩, xT_2 85 rfl rfl, xT_2 86 rfl rfl, _, rfl, rfl⟩
theorem eX9_init_191 : xD mX9_init 191 (.iinc 1 1) 3 194 := ⟨by decide +kernel, rfl⟩
theorem eX9_init_194 : xJ mX9_init 194 (.goto) 169 197 := ⟨(-25), by decide +kernel, by decide, rfl⟩
theorem eX9_init_197 : x_aload mX9_init 197 0 198 := Or.inl ⟨0, by decide +kernel, rfl, rfl⟩
set_option maxRecDepth 20000 in
theorem eX9_init_198 : xCV mX9_init 198 mX9_layScroll 0 9 201 := ⟨101, by decide +kernel, rfl, ⟨cm_X9_101.1, cm_X9_101.2.1, cm_X9_101.2.2.1, cm_X9_101.2.2.2.1, cm_X9_101.2.2.2.2⟩, xT_2 94 rfl rfl, xT_0 0 rfl rfl, _, rfl, rfl⟩
theorem eX9_init_201 : x_aload mX9_init 201 0 202 := Or.inl ⟨0, by decide +kernel, rfl, rfl⟩
theorem eX9_init_202 : xGF mX9_init 202 9 0 205 := ⟨12, _, _, by decide +kernel, rfl, fl_X9_12⟩
set_option maxRecDepth 20000 in
theorem eX9_init_205 : xCV mX9_init 205 mX6_clear 0 6 208 := ⟨104, by decide +kernel, rfl, ⟨cm_X9_104.1, cm_X9_104.2.1, cm_X9_104.2.2.1, cm_X9_104.2.2.2.1, cm_X9_104.2.2.2.2⟩, xT_2 167 rfl rfl, xT_2 168 rfl rfl, _, rfl, rfl⟩
theorem eX9_init_208 : xD mX9_init 208 (.return_) 1 209 := ⟨by decide +kernel, rfl⟩
theorem eX9_write_0 : x_iload mX9_write 0 1 1 := Or.inl ⟨1, by decide +kernel, rfl, rfl⟩
theorem eX9_write_1 : xK mX9_write 1 (nI 32) 3 := Or.inr (Or.inl (⟨32, by decide +kernel, by decide, rfl⟩))
theorem eX9_write_3 : xK mX9_write 3 (nI 126) 5 := Or.inr (Or.inl (⟨126, by decide +kernel, by decide, rfl⟩))
set_option maxRecDepth 20000 in
theorem eX9_write_5 : xCS mX9_write 5 mX9_isWithin 3 8 := ⟨107, by decide +kernel, rfl, ⟨cm_X9_107.1, cm_X9_107.2.1, cm_X9_107.2.2.1, cm_X9_107.2.2.2.1, cm_X9_107.2.2.2.2⟩, xT_2 129 rfl rfl⟩
theorem eX9_write_8 : xJ mX9_write 8 (.ifCond .ne) 13 11 := ⟨(5), by decide +kernel, by decide, rfl⟩
theorem eX9_write_11 : xK mX9_write 11 ((-1)) 12 := Or.inl (⟨(-1), by decide +kernel, by decide, rfl⟩)
theorem eX9_write_12 : xD mX9_write 12 (.ireturn) 1 13 := ⟨by decide +kernel, rfl⟩
theorem eX9_write_13 : x_aload mX9_write 13 0 14 := Or.inl ⟨0, by decide +kernel, rfl, rfl⟩
theorem eX9_write_14 : xGF mX9_write 14 9 0 17 := ⟨12, _, _, by decide +kernel, rfl, fl_X9_12⟩
set_option maxRecDepth 20000 in
theorem eX9_write_17 : xCV mX9_write 17 mX6_isFull 0 6 20 := ⟨111, by decide +kernel, rfl, ⟨cm_X9_111.1, cm_X9_111.2.1, cm_X9_111.2.2.1, cm_X9_111.2.2.2.1, cm_X9_111.2.2.2.2⟩, xT_2 89 rfl rfl, xT_2 90 rfl rfl, _, rfl, rfl⟩
theorem eX9_write_20 : xJ mX9_write 20 (.ifCond .eq) 26 23 := ⟨(6), by decide +kernel, by decide, rfl⟩
theorem eX9_write_23 : xK mX9_write 23 ((-3)) 25 := Or.inr (Or.inl (⟨(-3), by decide +kernel, by decide, rfl⟩))
theorem eX9_write_25 : xD mX9_write 25 (.ireturn) 1 26 := ⟨by decide +kernel, rfl⟩
theorem eX9_write_26 : x_aload mX9_write 26 0 27 := Or.inl ⟨0, by decide +kernel, rfl, rfl⟩
theorem eX9_write_27 : xGF mX9_write 27 9 0 30 := ⟨12, _, _, by decide +kernel, rfl, fl_X9_12⟩
theorem eX9_write_30 : x_iload mX9_write 30 1 31 := Or.inl ⟨1, by decide +kernel, rfl, rfl⟩
theorem eX9_write_31 : xD mX9_write 31 (.i2c) 1 32 := ⟨by decide +kernel, rfl⟩
set_option maxRecDepth 20000 in
theorem eX9_write_32 : xCV mX9_write 32 mX6_add 1 6 35 := ⟨97, by decide +kernel, rfl, ⟨cm_X9_97.1, cm_X9_97.2.1, cm_X9_97.2.2.1, cm_X9_97.2.2.2.1, cm_X9_97.2.2.2.2⟩, xT_2 85 rfl rfl, xT_2 86 rfl rfl, _, rfl, rfl⟩
theorem eX9_write_35 : x_aload mX9_write 35 0 36 := Or.inl ⟨0, by decide +kernel, rfl, rfl⟩
theorem eX9_write_36 : xGF mX9_write 36 9 0 39 := ⟨12, _, _, by decide +kernel, rfl, fl_X9_12⟩
theorem eX9_write_39 : xGF mX9_write 39 6 1 42 := ⟨115, _, _, by decide +kernel, rfl, fl_X9_115⟩
theorem eX9_write_42 : xD mX9_write 42 (.ireturn) 1 43 := ⟨by decide +kernel, rfl⟩
theorem eX9_wipe_0 : x_aload mX9_wipe 0 0 1 := Or.inl ⟨0, by decide +kernel, rfl, rfl⟩
theorem eX9_wipe_1 : xGF mX9_wipe 1 9 0 4 := ⟨12, _, _, by decide +kernel, rfl, fl_X9_12⟩
theorem eX9_wipe_4 : xGF mX9_wipe 4 6 1 7 := ⟨115, _, _, by decide +kernel, rfl, fl_X9_115⟩
theorem eX9_wipe_7 : x_istore mX9_wipe 7 1 8 := Or.inl ⟨1, by decide +kernel, rfl, rfl⟩
theorem eX9_wipe_8 : x_aload mX9_wipe 8 0 9 := Or.inl ⟨0, by decide +kernel, rfl, rfl⟩
theorem eX9_wipe_9 : xGF mX9_wipe 9 9 0 12 := ⟨12, _, _, by decide +kernel, rfl, fl_X9_12⟩
set_option maxRecDepth 20000 in
theorem eX9_wipe_12 : xCV mX9_wipe 12 mX6_clear 0 6 15 := ⟨104, by decide +kernel, rfl, ⟨cm_X9_104.1, cm_X9_104.2.1, cm_X9_104.2.2.1, cm_X9_104.2.2.2.1, cm_X9_104.2.2.2.2⟩, xT_2 167 rfl rfl, xT_2 168 rfl rfl, _, rfl, rfl⟩
theorem eX9_wipe_15 : x_iload mX9_wipe 15 1 16 := Or.inl ⟨1, by decide +kernel, rfl, rfl⟩
theorem eX9_wipe_16 : xD mX9_wipe 16 (.ireturn) 1 17 := ⟨by decide +kernel, rfl⟩
theorem eX9_fault_0 : x_aload mX9_fault 0 0 1 := Or.inl ⟨0, by decide +kernel, rfl, rfl⟩
theorem eX9_fault_1 : xGF mX9_fault 1 9 1 4 := ⟨19, _, _, by decide +kernel, rfl, fl_X9_19⟩
theorem eX9_fault_4 : x_aload mX9_fault 4 0 5 := Or.inl ⟨0, by decide +kernel, rfl, rfl⟩
theorem eX9_fault_5 : xGF mX9_fault 5 9 0 8 := ⟨12, _, _, by decide +kernel, rfl, fl_X9_12⟩
theorem eX9_fault_8 : x_aload mX9_fault 8 0 9 := Or.inl ⟨0, by decide +kernel, rfl, rfl⟩
theorem eX9_fault_9 : xGF mX9_fault 9 9 2 12 := ⟨26, _, _, by decide +kernel, rfl, fl_X9_26⟩
set_option maxRecDepth 20000 in
theorem eX9_fault_12 : xCV mX9_fault 12 mX5_readAll 2 5 15 := ⟨119, by decide +kernel, rfl, ⟨cm_X9_119.1, cm_X9_119.2.1, cm_X9_119.2.2.1, cm_X9_119.2.2.2.1, cm_X9_119.2.2.2.2⟩, xT_2 97 rfl rfl, xT_2 98 rfl rfl, _, rfl, rfl⟩
theorem eX9_fault_15 : xD mX9_fault 15 (.ireturn) 1 16 := ⟨by decide +kernel, rfl⟩
theorem eX9_lay_0 : x_aload mX9_lay 0 0 1 := Or.inl ⟨0, by decide +kernel, rfl, rfl⟩
theorem eX9_lay_1 : xGF mX9_lay 1 9 1 4 := ⟨19, _, _, by decide +kernel, rfl, fl_X9_19⟩
theorem eX9_lay_4 : x_aload mX9_lay 4 0 5 := Or.inl ⟨0, by decide +kernel, rfl, rfl⟩
theorem eX9_lay_5 : xGF mX9_lay 5 9 0 8 := ⟨12, _, _, by decide +kernel, rfl, fl_X9_12⟩
theorem eX9_lay_8 : x_aload mX9_lay 8 0 9 := Or.inl ⟨0, by decide +kernel, rfl, rfl⟩
theorem eX9_lay_9 : xGF mX9_lay 9 9 2 12 := ⟨26, _, _, by decide +kernel, rfl, fl_X9_26⟩
set_option maxRecDepth 20000 in
theorem eX9_lay_12 : xCV mX9_lay 12 mX5_readAll 2 5 15 := ⟨119, by decide +kernel, rfl, ⟨cm_X9_119.1, cm_X9_119.2.1, cm_X9_119.2.2.1, cm_X9_119.2.2.2.1, cm_X9_119.2.2.2.2⟩, xT_2 97 rfl rfl, xT_2 98 rfl rfl, _, rfl, rfl⟩
theorem eX9_lay_15 : xK mX9_lay 15 ((-4)) 17 := Or.inr (Or.inl (⟨(-4), by decide +kernel, by decide, rfl⟩))
theorem eX9_lay_17 : xJ mX9_lay 17 (.if_icmp .ne) 40 20 := ⟨(23), by decide +kernel, by decide, rfl⟩
theorem eX9_lay_20 : x_aload mX9_lay 20 0 21 := Or.inl ⟨0, by decide +kernel, rfl, rfl⟩
theorem eX9_lay_21 : xGF mX9_lay 21 9 2 24 := ⟨26, _, _, by decide +kernel, rfl, fl_X9_26⟩
theorem eX9_lay_24 : xGF mX9_lay 24 2 5 27 := ⟨123, _, _, by decide +kernel, rfl, fl_X9_123⟩
theorem eX9_lay_27 : xJ mX9_lay 27 (.ifCond .eq) 40 30 := ⟨(13), by decide +kernel, by decide, rfl⟩
theorem eX9_lay_30 : x_aload mX9_lay 30 0 31 := Or.inl ⟨0, by decide +kernel, rfl, rfl⟩
theorem eX9_lay_31 : xGF mX9_lay 31 9 2 34 := ⟨26, _, _, by decide +kernel, rfl, fl_X9_26⟩
theorem eX9_lay_34 : xGF mX9_lay 34 2 6 37 := ⟨126, _, _, by decide +kernel, rfl, fl_X9_126⟩
theorem eX9_lay_37 : xJ mX9_lay 37 (.ifCond .ne) 43 40 := ⟨(6), by decide +kernel, by decide, rfl⟩
theorem eX9_lay_40 : xK mX9_lay 40 ((-2)) 42 := Or.inr (Or.inl (⟨(-2), by decide +kernel, by decide, rfl⟩))
theorem eX9_lay_42 : xD mX9_lay 42 (.ireturn) 1 43 := ⟨by decide +kernel, rfl⟩
theorem eX9_lay_43 : x_aload mX9_lay 43 0 44 := Or.inl ⟨0, by decide +kernel, rfl, rfl⟩
set_option maxRecDepth 20000 in
theorem eX9_lay_44 : xCV mX9_lay 44 mX9_layScroll 0 9 47 := ⟨101, by decide +kernel, rfl, ⟨cm_X9_101.1, cm_X9_101.2.1, cm_X9_101.2.2.1, cm_X9_101.2.2.2.1, cm_X9_101.2.2.2.2⟩, xT_2 94 rfl rfl, xT_0 0 rfl rfl, _, rfl, rfl⟩
theorem eX9_lay_47 : x_aload mX9_lay 47 0 48 := Or.inl ⟨0, by decide +kernel, rfl, rfl⟩
theorem eX9_lay_48 : xGF mX9_lay 48 9 3 51 := ⟨30, _, _, by decide +kernel, rfl, fl_X9_30⟩
theorem eX9_lay_51 : xGF mX9_lay 51 2 5 54 := ⟨123, _, _, by decide +kernel, rfl, fl_X9_123⟩
theorem eX9_lay_54 : xD mX9_lay 54 (.ireturn) 1 55 := ⟨by decide +kernel, rfl⟩
theorem eX9_village_0 : x_aload mX9_village 0 0 1 := Or.inl ⟨0, by decide +kernel, rfl, rfl⟩
theorem eX9_village_1 : x_iload mX9_village 1 1 2 := Or.inl ⟨1, by decide +kernel, rfl, rfl⟩
set_option maxRecDepth 20000 in
theorem eX9_village_2 : xCV mX9_village 2 mX9_isVillage 1 9 5 := ⟨129, by decide +kernel, rfl, ⟨cm_X9_129.1, cm_X9_129.2.1, cm_X9_129.2.2.1, cm_X9_129.2.2.2.1, cm_X9_129.2.2.2.2⟩, xT_2 232 rfl rfl, xT_0 5 rfl rfl, _, rfl, rfl⟩
theorem eX9_village_5 : xJ mX9_village 5 (.ifCond .ne) 10 8 := ⟨(5), by decide +kernel, by decide, rfl⟩
theorem eX9_village_8 : xK mX9_village 8 ((-1)) 9 := Or.inl (⟨(-1), by decide +kernel, by decide, rfl⟩)
theorem eX9_village_9 : xD mX9_village 9 (.ireturn) 1 10 := ⟨by decide +kernel, rfl⟩
theorem eX9_village_10 : x_iload mX9_village 10 2 11 := Or.inl ⟨2, by decide +kernel, rfl, rfl⟩
def tX9_village_11 : Int → Nat := fun v => match v with | 0 => 48 | 1 => 58 | 2 => 68 | 3 => 94 | 4 => 111 | 5 => 152 | _ => 0
theorem eX9_village_11 : xTS mX9_village 11 0 5 tX9_village_11 162 := ⟨151, #[37, 47, 57, 83, 100, 141], 37, by decide +kernel, by decide, by decide +kernel⟩
theorem eX9_village_48 : x_aload mX9_village 48 0 49 := Or.inl ⟨0, by decide +kernel, rfl, rfl⟩
theorem eX9_village_49 : xGF mX9_village 49 9 3 52 := ⟨30, _, _, by decide +kernel, rfl, fl_X9_30⟩
theorem eX9_village_52 : xGF mX9_village 52 2 0 55 := ⟨133, _, _, by decide +kernel, rfl, fl_X9_133⟩
theorem eX9_village_55 : x_iload mX9_village 55 1 56 := Or.inl ⟨1, by decide +kernel, rfl, rfl⟩
theorem eX9_village_56 : xD mX9_village 56 (.iaload) 1 57 := ⟨by decide +kernel, rfl⟩
theorem eX9_village_57 : xD mX9_village 57 (.ireturn) 1 58 := ⟨by decide +kernel, rfl⟩
theorem eX9_village_58 : x_aload mX9_village 58 0 59 := Or.inl ⟨0, by decide +kernel, rfl, rfl⟩
theorem eX9_village_59 : xGF mX9_village 59 9 4 62 := ⟨38, _, _, by decide +kernel, rfl, fl_X9_38⟩
theorem eX9_village_62 : xGF mX9_village 62 0 1 65 := ⟨137, _, _, by decide +kernel, rfl, fl_X9_137⟩
theorem eX9_village_65 : x_iload mX9_village 65 1 66 := Or.inl ⟨1, by decide +kernel, rfl, rfl⟩
theorem eX9_village_66 : xD mX9_village 66 (.iaload) 1 67 := ⟨by decide +kernel, rfl⟩
theorem eX9_village_67 : xD mX9_village 67 (.ireturn) 1 68 := ⟨by decide +kernel, rfl⟩
theorem eX9_village_68 : x_aload mX9_village 68 0 69 := Or.inl ⟨0, by decide +kernel, rfl, rfl⟩
theorem eX9_village_69 : xGF mX9_village 69 9 4 72 := ⟨38, _, _, by decide +kernel, rfl, fl_X9_38⟩
theorem eX9_village_72 : x_iload mX9_village 72 1 73 := Or.inl ⟨1, by decide +kernel, rfl, rfl⟩
set_option maxRecDepth 20000 in
theorem eX9_village_73 : xCV mX9_village 73 mX0_holds 1 0 76 := ⟨140, by decide +kernel, rfl, ⟨cm_X9_140.1, cm_X9_140.2.1, cm_X9_140.2.2.1, cm_X9_140.2.2.2.1, cm_X9_140.2.2.2.2⟩, xT_2 235 rfl rfl, xT_2 236 rfl rfl, _, rfl, rfl⟩
theorem eX9_village_76 : xJ mX9_village 76 (.ifCond .eq) 91 79 := ⟨(15), by decide +kernel, by decide, rfl⟩
theorem eX9_village_79 : x_aload mX9_village 79 0 80 := Or.inl ⟨0, by decide +kernel, rfl, rfl⟩
theorem eX9_village_80 : xGF mX9_village 80 9 4 83 := ⟨38, _, _, by decide +kernel, rfl, fl_X9_38⟩
theorem eX9_village_83 : xGF mX9_village 83 0 2 86 := ⟨143, _, _, by decide +kernel, rfl, fl_X9_143⟩
theorem eX9_village_86 : x_iload mX9_village 86 1 87 := Or.inl ⟨1, by decide +kernel, rfl, rfl⟩
theorem eX9_village_87 : xD mX9_village 87 (.iaload) 1 88 := ⟨by decide +kernel, rfl⟩
theorem eX9_village_88 : xJ mX9_village 88 (.goto) 93 91 := ⟨(5), by decide +kernel, by decide, rfl⟩
theorem eX9_village_91 : xK mX9_village 91 ((-4)) 93 := Or.inr (Or.inl (⟨(-4), by decide +kernel, by decide, rfl⟩))
theorem eX9_village_93 : xD mX9_village 93 (.ireturn) 1 94 := ⟨by decide +kernel, rfl⟩
theorem eX9_village_94 : x_aload mX9_village 94 0 95 := Or.inl ⟨0, by decide +kernel, rfl, rfl⟩
theorem eX9_village_95 : xGF mX9_village 95 9 4 98 := ⟨38, _, _, by decide +kernel, rfl, fl_X9_38⟩
theorem eX9_village_98 : x_iload mX9_village 98 1 99 := Or.inl ⟨1, by decide +kernel, rfl, rfl⟩
set_option maxRecDepth 20000 in
theorem eX9_village_99 : xCV mX9_village 99 mX0_isChecked 1 0 102 := ⟨146, by decide +kernel, rfl, ⟨cm_X9_146.1, cm_X9_146.2.1, cm_X9_146.2.2.1, cm_X9_146.2.2.2.1, cm_X9_146.2.2.2.2⟩, xT_2 239 rfl rfl, xT_3 0 rfl rfl, _, rfl, rfl⟩
theorem eX9_village_102 : xJ mX9_village 102 (.ifCond .eq) 109 105 := ⟨(7), by decide +kernel, by decide, rfl⟩
theorem eX9_village_105 : xK mX9_village 105 (nI 1) 106 := Or.inl (⟨1, by decide +kernel, by decide, rfl⟩)
theorem eX9_village_106 : xJ mX9_village 106 (.goto) 110 109 := ⟨(4), by decide +kernel, by decide, rfl⟩
theorem eX9_village_109 : xK mX9_village 109 (nI 0) 110 := Or.inl (⟨0, by decide +kernel, by decide, rfl⟩)
theorem eX9_village_110 : xD mX9_village 110 (.ireturn) 1 111 := ⟨by decide +kernel, rfl⟩
theorem eX9_village_111 : x_aload mX9_village 111 0 112 := Or.inl ⟨0, by decide +kernel, rfl, rfl⟩
theorem eX9_village_112 : xGF mX9_village 112 9 4 115 := ⟨38, _, _, by decide +kernel, rfl, fl_X9_38⟩
theorem eX9_village_115 : x_iload mX9_village 115 1 116 := Or.inl ⟨1, by decide +kernel, rfl, rfl⟩
set_option maxRecDepth 20000 in
theorem eX9_village_116 : xCV mX9_village 116 mX0_holds 1 0 119 := ⟨140, by decide +kernel, rfl, ⟨cm_X9_140.1, cm_X9_140.2.1, cm_X9_140.2.2.1, cm_X9_140.2.2.2.1, cm_X9_140.2.2.2.2⟩, xT_2 235 rfl rfl, xT_2 236 rfl rfl, _, rfl, rfl⟩
theorem eX9_village_119 : xJ mX9_village 119 (.ifCond .eq) 127 122 := ⟨(8), by decide +kernel, by decide, rfl⟩
theorem eX9_village_122 : xK mX9_village 122 ((-4)) 124 := Or.inr (Or.inl (⟨(-4), by decide +kernel, by decide, rfl⟩))
theorem eX9_village_124 : xJ mX9_village 124 (.goto) 151 127 := ⟨(27), by decide +kernel, by decide, rfl⟩
theorem eX9_village_127 : x_aload mX9_village 127 0 128 := Or.inl ⟨0, by decide +kernel, rfl, rfl⟩
theorem eX9_village_128 : xGF mX9_village 128 9 4 131 := ⟨38, _, _, by decide +kernel, rfl, fl_X9_38⟩
theorem eX9_village_131 : x_iload mX9_village 131 1 132 := Or.inl ⟨1, by decide +kernel, rfl, rfl⟩
theorem eX9_village_132 : x_aload mX9_village 132 0 133 := Or.inl ⟨0, by decide +kernel, rfl, rfl⟩
theorem eX9_village_133 : xGF mX9_village 133 9 3 136 := ⟨30, _, _, by decide +kernel, rfl, fl_X9_30⟩
theorem eX9_village_136 : xGF mX9_village 136 2 0 139 := ⟨133, _, _, by decide +kernel, rfl, fl_X9_133⟩
theorem eX9_village_139 : x_iload mX9_village 139 1 140 := Or.inl ⟨1, by decide +kernel, rfl, rfl⟩
theorem eX9_village_140 : xD mX9_village 140 (.iaload) 1 141 := ⟨by decide +kernel, rfl⟩
theorem eX9_village_141 : x_aload mX9_village 141 0 142 := Or.inl ⟨0, by decide +kernel, rfl, rfl⟩
theorem eX9_village_142 : xGF mX9_village 142 9 3 145 := ⟨30, _, _, by decide +kernel, rfl, fl_X9_30⟩
theorem eX9_village_145 : xGF mX9_village 145 2 7 148 := ⟨149, _, _, by decide +kernel, rfl, fl_X9_149⟩
set_option maxRecDepth 20000 in
theorem eX9_village_148 : xCV mX9_village 148 mX0_sworn 3 0 151 := ⟨152, by decide +kernel, rfl, ⟨cm_X9_152.1, cm_X9_152.2.1, cm_X9_152.2.2.1, cm_X9_152.2.2.2.1, cm_X9_152.2.2.2.2⟩, xT_3 3 rfl rfl, xT_3 4 rfl rfl, _, rfl, rfl⟩
theorem eX9_village_151 : xD mX9_village 151 (.ireturn) 1 152 := ⟨by decide +kernel, rfl⟩
theorem eX9_village_152 : x_aload mX9_village 152 0 153 := Or.inl ⟨0, by decide +kernel, rfl, rfl⟩
theorem eX9_village_153 : xGF mX9_village 153 9 3 156 := ⟨30, _, _, by decide +kernel, rfl, fl_X9_30⟩
theorem eX9_village_156 : xGF mX9_village 156 2 3 159 := ⟨156, _, _, by decide +kernel, rfl, fl_X9_156⟩
theorem eX9_village_159 : x_iload mX9_village 159 1 160 := Or.inl ⟨1, by decide +kernel, rfl, rfl⟩
theorem eX9_village_160 : xD mX9_village 160 (.iaload) 1 161 := ⟨by decide +kernel, rfl⟩
theorem eX9_village_161 : xD mX9_village 161 (.ireturn) 1 162 := ⟨by decide +kernel, rfl⟩
theorem eX9_village_162 : xK mX9_village 162 ((-1)) 163 := Or.inl (⟨(-1), by decide +kernel, by decide, rfl⟩)
theorem eX9_village_163 : xD mX9_village 163 (.ireturn) 1 164 := ⟨by decide +kernel, rfl⟩
theorem eX9_party_0 : x_aload mX9_party 0 0 1 := Or.inl ⟨0, by decide +kernel, rfl, rfl⟩
theorem eX9_party_1 : x_iload mX9_party 1 1 2 := Or.inl ⟨1, by decide +kernel, rfl, rfl⟩
set_option maxRecDepth 20000 in
theorem eX9_party_2 : xCV mX9_party 2 mX9_isParty 1 9 5 := ⟨159, by decide +kernel, rfl, ⟨cm_X9_159.1, cm_X9_159.2.1, cm_X9_159.2.2.1, cm_X9_159.2.2.2.1, cm_X9_159.2.2.2.2⟩, xT_3 19 rfl rfl, xT_0 7 rfl rfl, _, rfl, rfl⟩
theorem eX9_party_5 : xJ mX9_party 5 (.ifCond .eq) 17 8 := ⟨(12), by decide +kernel, by decide, rfl⟩
theorem eX9_party_8 : x_iload mX9_party 8 2 9 := Or.inl ⟨2, by decide +kernel, rfl, rfl⟩
theorem eX9_party_9 : xK mX9_party 9 (nI 0) 10 := Or.inl (⟨0, by decide +kernel, by decide, rfl⟩)
theorem eX9_party_10 : xK mX9_party 10 (nI 1) 11 := Or.inl (⟨1, by decide +kernel, by decide, rfl⟩)
set_option maxRecDepth 20000 in
theorem eX9_party_11 : xCS mX9_party 11 mX9_isWithin 3 14 := ⟨107, by decide +kernel, rfl, ⟨cm_X9_107.1, cm_X9_107.2.1, cm_X9_107.2.2.1, cm_X9_107.2.2.2.1, cm_X9_107.2.2.2.2⟩, xT_2 129 rfl rfl⟩
theorem eX9_party_14 : xJ mX9_party 14 (.ifCond .ne) 19 17 := ⟨(5), by decide +kernel, by decide, rfl⟩
theorem eX9_party_17 : xK mX9_party 17 ((-1)) 18 := Or.inl (⟨(-1), by decide +kernel, by decide, rfl⟩)
theorem eX9_party_18 : xD mX9_party 18 (.ireturn) 1 19 := ⟨by decide +kernel, rfl⟩
theorem eX9_party_19 : x_iload mX9_party 19 2 20 := Or.inl ⟨2, by decide +kernel, rfl, rfl⟩
theorem eX9_party_20 : xJ mX9_party 20 (.ifCond .ne) 35 23 := ⟨(15), by decide +kernel, by decide, rfl⟩
theorem eX9_party_23 : x_aload mX9_party 23 0 24 := Or.inl ⟨0, by decide +kernel, rfl, rfl⟩
theorem eX9_party_24 : xGF mX9_party 24 9 4 27 := ⟨38, _, _, by decide +kernel, rfl, fl_X9_38⟩
theorem eX9_party_27 : xGF mX9_party 27 0 3 30 := ⟨162, _, _, by decide +kernel, rfl, fl_X9_162⟩
theorem eX9_party_30 : x_iload mX9_party 30 1 31 := Or.inl ⟨1, by decide +kernel, rfl, rfl⟩
theorem eX9_party_31 : xD mX9_party 31 (.iaload) 1 32 := ⟨by decide +kernel, rfl⟩
theorem eX9_party_32 : xJ mX9_party 32 (.goto) 44 35 := ⟨(12), by decide +kernel, by decide, rfl⟩
theorem eX9_party_35 : x_aload mX9_party 35 0 36 := Or.inl ⟨0, by decide +kernel, rfl, rfl⟩
theorem eX9_party_36 : xGF mX9_party 36 9 4 39 := ⟨38, _, _, by decide +kernel, rfl, fl_X9_38⟩
theorem eX9_party_39 : xGF mX9_party 39 0 4 42 := ⟨165, _, _, by decide +kernel, rfl, fl_X9_165⟩
theorem eX9_party_42 : x_iload mX9_party 42 1 43 := Or.inl ⟨1, by decide +kernel, rfl, rfl⟩
theorem eX9_party_43 : xD mX9_party 43 (.iaload) 1 44 := ⟨by decide +kernel, rfl⟩
theorem eX9_party_44 : xD mX9_party 44 (.ireturn) 1 45 := ⟨by decide +kernel, rfl⟩
theorem eX9_far_0 : x_aload mX9_far 0 0 1 := Or.inl ⟨0, by decide +kernel, rfl, rfl⟩
theorem eX9_far_1 : x_iload mX9_far 1 1 2 := Or.inl ⟨1, by decide +kernel, rfl, rfl⟩
set_option maxRecDepth 20000 in
theorem eX9_far_2 : xCV mX9_far 2 mX9_isVillage 1 9 5 := ⟨129, by decide +kernel, rfl, ⟨cm_X9_129.1, cm_X9_129.2.1, cm_X9_129.2.2.1, cm_X9_129.2.2.2.1, cm_X9_129.2.2.2.2⟩, xT_2 232 rfl rfl, xT_0 5 rfl rfl, _, rfl, rfl⟩
theorem eX9_far_5 : xJ mX9_far 5 (.ifCond .eq) 16 8 := ⟨(11), by decide +kernel, by decide, rfl⟩
theorem eX9_far_8 : x_aload mX9_far 8 0 9 := Or.inl ⟨0, by decide +kernel, rfl, rfl⟩
theorem eX9_far_9 : x_iload mX9_far 9 2 10 := Or.inl ⟨2, by decide +kernel, rfl, rfl⟩
set_option maxRecDepth 20000 in
theorem eX9_far_10 : xCV mX9_far 10 mX9_isVillage 1 9 13 := ⟨129, by decide +kernel, rfl, ⟨cm_X9_129.1, cm_X9_129.2.1, cm_X9_129.2.2.1, cm_X9_129.2.2.2.1, cm_X9_129.2.2.2.2⟩, xT_2 232 rfl rfl, xT_0 5 rfl rfl, _, rfl, rfl⟩
theorem eX9_far_13 : xJ mX9_far 13 (.ifCond .ne) 18 16 := ⟨(5), by decide +kernel, by decide, rfl⟩
theorem eX9_far_16 : xK mX9_far 16 ((-1)) 17 := Or.inl (⟨(-1), by decide +kernel, by decide, rfl⟩)
theorem eX9_far_17 : xD mX9_far 17 (.ireturn) 1 18 := ⟨by decide +kernel, rfl⟩
theorem eX9_far_18 : x_aload mX9_far 18 0 19 := Or.inl ⟨0, by decide +kernel, rfl, rfl⟩
theorem eX9_far_19 : xGF mX9_far 19 9 3 22 := ⟨30, _, _, by decide +kernel, rfl, fl_X9_30⟩
theorem eX9_far_22 : xGF mX9_far 22 2 4 25 := ⟨168, _, _, by decide +kernel, rfl, fl_X9_168⟩
theorem eX9_far_25 : x_iload mX9_far 25 1 26 := Or.inl ⟨1, by decide +kernel, rfl, rfl⟩
theorem eX9_far_26 : xD mX9_far 26 (.aaload) 1 27 := ⟨by decide +kernel, rfl⟩
theorem eX9_far_27 : x_iload mX9_far 27 2 28 := Or.inl ⟨2, by decide +kernel, rfl, rfl⟩
theorem eX9_far_28 : xD mX9_far 28 (.iaload) 1 29 := ⟨by decide +kernel, rfl⟩
set_option maxRecDepth 20000 in
theorem eX9_far_29 : xK mX9_far 29 (nI 1000000) 31 := Or.inr (Or.inr (Or.inr (Or.inl (⟨172, by decide +kernel, xT_3 25 rfl rfl, rfl⟩))))
theorem eX9_far_31 : xJ mX9_far 31 (.if_icmp .ge) 48 34 := ⟨(17), by decide +kernel, by decide, rfl⟩
theorem eX9_far_34 : x_aload mX9_far 34 0 35 := Or.inl ⟨0, by decide +kernel, rfl, rfl⟩
theorem eX9_far_35 : xGF mX9_far 35 9 3 38 := ⟨30, _, _, by decide +kernel, rfl, fl_X9_30⟩
theorem eX9_far_38 : xGF mX9_far 38 2 4 41 := ⟨168, _, _, by decide +kernel, rfl, fl_X9_168⟩
theorem eX9_far_41 : x_iload mX9_far 41 1 42 := Or.inl ⟨1, by decide +kernel, rfl, rfl⟩
theorem eX9_far_42 : xD mX9_far 42 (.aaload) 1 43 := ⟨by decide +kernel, rfl⟩
theorem eX9_far_43 : x_iload mX9_far 43 2 44 := Or.inl ⟨2, by decide +kernel, rfl, rfl⟩
theorem eX9_far_44 : xD mX9_far 44 (.iaload) 1 45 := ⟨by decide +kernel, rfl⟩
theorem eX9_far_45 : xJ mX9_far 45 (.goto) 50 48 := ⟨(5), by decide +kernel, by decide, rfl⟩
theorem eX9_far_48 : xK mX9_far 48 ((-4)) 50 := Or.inr (Or.inl (⟨(-4), by decide +kernel, by decide, rfl⟩))
theorem eX9_far_50 : xD mX9_far 50 (.ireturn) 1 51 := ⟨by decide +kernel, rfl⟩
theorem eX9_ask_0 : x_aload mX9_ask 0 0 1 := Or.inl ⟨0, by decide +kernel, rfl, rfl⟩
theorem eX9_ask_1 : x_iload mX9_ask 1 1 2 := Or.inl ⟨1, by decide +kernel, rfl, rfl⟩
set_option maxRecDepth 20000 in
theorem eX9_ask_2 : xCV mX9_ask 2 mX9_isParty 1 9 5 := ⟨159, by decide +kernel, rfl, ⟨cm_X9_159.1, cm_X9_159.2.1, cm_X9_159.2.2.1, cm_X9_159.2.2.2.1, cm_X9_159.2.2.2.2⟩, xT_3 19 rfl rfl, xT_0 7 rfl rfl, _, rfl, rfl⟩
theorem eX9_ask_5 : xJ mX9_ask 5 (.ifCond .eq) 16 8 := ⟨(11), by decide +kernel, by decide, rfl⟩
theorem eX9_ask_8 : x_aload mX9_ask 8 0 9 := Or.inl ⟨0, by decide +kernel, rfl, rfl⟩
theorem eX9_ask_9 : x_iload mX9_ask 9 2 10 := Or.inl ⟨2, by decide +kernel, rfl, rfl⟩
set_option maxRecDepth 20000 in
theorem eX9_ask_10 : xCV mX9_ask 10 mX9_isVillage 1 9 13 := ⟨129, by decide +kernel, rfl, ⟨cm_X9_129.1, cm_X9_129.2.1, cm_X9_129.2.2.1, cm_X9_129.2.2.2.1, cm_X9_129.2.2.2.2⟩, xT_2 232 rfl rfl, xT_0 5 rfl rfl, _, rfl, rfl⟩
theorem eX9_ask_13 : xJ mX9_ask 13 (.ifCond .ne) 18 16 := ⟨(5), by decide +kernel, by decide, rfl⟩
theorem eX9_ask_16 : xK mX9_ask 16 ((-1)) 17 := Or.inl (⟨(-1), by decide +kernel, by decide, rfl⟩)
theorem eX9_ask_17 : xD mX9_ask 17 (.ireturn) 1 18 := ⟨by decide +kernel, rfl⟩
theorem eX9_ask_18 : x_aload mX9_ask 18 0 19 := Or.inl ⟨0, by decide +kernel, rfl, rfl⟩
theorem eX9_ask_19 : xGF mX9_ask 19 9 4 22 := ⟨38, _, _, by decide +kernel, rfl, fl_X9_38⟩
theorem eX9_ask_22 : x_iload mX9_ask 22 1 23 := Or.inl ⟨1, by decide +kernel, rfl, rfl⟩
theorem eX9_ask_23 : x_iload mX9_ask 23 2 24 := Or.inl ⟨2, by decide +kernel, rfl, rfl⟩
set_option maxRecDepth 20000 in
theorem eX9_ask_24 : xCV mX9_ask 24 mX0_canBeAsked 2 0 27 := ⟨173, by decide +kernel, rfl, ⟨cm_X9_173.1, cm_X9_173.2.1, cm_X9_173.2.2.1, cm_X9_173.2.2.2.1, cm_X9_173.2.2.2.2⟩, xT_3 31 rfl rfl, xT_3 32 rfl rfl, _, rfl, rfl⟩
theorem eX9_ask_27 : xJ mX9_ask 27 (.ifCond .ne) 33 30 := ⟨(6), by decide +kernel, by decide, rfl⟩
theorem eX9_ask_30 : xK mX9_ask 30 ((-2)) 32 := Or.inr (Or.inl (⟨(-2), by decide +kernel, by decide, rfl⟩))
theorem eX9_ask_32 : xD mX9_ask 32 (.ireturn) 1 33 := ⟨by decide +kernel, rfl⟩
theorem eX9_ask_33 : x_aload mX9_ask 33 0 34 := Or.inl ⟨0, by decide +kernel, rfl, rfl⟩
theorem eX9_ask_34 : xGF mX9_ask 34 9 6 37 := ⟨50, _, _, by decide +kernel, rfl, fl_X9_50⟩
theorem eX9_ask_37 : x_aload mX9_ask 37 0 38 := Or.inl ⟨0, by decide +kernel, rfl, rfl⟩
theorem eX9_ask_38 : xGF mX9_ask 38 9 4 41 := ⟨38, _, _, by decide +kernel, rfl, fl_X9_38⟩
set_option maxRecDepth 20000 in
theorem eX9_ask_41 : xCV mX9_ask 41 mX4_push 1 4 44 := ⟨177, by decide +kernel, rfl, ⟨cm_X9_177.1, cm_X9_177.2.1, cm_X9_177.2.2.1, cm_X9_177.2.2.2.1, cm_X9_177.2.2.2.2⟩, xT_3 37 rfl rfl, xT_3 38 rfl rfl, _, rfl, rfl⟩
theorem eX9_ask_44 : x_aload mX9_ask 44 0 45 := Or.inl ⟨0, by decide +kernel, rfl, rfl⟩
theorem eX9_ask_45 : xGF mX9_ask 45 9 4 48 := ⟨38, _, _, by decide +kernel, rfl, fl_X9_38⟩
theorem eX9_ask_48 : x_iload mX9_ask 48 1 49 := Or.inl ⟨1, by decide +kernel, rfl, rfl⟩
theorem eX9_ask_49 : x_iload mX9_ask 49 2 50 := Or.inl ⟨2, by decide +kernel, rfl, rfl⟩
set_option maxRecDepth 20000 in
theorem eX9_ask_50 : xCV mX9_ask 50 mX0_askBy 2 0 53 := ⟨181, by decide +kernel, rfl, ⟨cm_X9_181.1, cm_X9_181.2.1, cm_X9_181.2.2.1, cm_X9_181.2.2.2.1, cm_X9_181.2.2.2.2⟩, xT_3 57 rfl rfl, xT_3 58 rfl rfl, _, rfl, rfl⟩
theorem eX9_ask_53 : xD mX9_ask 53 (.ireturn) 1 54 := ⟨by decide +kernel, rfl⟩
theorem eX9_check_0 : x_aload mX9_check 0 0 1 := Or.inl ⟨0, by decide +kernel, rfl, rfl⟩
theorem eX9_check_1 : x_iload mX9_check 1 1 2 := Or.inl ⟨1, by decide +kernel, rfl, rfl⟩
set_option maxRecDepth 20000 in
theorem eX9_check_2 : xCV mX9_check 2 mX9_isVillage 1 9 5 := ⟨129, by decide +kernel, rfl, ⟨cm_X9_129.1, cm_X9_129.2.1, cm_X9_129.2.2.1, cm_X9_129.2.2.2.1, cm_X9_129.2.2.2.2⟩, xT_2 232 rfl rfl, xT_0 5 rfl rfl, _, rfl, rfl⟩
theorem eX9_check_5 : xJ mX9_check 5 (.ifCond .ne) 10 8 := ⟨(5), by decide +kernel, by decide, rfl⟩
theorem eX9_check_8 : xK mX9_check 8 ((-1)) 9 := Or.inl (⟨(-1), by decide +kernel, by decide, rfl⟩)
theorem eX9_check_9 : xD mX9_check 9 (.ireturn) 1 10 := ⟨by decide +kernel, rfl⟩
theorem eX9_check_10 : x_aload mX9_check 10 0 11 := Or.inl ⟨0, by decide +kernel, rfl, rfl⟩
theorem eX9_check_11 : xGF mX9_check 11 9 4 14 := ⟨38, _, _, by decide +kernel, rfl, fl_X9_38⟩
theorem eX9_check_14 : x_iload mX9_check 14 1 15 := Or.inl ⟨1, by decide +kernel, rfl, rfl⟩
set_option maxRecDepth 20000 in
theorem eX9_check_15 : xCV mX9_check 15 mX0_canBeChecked 1 0 18 := ⟨185, by decide +kernel, rfl, ⟨cm_X9_185.1, cm_X9_185.2.1, cm_X9_185.2.2.1, cm_X9_185.2.2.2.1, cm_X9_185.2.2.2.2⟩, xT_3 70 rfl rfl, xT_3 71 rfl rfl, _, rfl, rfl⟩
theorem eX9_check_18 : xJ mX9_check 18 (.ifCond .ne) 24 21 := ⟨(6), by decide +kernel, by decide, rfl⟩
theorem eX9_check_21 : xK mX9_check 21 ((-2)) 23 := Or.inr (Or.inl (⟨(-2), by decide +kernel, by decide, rfl⟩))
theorem eX9_check_23 : xD mX9_check 23 (.ireturn) 1 24 := ⟨by decide +kernel, rfl⟩
theorem eX9_check_24 : x_aload mX9_check 24 0 25 := Or.inl ⟨0, by decide +kernel, rfl, rfl⟩
theorem eX9_check_25 : xGF mX9_check 25 9 6 28 := ⟨50, _, _, by decide +kernel, rfl, fl_X9_50⟩
theorem eX9_check_28 : x_aload mX9_check 28 0 29 := Or.inl ⟨0, by decide +kernel, rfl, rfl⟩
theorem eX9_check_29 : xGF mX9_check 29 9 4 32 := ⟨38, _, _, by decide +kernel, rfl, fl_X9_38⟩
set_option maxRecDepth 20000 in
theorem eX9_check_32 : xCV mX9_check 32 mX4_push 1 4 35 := ⟨177, by decide +kernel, rfl, ⟨cm_X9_177.1, cm_X9_177.2.1, cm_X9_177.2.2.1, cm_X9_177.2.2.2.1, cm_X9_177.2.2.2.2⟩, xT_3 37 rfl rfl, xT_3 38 rfl rfl, _, rfl, rfl⟩
theorem eX9_check_35 : x_aload mX9_check 35 0 36 := Or.inl ⟨0, by decide +kernel, rfl, rfl⟩
theorem eX9_check_36 : xGF mX9_check 36 9 4 39 := ⟨38, _, _, by decide +kernel, rfl, fl_X9_38⟩
theorem eX9_check_39 : x_iload mX9_check 39 1 40 := Or.inl ⟨1, by decide +kernel, rfl, rfl⟩
set_option maxRecDepth 20000 in
theorem eX9_check_40 : xCV mX9_check 40 mX0_writeOxen 1 0 43 := ⟨188, by decide +kernel, rfl, ⟨cm_X9_188.1, cm_X9_188.2.1, cm_X9_188.2.2.1, cm_X9_188.2.2.2.1, cm_X9_188.2.2.2.2⟩, xT_3 75 rfl rfl, xT_3 76 rfl rfl, _, rfl, rfl⟩
theorem eX9_check_43 : xK mX9_check 43 (nI 500) 46 := Or.inr (Or.inr (Or.inl (⟨500, by decide +kernel, by decide, rfl⟩)))
theorem eX9_check_46 : xD mX9_check 46 (.iadd) 1 47 := ⟨by decide +kernel, rfl⟩
theorem eX9_check_47 : xD mX9_check 47 (.ireturn) 1 48 := ⟨by decide +kernel, rfl⟩
theorem eX9_strike_0 : x_aload mX9_strike 0 0 1 := Or.inl ⟨0, by decide +kernel, rfl, rfl⟩
theorem eX9_strike_1 : x_iload mX9_strike 1 1 2 := Or.inl ⟨1, by decide +kernel, rfl, rfl⟩
set_option maxRecDepth 20000 in
theorem eX9_strike_2 : xCV mX9_strike 2 mX9_isVillage 1 9 5 := ⟨129, by decide +kernel, rfl, ⟨cm_X9_129.1, cm_X9_129.2.1, cm_X9_129.2.2.1, cm_X9_129.2.2.2.1, cm_X9_129.2.2.2.2⟩, xT_2 232 rfl rfl, xT_0 5 rfl rfl, _, rfl, rfl⟩
theorem eX9_strike_5 : xJ mX9_strike 5 (.ifCond .ne) 10 8 := ⟨(5), by decide +kernel, by decide, rfl⟩
theorem eX9_strike_8 : xK mX9_strike 8 ((-1)) 9 := Or.inl (⟨(-1), by decide +kernel, by decide, rfl⟩)
theorem eX9_strike_9 : xD mX9_strike 9 (.ireturn) 1 10 := ⟨by decide +kernel, rfl⟩
theorem eX9_strike_10 : x_aload mX9_strike 10 0 11 := Or.inl ⟨0, by decide +kernel, rfl, rfl⟩
theorem eX9_strike_11 : xGF mX9_strike 11 9 4 14 := ⟨38, _, _, by decide +kernel, rfl, fl_X9_38⟩
theorem eX9_strike_14 : x_iload mX9_strike 14 1 15 := Or.inl ⟨1, by decide +kernel, rfl, rfl⟩
set_option maxRecDepth 20000 in
theorem eX9_strike_15 : xCV mX9_strike 15 mX0_holds 1 0 18 := ⟨140, by decide +kernel, rfl, ⟨cm_X9_140.1, cm_X9_140.2.1, cm_X9_140.2.2.1, cm_X9_140.2.2.2.1, cm_X9_140.2.2.2.2⟩, xT_2 235 rfl rfl, xT_2 236 rfl rfl, _, rfl, rfl⟩
theorem eX9_strike_18 : xJ mX9_strike 18 (.ifCond .ne) 24 21 := ⟨(6), by decide +kernel, by decide, rfl⟩
theorem eX9_strike_21 : xK mX9_strike 21 ((-2)) 23 := Or.inr (Or.inl (⟨(-2), by decide +kernel, by decide, rfl⟩))
theorem eX9_strike_23 : xD mX9_strike 23 (.ireturn) 1 24 := ⟨by decide +kernel, rfl⟩
theorem eX9_strike_24 : x_aload mX9_strike 24 0 25 := Or.inl ⟨0, by decide +kernel, rfl, rfl⟩
theorem eX9_strike_25 : xGF mX9_strike 25 9 6 28 := ⟨50, _, _, by decide +kernel, rfl, fl_X9_50⟩
theorem eX9_strike_28 : x_aload mX9_strike 28 0 29 := Or.inl ⟨0, by decide +kernel, rfl, rfl⟩
theorem eX9_strike_29 : xGF mX9_strike 29 9 4 32 := ⟨38, _, _, by decide +kernel, rfl, fl_X9_38⟩
set_option maxRecDepth 20000 in
theorem eX9_strike_32 : xCV mX9_strike 32 mX4_push 1 4 35 := ⟨177, by decide +kernel, rfl, ⟨cm_X9_177.1, cm_X9_177.2.1, cm_X9_177.2.2.1, cm_X9_177.2.2.2.1, cm_X9_177.2.2.2.2⟩, xT_3 37 rfl rfl, xT_3 38 rfl rfl, _, rfl, rfl⟩
theorem eX9_strike_35 : x_aload mX9_strike 35 0 36 := Or.inl ⟨0, by decide +kernel, rfl, rfl⟩
theorem eX9_strike_36 : xGF mX9_strike 36 9 4 39 := ⟨38, _, _, by decide +kernel, rfl, fl_X9_38⟩
theorem eX9_strike_39 : x_iload mX9_strike 39 1 40 := Or.inl ⟨1, by decide +kernel, rfl, rfl⟩
set_option maxRecDepth 20000 in
theorem eX9_strike_40 : xCV mX9_strike 40 mX0_strikeOut 1 0 43 := ⟨192, by decide +kernel, rfl, ⟨cm_X9_192.1, cm_X9_192.2.1, cm_X9_192.2.2.1, cm_X9_192.2.2.2.1, cm_X9_192.2.2.2.2⟩, xT_3 83 rfl rfl, xT_3 84 rfl rfl, _, rfl, rfl⟩
theorem eX9_strike_43 : xD mX9_strike 43 (.ireturn) 1 44 := ⟨by decide +kernel, rfl⟩
theorem eX9_undo_0 : x_aload mX9_undo 0 0 1 := Or.inl ⟨0, by decide +kernel, rfl, rfl⟩
theorem eX9_undo_1 : xGF mX9_undo 1 9 6 4 := ⟨50, _, _, by decide +kernel, rfl, fl_X9_50⟩
theorem eX9_undo_4 : xGF mX9_undo 4 4 2 7 := ⟨195, _, _, by decide +kernel, rfl, fl_X9_195⟩
theorem eX9_undo_7 : xJ mX9_undo 7 (.ifCond .ne) 13 10 := ⟨(6), by decide +kernel, by decide, rfl⟩
theorem eX9_undo_10 : xK mX9_undo 10 ((-2)) 12 := Or.inr (Or.inl (⟨(-2), by decide +kernel, by decide, rfl⟩))
theorem eX9_undo_12 : xD mX9_undo 12 (.ireturn) 1 13 := ⟨by decide +kernel, rfl⟩
theorem eX9_undo_13 : x_aload mX9_undo 13 0 14 := Or.inl ⟨0, by decide +kernel, rfl, rfl⟩
theorem eX9_undo_14 : xGF mX9_undo 14 9 6 17 := ⟨50, _, _, by decide +kernel, rfl, fl_X9_50⟩
theorem eX9_undo_17 : x_aload mX9_undo 17 0 18 := Or.inl ⟨0, by decide +kernel, rfl, rfl⟩
theorem eX9_undo_18 : xGF mX9_undo 18 9 4 21 := ⟨38, _, _, by decide +kernel, rfl, fl_X9_38⟩
set_option maxRecDepth 20000 in
theorem eX9_undo_21 : xCV mX9_undo 21 mX4_popInto 1 4 24 := ⟨196, by decide +kernel, rfl, ⟨cm_X9_196.1, cm_X9_196.2.1, cm_X9_196.2.2.1, cm_X9_196.2.2.2.1, cm_X9_196.2.2.2.2⟩, xT_3 91 rfl rfl, xT_3 92 rfl rfl, _, rfl, rfl⟩
theorem eX9_undo_24 : x_aload mX9_undo 24 0 25 := Or.inl ⟨0, by decide +kernel, rfl, rfl⟩
theorem eX9_undo_25 : xGF mX9_undo 25 9 6 28 := ⟨50, _, _, by decide +kernel, rfl, fl_X9_50⟩
theorem eX9_undo_28 : xGF mX9_undo 28 4 2 31 := ⟨195, _, _, by decide +kernel, rfl, fl_X9_195⟩
theorem eX9_undo_31 : xD mX9_undo 31 (.ireturn) 1 32 := ⟨by decide +kernel, rfl⟩
theorem eX9_soonest_0 : x_iload mX9_soonest 0 1 1 := Or.inl ⟨1, by decide +kernel, rfl, rfl⟩
theorem eX9_soonest_1 : xK mX9_soonest 1 ((-1)) 2 := Or.inl (⟨(-1), by decide +kernel, by decide, rfl⟩)
theorem eX9_soonest_2 : xJ mX9_soonest 2 (.if_icmp .eq) 15 5 := ⟨(13), by decide +kernel, by decide, rfl⟩
theorem eX9_soonest_5 : x_aload mX9_soonest 5 0 6 := Or.inl ⟨0, by decide +kernel, rfl, rfl⟩
theorem eX9_soonest_6 : x_iload mX9_soonest 6 1 7 := Or.inl ⟨1, by decide +kernel, rfl, rfl⟩
set_option maxRecDepth 20000 in
theorem eX9_soonest_7 : xCV mX9_soonest 7 mX9_isVillage 1 9 10 := ⟨129, by decide +kernel, rfl, ⟨cm_X9_129.1, cm_X9_129.2.1, cm_X9_129.2.2.1, cm_X9_129.2.2.2.1, cm_X9_129.2.2.2.2⟩, xT_2 232 rfl rfl, xT_0 5 rfl rfl, _, rfl, rfl⟩
theorem eX9_soonest_10 : xJ mX9_soonest 10 (.ifCond .ne) 15 13 := ⟨(5), by decide +kernel, by decide, rfl⟩
theorem eX9_soonest_13 : xK mX9_soonest 13 ((-1)) 14 := Or.inl (⟨(-1), by decide +kernel, by decide, rfl⟩)
theorem eX9_soonest_14 : xD mX9_soonest 14 (.ireturn) 1 15 := ⟨by decide +kernel, rfl⟩
theorem eX9_soonest_15 : x_iload mX9_soonest 15 1 16 := Or.inl ⟨1, by decide +kernel, rfl, rfl⟩
theorem eX9_soonest_16 : xK mX9_soonest 16 ((-1)) 17 := Or.inl (⟨(-1), by decide +kernel, by decide, rfl⟩)
theorem eX9_soonest_17 : xJ mX9_soonest 17 (.if_icmp .eq) 34 20 := ⟨(17), by decide +kernel, by decide, rfl⟩
theorem eX9_soonest_20 : x_aload mX9_soonest 20 0 21 := Or.inl ⟨0, by decide +kernel, rfl, rfl⟩
theorem eX9_soonest_21 : xGF mX9_soonest 21 9 4 24 := ⟨38, _, _, by decide +kernel, rfl, fl_X9_38⟩
theorem eX9_soonest_24 : x_iload mX9_soonest 24 1 25 := Or.inl ⟨1, by decide +kernel, rfl, rfl⟩
set_option maxRecDepth 20000 in
theorem eX9_soonest_25 : xCV mX9_soonest 25 mX0_holds 1 0 28 := ⟨140, by decide +kernel, rfl, ⟨cm_X9_140.1, cm_X9_140.2.1, cm_X9_140.2.2.1, cm_X9_140.2.2.2.1, cm_X9_140.2.2.2.2⟩, xT_2 235 rfl rfl, xT_2 236 rfl rfl, _, rfl, rfl⟩
theorem eX9_soonest_28 : xJ mX9_soonest 28 (.ifCond .eq) 34 31 := ⟨(6), by decide +kernel, by decide, rfl⟩
theorem eX9_soonest_31 : xK mX9_soonest 31 ((-4)) 33 := Or.inr (Or.inl (⟨(-4), by decide +kernel, by decide, rfl⟩))
theorem eX9_soonest_33 : xD mX9_soonest 33 (.ireturn) 1 34 := ⟨by decide +kernel, rfl⟩
theorem eX9_soonest_34 : x_aload mX9_soonest 34 0 35 := Or.inl ⟨0, by decide +kernel, rfl, rfl⟩
theorem eX9_soonest_35 : xGF mX9_soonest 35 9 9 38 := ⟨67, _, _, by decide +kernel, rfl, fl_X9_67⟩
theorem eX9_soonest_38 : x_aload mX9_soonest 38 0 39 := Or.inl ⟨0, by decide +kernel, rfl, rfl⟩
theorem eX9_soonest_39 : xGF mX9_soonest 39 9 4 42 := ⟨38, _, _, by decide +kernel, rfl, fl_X9_38⟩
set_option maxRecDepth 20000 in
theorem eX9_soonest_42 : xCV mX9_soonest 42 mX7_seek 1 7 45 := ⟨199, by decide +kernel, rfl, ⟨cm_X9_199.1, cm_X9_199.2.1, cm_X9_199.2.2.1, cm_X9_199.2.2.2.1, cm_X9_199.2.2.2.2⟩, xT_3 99 rfl rfl, xT_3 100 rfl rfl, _, rfl, rfl⟩
theorem eX9_soonest_45 : x_iload mX9_soonest 45 1 46 := Or.inl ⟨1, by decide +kernel, rfl, rfl⟩
theorem eX9_soonest_46 : xK mX9_soonest 46 ((-1)) 47 := Or.inl (⟨(-1), by decide +kernel, by decide, rfl⟩)
theorem eX9_soonest_47 : xJ mX9_soonest 47 (.if_icmp .ne) 60 50 := ⟨(13), by decide +kernel, by decide, rfl⟩
theorem eX9_soonest_50 : x_aload mX9_soonest 50 0 51 := Or.inl ⟨0, by decide +kernel, rfl, rfl⟩
theorem eX9_soonest_51 : xGF mX9_soonest 51 9 9 54 := ⟨67, _, _, by decide +kernel, rfl, fl_X9_67⟩
theorem eX9_soonest_54 : xGF mX9_soonest 54 7 5 57 := ⟨202, _, _, by decide +kernel, rfl, fl_X9_202⟩
theorem eX9_soonest_57 : xJ mX9_soonest 57 (.goto) 68 60 := ⟨(11), by decide +kernel, by decide, rfl⟩
theorem eX9_soonest_60 : x_aload mX9_soonest 60 0 61 := Or.inl ⟨0, by decide +kernel, rfl, rfl⟩
theorem eX9_soonest_61 : xGF mX9_soonest 61 9 9 64 := ⟨67, _, _, by decide +kernel, rfl, fl_X9_67⟩
theorem eX9_soonest_64 : x_iload mX9_soonest 64 1 65 := Or.inl ⟨1, by decide +kernel, rfl, rfl⟩
set_option maxRecDepth 20000 in
theorem eX9_soonest_65 : xCV mX9_soonest 65 mX7_whoAsks 1 7 68 := ⟨205, by decide +kernel, rfl, ⟨cm_X9_205.1, cm_X9_205.2.1, cm_X9_205.2.2.1, cm_X9_205.2.2.2.1, cm_X9_205.2.2.2.2⟩, xT_3 139 rfl rfl, xT_3 140 rfl rfl, _, rfl, rfl⟩
theorem eX9_soonest_68 : xD mX9_soonest 68 (.ireturn) 1 69 := ⟨by decide +kernel, rfl⟩
theorem eX9_most_0 : x_aload mX9_most 0 0 1 := Or.inl ⟨0, by decide +kernel, rfl, rfl⟩
theorem eX9_most_1 : x_iload mX9_most 1 1 2 := Or.inl ⟨1, by decide +kernel, rfl, rfl⟩
theorem eX9_most_2 : xK mX9_most 2 (nI 1) 3 := Or.inl (⟨1, by decide +kernel, by decide, rfl⟩)
set_option maxRecDepth 20000 in
theorem eX9_most_3 : xCV mX9_most 3 mX9_bestOrder 2 9 6 := ⟨208, by decide +kernel, rfl, ⟨cm_X9_208.1, cm_X9_208.2.1, cm_X9_208.2.2.1, cm_X9_208.2.2.2.1, cm_X9_208.2.2.2.2⟩, xT_3 148 rfl rfl, xT_0 13 rfl rfl, _, rfl, rfl⟩
theorem eX9_most_6 : xD mX9_most 6 (.ireturn) 1 7 := ⟨by decide +kernel, rfl⟩
theorem eX9_least_0 : x_aload mX9_least 0 0 1 := Or.inl ⟨0, by decide +kernel, rfl, rfl⟩
theorem eX9_least_1 : x_iload mX9_least 1 1 2 := Or.inl ⟨1, by decide +kernel, rfl, rfl⟩
theorem eX9_least_2 : xK mX9_least 2 (nI 0) 3 := Or.inl (⟨0, by decide +kernel, by decide, rfl⟩)
set_option maxRecDepth 20000 in
theorem eX9_least_3 : xCV mX9_least 3 mX9_bestOrder 2 9 6 := ⟨208, by decide +kernel, rfl, ⟨cm_X9_208.1, cm_X9_208.2.1, cm_X9_208.2.2.1, cm_X9_208.2.2.2.1, cm_X9_208.2.2.2.2⟩, xT_3 148 rfl rfl, xT_0 13 rfl rfl, _, rfl, rfl⟩
theorem eX9_least_6 : xD mX9_least 6 (.ireturn) 1 7 := ⟨by decide +kernel, rfl⟩
theorem eX9_checks_0 : x_iload mX9_checks 0 1 1 := Or.inl ⟨1, by decide +kernel, rfl, rfl⟩
theorem eX9_checks_1 : xK mX9_checks 1 (nI 1) 2 := Or.inl (⟨1, by decide +kernel, by decide, rfl⟩)
theorem eX9_checks_2 : xK mX9_checks 2 (nI 3) 3 := Or.inl (⟨3, by decide +kernel, by decide, rfl⟩)
set_option maxRecDepth 20000 in
theorem eX9_checks_3 : xCS mX9_checks 3 mX9_isWithin 3 6 := ⟨107, by decide +kernel, rfl, ⟨cm_X9_107.1, cm_X9_107.2.1, cm_X9_107.2.2.1, cm_X9_107.2.2.2.1, cm_X9_107.2.2.2.2⟩, xT_2 129 rfl rfl⟩
theorem eX9_checks_6 : xJ mX9_checks 6 (.ifCond .eq) 18 9 := ⟨(12), by decide +kernel, by decide, rfl⟩
theorem eX9_checks_9 : x_iload mX9_checks 9 2 10 := Or.inl ⟨2, by decide +kernel, rfl, rfl⟩
theorem eX9_checks_10 : xK mX9_checks 10 (nI 0) 11 := Or.inl (⟨0, by decide +kernel, by decide, rfl⟩)
theorem eX9_checks_11 : xK mX9_checks 11 (nI 1) 12 := Or.inl (⟨1, by decide +kernel, by decide, rfl⟩)
set_option maxRecDepth 20000 in
theorem eX9_checks_12 : xCS mX9_checks 12 mX9_isWithin 3 15 := ⟨107, by decide +kernel, rfl, ⟨cm_X9_107.1, cm_X9_107.2.1, cm_X9_107.2.2.1, cm_X9_107.2.2.2.1, cm_X9_107.2.2.2.2⟩, xT_2 129 rfl rfl⟩
theorem eX9_checks_15 : xJ mX9_checks 15 (.ifCond .ne) 20 18 := ⟨(5), by decide +kernel, by decide, rfl⟩
theorem eX9_checks_18 : xK mX9_checks 18 ((-1)) 19 := Or.inl (⟨(-1), by decide +kernel, by decide, rfl⟩)
theorem eX9_checks_19 : xD mX9_checks 19 (.ireturn) 1 20 := ⟨by decide +kernel, rfl⟩
theorem eX9_checks_20 : x_aload mX9_checks 20 0 21 := Or.inl ⟨0, by decide +kernel, rfl, rfl⟩
theorem eX9_checks_21 : x_iload mX9_checks 21 1 22 := Or.inl ⟨1, by decide +kernel, rfl, rfl⟩
set_option maxRecDepth 20000 in
theorem eX9_checks_22 : xCV mX9_checks 22 mX9_bestChecks 1 9 25 := ⟨212, by decide +kernel, rfl, ⟨cm_X9_212.1, cm_X9_212.2.1, cm_X9_212.2.2.1, cm_X9_212.2.2.2.1, cm_X9_212.2.2.2.2⟩, xT_3 182 rfl rfl, xT_0 16 rfl rfl, _, rfl, rfl⟩
theorem eX9_checks_25 : x_istore mX9_checks 25 3 26 := Or.inl ⟨3, by decide +kernel, rfl, rfl⟩
theorem eX9_checks_26 : x_iload mX9_checks 26 2 27 := Or.inl ⟨2, by decide +kernel, rfl, rfl⟩
theorem eX9_checks_27 : xJ mX9_checks 27 (.ifCond .ne) 45 30 := ⟨(18), by decide +kernel, by decide, rfl⟩
theorem eX9_checks_30 : x_aload mX9_checks 30 0 31 := Or.inl ⟨0, by decide +kernel, rfl, rfl⟩
theorem eX9_checks_31 : xGF mX9_checks 31 9 4 34 := ⟨38, _, _, by decide +kernel, rfl, fl_X9_38⟩
theorem eX9_checks_34 : x_iload mX9_checks 34 3 35 := Or.inl ⟨3, by decide +kernel, rfl, rfl⟩
set_option maxRecDepth 20000 in
theorem eX9_checks_35 : xCV mX9_checks 35 mX0_gainOf 1 0 38 := ⟨215, by decide +kernel, rfl, ⟨cm_X9_215.1, cm_X9_215.2.1, cm_X9_215.2.2.1, cm_X9_215.2.2.2.1, cm_X9_215.2.2.2.2⟩, xT_3 187 rfl rfl, xT_3 188 rfl rfl, _, rfl, rfl⟩
theorem eX9_checks_38 : xK mX9_checks 38 (nI 500) 41 := Or.inr (Or.inr (Or.inl (⟨500, by decide +kernel, by decide, rfl⟩)))
theorem eX9_checks_41 : xD mX9_checks 41 (.iadd) 1 42 := ⟨by decide +kernel, rfl⟩
theorem eX9_checks_42 : xJ mX9_checks 42 (.goto) 46 45 := ⟨(4), by decide +kernel, by decide, rfl⟩
theorem eX9_checks_45 : x_iload mX9_checks 45 3 46 := Or.inl ⟨3, by decide +kernel, rfl, rfl⟩
theorem eX9_checks_46 : xD mX9_checks 46 (.ireturn) 1 47 := ⟨by decide +kernel, rfl⟩
theorem eX9_see_0 : x_aload mX9_see 0 0 1 := Or.inl ⟨0, by decide +kernel, rfl, rfl⟩
theorem eX9_see_1 : x_iload mX9_see 1 1 2 := Or.inl ⟨1, by decide +kernel, rfl, rfl⟩
set_option maxRecDepth 20000 in
theorem eX9_see_2 : xCV mX9_see 2 mX9_isVillage 1 9 5 := ⟨129, by decide +kernel, rfl, ⟨cm_X9_129.1, cm_X9_129.2.1, cm_X9_129.2.2.1, cm_X9_129.2.2.2.1, cm_X9_129.2.2.2.2⟩, xT_2 232 rfl rfl, xT_0 5 rfl rfl, _, rfl, rfl⟩
theorem eX9_see_5 : xJ mX9_see 5 (.ifCond .eq) 18 8 := ⟨(13), by decide +kernel, by decide, rfl⟩
theorem eX9_see_8 : x_iload mX9_see 8 2 9 := Or.inl ⟨2, by decide +kernel, rfl, rfl⟩
theorem eX9_see_9 : xK mX9_see 9 (nI 0) 10 := Or.inl (⟨0, by decide +kernel, by decide, rfl⟩)
theorem eX9_see_10 : xK mX9_see 10 (nI 60) 12 := Or.inr (Or.inl (⟨60, by decide +kernel, by decide, rfl⟩))
set_option maxRecDepth 20000 in
theorem eX9_see_12 : xCS mX9_see 12 mX9_isWithin 3 15 := ⟨107, by decide +kernel, rfl, ⟨cm_X9_107.1, cm_X9_107.2.1, cm_X9_107.2.2.1, cm_X9_107.2.2.2.1, cm_X9_107.2.2.2.2⟩, xT_2 129 rfl rfl⟩
theorem eX9_see_15 : xJ mX9_see 15 (.ifCond .ne) 20 18 := ⟨(5), by decide +kernel, by decide, rfl⟩
theorem eX9_see_18 : xK mX9_see 18 ((-1)) 19 := Or.inl (⟨(-1), by decide +kernel, by decide, rfl⟩)
theorem eX9_see_19 : xD mX9_see 19 (.ireturn) 1 20 := ⟨by decide +kernel, rfl⟩
theorem eX9_see_20 : x_aload mX9_see 20 0 21 := Or.inl ⟨0, by decide +kernel, rfl, rfl⟩
theorem eX9_see_21 : xGF mX9_see 21 9 8 24 := ⟨60, _, _, by decide +kernel, rfl, fl_X9_60⟩
set_option maxRecDepth 20000 in
theorem eX9_see_24 : xCV mX9_see 24 mX8_isFull 0 8 27 := ⟨218, by decide +kernel, rfl, ⟨cm_X9_218.1, cm_X9_218.2.1, cm_X9_218.2.2.1, cm_X9_218.2.2.2.1, cm_X9_218.2.2.2.2⟩, xT_3 195 rfl rfl, xT_3 196 rfl rfl, _, rfl, rfl⟩
theorem eX9_see_27 : xJ mX9_see 27 (.ifCond .eq) 33 30 := ⟨(6), by decide +kernel, by decide, rfl⟩
theorem eX9_see_30 : xK mX9_see 30 ((-3)) 32 := Or.inr (Or.inl (⟨(-3), by decide +kernel, by decide, rfl⟩))
theorem eX9_see_32 : xD mX9_see 32 (.ireturn) 1 33 := ⟨by decide +kernel, rfl⟩
theorem eX9_see_33 : x_aload mX9_see 33 0 34 := Or.inl ⟨0, by decide +kernel, rfl, rfl⟩
theorem eX9_see_34 : xGF mX9_see 34 9 8 37 := ⟨60, _, _, by decide +kernel, rfl, fl_X9_60⟩
theorem eX9_see_37 : x_iload mX9_see 37 1 38 := Or.inl ⟨1, by decide +kernel, rfl, rfl⟩
theorem eX9_see_38 : x_iload mX9_see 38 2 39 := Or.inl ⟨2, by decide +kernel, rfl, rfl⟩
set_option maxRecDepth 20000 in
theorem eX9_see_39 : xCV mX9_see 39 mX8_add 2 8 42 := ⟨219, by decide +kernel, rfl, ⟨cm_X9_219.1, cm_X9_219.2.1, cm_X9_219.2.2.1, cm_X9_219.2.2.2.1, cm_X9_219.2.2.2.2⟩, xT_3 199 rfl rfl, xT_3 200 rfl rfl, _, rfl, rfl⟩
theorem eX9_see_42 : x_aload mX9_see 42 0 43 := Or.inl ⟨0, by decide +kernel, rfl, rfl⟩
theorem eX9_see_43 : xGF mX9_see 43 9 8 46 := ⟨60, _, _, by decide +kernel, rfl, fl_X9_60⟩
theorem eX9_see_46 : xGF mX9_see 46 8 2 49 := ⟨222, _, _, by decide +kernel, rfl, fl_X9_222⟩
theorem eX9_see_49 : xD mX9_see 49 (.ireturn) 1 50 := ⟨by decide +kernel, rfl⟩
theorem eX9_forget_0 : x_aload mX9_forget 0 0 1 := Or.inl ⟨0, by decide +kernel, rfl, rfl⟩
theorem eX9_forget_1 : xGF mX9_forget 1 9 8 4 := ⟨60, _, _, by decide +kernel, rfl, fl_X9_60⟩
theorem eX9_forget_4 : xGF mX9_forget 4 8 2 7 := ⟨222, _, _, by decide +kernel, rfl, fl_X9_222⟩
theorem eX9_forget_7 : x_istore mX9_forget 7 1 8 := Or.inl ⟨1, by decide +kernel, rfl, rfl⟩
theorem eX9_forget_8 : x_aload mX9_forget 8 0 9 := Or.inl ⟨0, by decide +kernel, rfl, rfl⟩
theorem eX9_forget_9 : xGF mX9_forget 9 9 8 12 := ⟨60, _, _, by decide +kernel, rfl, fl_X9_60⟩
set_option maxRecDepth 20000 in
theorem eX9_forget_12 : xCV mX9_forget 12 mX8_clear 0 8 15 := ⟨223, by decide +kernel, rfl, ⟨cm_X9_223.1, cm_X9_223.2.1, cm_X9_223.2.2.1, cm_X9_223.2.2.2.1, cm_X9_223.2.2.2.2⟩, xT_2 159 rfl rfl, xT_2 160 rfl rfl, _, rfl, rfl⟩
theorem eX9_forget_15 : x_iload mX9_forget 15 1 16 := Or.inl ⟨1, by decide +kernel, rfl, rfl⟩
theorem eX9_forget_16 : xD mX9_forget 16 (.ireturn) 1 17 := ⟨by decide +kernel, rfl⟩
theorem eX9_kinds_0 : x_aload mX9_kinds 0 0 1 := Or.inl ⟨0, by decide +kernel, rfl, rfl⟩
theorem eX9_kinds_1 : x_iload mX9_kinds 1 1 2 := Or.inl ⟨1, by decide +kernel, rfl, rfl⟩
set_option maxRecDepth 20000 in
theorem eX9_kinds_2 : xCV mX9_kinds 2 mX9_isVillage 1 9 5 := ⟨129, by decide +kernel, rfl, ⟨cm_X9_129.1, cm_X9_129.2.1, cm_X9_129.2.2.1, cm_X9_129.2.2.2.1, cm_X9_129.2.2.2.2⟩, xT_2 232 rfl rfl, xT_0 5 rfl rfl, _, rfl, rfl⟩
theorem eX9_kinds_5 : xJ mX9_kinds 5 (.ifCond .ne) 10 8 := ⟨(5), by decide +kernel, by decide, rfl⟩
theorem eX9_kinds_8 : xK mX9_kinds 8 ((-1)) 9 := Or.inl (⟨(-1), by decide +kernel, by decide, rfl⟩)
theorem eX9_kinds_9 : xD mX9_kinds 9 (.ireturn) 1 10 := ⟨by decide +kernel, rfl⟩
theorem eX9_kinds_10 : x_aload mX9_kinds 10 0 11 := Or.inl ⟨0, by decide +kernel, rfl, rfl⟩
theorem eX9_kinds_11 : xGF mX9_kinds 11 9 4 14 := ⟨38, _, _, by decide +kernel, rfl, fl_X9_38⟩
theorem eX9_kinds_14 : x_iload mX9_kinds 14 1 15 := Or.inl ⟨1, by decide +kernel, rfl, rfl⟩
set_option maxRecDepth 20000 in
theorem eX9_kinds_15 : xCV mX9_kinds 15 mX0_holds 1 0 18 := ⟨140, by decide +kernel, rfl, ⟨cm_X9_140.1, cm_X9_140.2.1, cm_X9_140.2.2.1, cm_X9_140.2.2.2.1, cm_X9_140.2.2.2.2⟩, xT_2 235 rfl rfl, xT_2 236 rfl rfl, _, rfl, rfl⟩
theorem eX9_kinds_18 : xJ mX9_kinds 18 (.ifCond .eq) 24 21 := ⟨(6), by decide +kernel, by decide, rfl⟩
theorem eX9_kinds_21 : xK mX9_kinds 21 ((-2)) 23 := Or.inr (Or.inl (⟨(-2), by decide +kernel, by decide, rfl⟩))
theorem eX9_kinds_23 : xD mX9_kinds 23 (.ireturn) 1 24 := ⟨by decide +kernel, rfl⟩
theorem eX9_kinds_24 : xK mX9_kinds 24 (nI 0) 25 := Or.inl (⟨0, by decide +kernel, by decide, rfl⟩)
theorem eX9_kinds_25 : x_istore mX9_kinds 25 2 26 := Or.inl ⟨2, by decide +kernel, rfl, rfl⟩
theorem eX9_kinds_26 : xK mX9_kinds 26 (nI 0) 27 := Or.inl (⟨0, by decide +kernel, by decide, rfl⟩)
theorem eX9_kinds_27 : x_istore mX9_kinds 27 3 28 := Or.inl ⟨3, by decide +kernel, rfl, rfl⟩
theorem eX9_kinds_28 : x_iload mX9_kinds 28 3 29 := Or.inl ⟨3, by decide +kernel, rfl, rfl⟩
theorem eX9_kinds_29 : xK mX9_kinds 29 (nI 5) 30 := Or.inl (⟨5, by decide +kernel, by decide, rfl⟩)
theorem eX9_kinds_30 : xJ mX9_kinds 30 (.if_icmp .ge) 72 33 := ⟨(42), by decide +kernel, by decide, rfl⟩
theorem eX9_kinds_33 : x_aload mX9_kinds 33 0 34 := Or.inl ⟨0, by decide +kernel, rfl, rfl⟩
theorem eX9_kinds_34 : xGF mX9_kinds 34 9 8 37 := ⟨60, _, _, by decide +kernel, rfl, fl_X9_60⟩
theorem eX9_kinds_37 : x_iload mX9_kinds 37 1 38 := Or.inl ⟨1, by decide +kernel, rfl, rfl⟩
theorem eX9_kinds_38 : x_aload mX9_kinds 38 0 39 := Or.inl ⟨0, by decide +kernel, rfl, rfl⟩
theorem eX9_kinds_39 : xGF mX9_kinds 39 9 4 42 := ⟨38, _, _, by decide +kernel, rfl, fl_X9_38⟩
theorem eX9_kinds_42 : x_iload mX9_kinds 42 1 43 := Or.inl ⟨1, by decide +kernel, rfl, rfl⟩
theorem eX9_kinds_43 : x_iload mX9_kinds 43 3 44 := Or.inl ⟨3, by decide +kernel, rfl, rfl⟩
theorem eX9_kinds_44 : x_aload mX9_kinds 44 0 45 := Or.inl ⟨0, by decide +kernel, rfl, rfl⟩
theorem eX9_kinds_45 : xGF mX9_kinds 45 9 3 48 := ⟨30, _, _, by decide +kernel, rfl, fl_X9_30⟩
theorem eX9_kinds_48 : xGF mX9_kinds 48 2 7 51 := ⟨149, _, _, by decide +kernel, rfl, fl_X9_149⟩
set_option maxRecDepth 20000 in
theorem eX9_kinds_51 : xCV mX9_kinds 51 mX0_sworn 3 0 54 := ⟨152, by decide +kernel, rfl, ⟨cm_X9_152.1, cm_X9_152.2.1, cm_X9_152.2.2.1, cm_X9_152.2.2.2.1, cm_X9_152.2.2.2.2⟩, xT_3 3 rfl rfl, xT_3 4 rfl rfl, _, rfl, rfl⟩
set_option maxRecDepth 20000 in
theorem eX9_kinds_54 : xCV mX9_kinds 54 mX8_fits 2 8 57 := ⟨224, by decide +kernel, rfl, ⟨cm_X9_224.1, cm_X9_224.2.1, cm_X9_224.2.2.1, cm_X9_224.2.2.2.1, cm_X9_224.2.2.2.2⟩, xT_3 212 rfl rfl, xT_3 213 rfl rfl, _, rfl, rfl⟩
theorem eX9_kinds_57 : xJ mX9_kinds 57 (.ifCond .eq) 66 60 := ⟨(9), by decide +kernel, by decide, rfl⟩
theorem eX9_kinds_60 : x_iload mX9_kinds 60 2 61 := Or.inl ⟨2, by decide +kernel, rfl, rfl⟩
theorem eX9_kinds_61 : xK mX9_kinds 61 (nI 1) 62 := Or.inl (⟨1, by decide +kernel, by decide, rfl⟩)
theorem eX9_kinds_62 : x_iload mX9_kinds 62 3 63 := Or.inl ⟨3, by decide +kernel, rfl, rfl⟩
theorem eX9_kinds_63 : xD mX9_kinds 63 (.ishl) 1 64 := ⟨by decide +kernel, rfl⟩
theorem eX9_kinds_64 : xD mX9_kinds 64 (.ior) 1 65 := ⟨by decide +kernel, rfl⟩
theorem eX9_kinds_65 : x_istore mX9_kinds 65 2 66 := Or.inl ⟨2, by decide +kernel, rfl, rfl⟩
theorem eX9_kinds_66 : xD mX9_kinds 66 (.iinc 3 1) 3 69 := ⟨by decide +kernel, rfl⟩
theorem eX9_kinds_69 : xJ mX9_kinds 69 (.goto) 28 72 := ⟨(-41), by decide +kernel, by decide, rfl⟩
theorem eX9_kinds_72 : x_iload mX9_kinds 72 2 73 := Or.inl ⟨2, by decide +kernel, rfl, rfl⟩
theorem eX9_kinds_73 : xD mX9_kinds 73 (.ireturn) 1 74 := ⟨by decide +kernel, rfl⟩
theorem eX9_copies_0 : xK mX9_copies 0 (nI 0) 1 := Or.inl (⟨0, by decide +kernel, by decide, rfl⟩)
theorem eX9_copies_1 : x_istore mX9_copies 1 1 2 := Or.inl ⟨1, by decide +kernel, rfl, rfl⟩
theorem eX9_copies_2 : xK mX9_copies 2 (nI 0) 3 := Or.inl (⟨0, by decide +kernel, by decide, rfl⟩)
theorem eX9_copies_3 : x_istore mX9_copies 3 2 4 := Or.inl ⟨2, by decide +kernel, rfl, rfl⟩
theorem eX9_copies_4 : x_iload mX9_copies 4 2 5 := Or.inl ⟨2, by decide +kernel, rfl, rfl⟩
theorem eX9_copies_5 : x_aload mX9_copies 5 0 6 := Or.inl ⟨0, by decide +kernel, rfl, rfl⟩
theorem eX9_copies_6 : xGF mX9_copies 6 9 3 9 := ⟨30, _, _, by decide +kernel, rfl, fl_X9_30⟩
theorem eX9_copies_9 : xGF mX9_copies 9 2 5 12 := ⟨123, _, _, by decide +kernel, rfl, fl_X9_123⟩
theorem eX9_copies_12 : xJ mX9_copies 12 (.if_icmp .ge) 49 15 := ⟨(37), by decide +kernel, by decide, rfl⟩
theorem eX9_copies_15 : x_aload mX9_copies 15 0 16 := Or.inl ⟨0, by decide +kernel, rfl, rfl⟩
theorem eX9_copies_16 : xGF mX9_copies 16 9 4 19 := ⟨38, _, _, by decide +kernel, rfl, fl_X9_38⟩
theorem eX9_copies_19 : x_iload mX9_copies 19 2 20 := Or.inl ⟨2, by decide +kernel, rfl, rfl⟩
set_option maxRecDepth 20000 in
theorem eX9_copies_20 : xCV mX9_copies 20 mX0_holds 1 0 23 := ⟨140, by decide +kernel, rfl, ⟨cm_X9_140.1, cm_X9_140.2.1, cm_X9_140.2.2.1, cm_X9_140.2.2.2.1, cm_X9_140.2.2.2.2⟩, xT_2 235 rfl rfl, xT_2 236 rfl rfl, _, rfl, rfl⟩
theorem eX9_copies_23 : xJ mX9_copies 23 (.ifCond .eq) 43 26 := ⟨(20), by decide +kernel, by decide, rfl⟩
theorem eX9_copies_26 : x_aload mX9_copies 26 0 27 := Or.inl ⟨0, by decide +kernel, rfl, rfl⟩
theorem eX9_copies_27 : xGF mX9_copies 27 9 4 30 := ⟨38, _, _, by decide +kernel, rfl, fl_X9_38⟩
theorem eX9_copies_30 : x_iload mX9_copies 30 2 31 := Or.inl ⟨2, by decide +kernel, rfl, rfl⟩
set_option maxRecDepth 20000 in
theorem eX9_copies_31 : xCV mX9_copies 31 mX0_hasTwin 1 0 34 := ⟨227, by decide +kernel, rfl, ⟨cm_X9_227.1, cm_X9_227.2.1, cm_X9_227.2.2.1, cm_X9_227.2.2.2.1, cm_X9_227.2.2.2.2⟩, xT_3 220 rfl rfl, xT_3 221 rfl rfl, _, rfl, rfl⟩
theorem eX9_copies_34 : xJ mX9_copies 34 (.ifCond .eq) 43 37 := ⟨(9), by decide +kernel, by decide, rfl⟩
theorem eX9_copies_37 : x_iload mX9_copies 37 1 38 := Or.inl ⟨1, by decide +kernel, rfl, rfl⟩
theorem eX9_copies_38 : xK mX9_copies 38 (nI 1) 39 := Or.inl (⟨1, by decide +kernel, by decide, rfl⟩)
theorem eX9_copies_39 : x_iload mX9_copies 39 2 40 := Or.inl ⟨2, by decide +kernel, rfl, rfl⟩
theorem eX9_copies_40 : xD mX9_copies 40 (.ishl) 1 41 := ⟨by decide +kernel, rfl⟩
theorem eX9_copies_41 : xD mX9_copies 41 (.ior) 1 42 := ⟨by decide +kernel, rfl⟩
theorem eX9_copies_42 : x_istore mX9_copies 42 1 43 := Or.inl ⟨1, by decide +kernel, rfl, rfl⟩
theorem eX9_copies_43 : xD mX9_copies 43 (.iinc 2 1) 3 46 := ⟨by decide +kernel, rfl⟩
theorem eX9_copies_46 : xJ mX9_copies 46 (.goto) 4 49 := ⟨(-42), by decide +kernel, by decide, rfl⟩
theorem eX9_copies_49 : x_iload mX9_copies 49 1 50 := Or.inl ⟨1, by decide +kernel, rfl, rfl⟩
theorem eX9_copies_50 : xD mX9_copies 50 (.ireturn) 1 51 := ⟨by decide +kernel, rfl⟩
theorem eX9_agree_0 : x_aload mX9_agree 0 0 1 := Or.inl ⟨0, by decide +kernel, rfl, rfl⟩
theorem eX9_agree_1 : x_iload mX9_agree 1 1 2 := Or.inl ⟨1, by decide +kernel, rfl, rfl⟩
set_option maxRecDepth 20000 in
theorem eX9_agree_2 : xCV mX9_agree 2 mX9_isVillage 1 9 5 := ⟨129, by decide +kernel, rfl, ⟨cm_X9_129.1, cm_X9_129.2.1, cm_X9_129.2.2.1, cm_X9_129.2.2.2.1, cm_X9_129.2.2.2.2⟩, xT_2 232 rfl rfl, xT_0 5 rfl rfl, _, rfl, rfl⟩
theorem eX9_agree_5 : xJ mX9_agree 5 (.ifCond .eq) 21 8 := ⟨(16), by decide +kernel, by decide, rfl⟩
theorem eX9_agree_8 : x_aload mX9_agree 8 0 9 := Or.inl ⟨0, by decide +kernel, rfl, rfl⟩
theorem eX9_agree_9 : x_iload mX9_agree 9 2 10 := Or.inl ⟨2, by decide +kernel, rfl, rfl⟩
set_option maxRecDepth 20000 in
theorem eX9_agree_10 : xCV mX9_agree 10 mX9_isVillage 1 9 13 := ⟨129, by decide +kernel, rfl, ⟨cm_X9_129.1, cm_X9_129.2.1, cm_X9_129.2.2.1, cm_X9_129.2.2.2.1, cm_X9_129.2.2.2.2⟩, xT_2 232 rfl rfl, xT_0 5 rfl rfl, _, rfl, rfl⟩
theorem eX9_agree_13 : xJ mX9_agree 13 (.ifCond .eq) 21 16 := ⟨(8), by decide +kernel, by decide, rfl⟩
theorem eX9_agree_16 : x_iload mX9_agree 16 1 17 := Or.inl ⟨1, by decide +kernel, rfl, rfl⟩
theorem eX9_agree_17 : x_iload mX9_agree 17 2 18 := Or.inl ⟨2, by decide +kernel, rfl, rfl⟩
theorem eX9_agree_18 : xJ mX9_agree 18 (.if_icmp .ne) 23 21 := ⟨(5), by decide +kernel, by decide, rfl⟩
theorem eX9_agree_21 : xK mX9_agree 21 ((-1)) 22 := Or.inl (⟨(-1), by decide +kernel, by decide, rfl⟩)
theorem eX9_agree_22 : xD mX9_agree 22 (.ireturn) 1 23 := ⟨by decide +kernel, rfl⟩
theorem eX9_agree_23 : x_aload mX9_agree 23 0 24 := Or.inl ⟨0, by decide +kernel, rfl, rfl⟩
theorem eX9_agree_24 : xGF mX9_agree 24 9 4 27 := ⟨38, _, _, by decide +kernel, rfl, fl_X9_38⟩
theorem eX9_agree_27 : x_iload mX9_agree 27 1 28 := Or.inl ⟨1, by decide +kernel, rfl, rfl⟩
set_option maxRecDepth 20000 in
theorem eX9_agree_28 : xCV mX9_agree 28 mX0_holds 1 0 31 := ⟨140, by decide +kernel, rfl, ⟨cm_X9_140.1, cm_X9_140.2.1, cm_X9_140.2.2.1, cm_X9_140.2.2.2.1, cm_X9_140.2.2.2.2⟩, xT_2 235 rfl rfl, xT_2 236 rfl rfl, _, rfl, rfl⟩
theorem eX9_agree_31 : xJ mX9_agree 31 (.ifCond .eq) 45 34 := ⟨(14), by decide +kernel, by decide, rfl⟩
theorem eX9_agree_34 : x_aload mX9_agree 34 0 35 := Or.inl ⟨0, by decide +kernel, rfl, rfl⟩
theorem eX9_agree_35 : xGF mX9_agree 35 9 4 38 := ⟨38, _, _, by decide +kernel, rfl, fl_X9_38⟩
theorem eX9_agree_38 : x_iload mX9_agree 38 2 39 := Or.inl ⟨2, by decide +kernel, rfl, rfl⟩
set_option maxRecDepth 20000 in
theorem eX9_agree_39 : xCV mX9_agree 39 mX0_holds 1 0 42 := ⟨140, by decide +kernel, rfl, ⟨cm_X9_140.1, cm_X9_140.2.1, cm_X9_140.2.2.1, cm_X9_140.2.2.2.1, cm_X9_140.2.2.2.2⟩, xT_2 235 rfl rfl, xT_2 236 rfl rfl, _, rfl, rfl⟩
theorem eX9_agree_42 : xJ mX9_agree 42 (.ifCond .ne) 48 45 := ⟨(6), by decide +kernel, by decide, rfl⟩
theorem eX9_agree_45 : xK mX9_agree 45 ((-2)) 47 := Or.inr (Or.inl (⟨(-2), by decide +kernel, by decide, rfl⟩))
theorem eX9_agree_47 : xD mX9_agree 47 (.ireturn) 1 48 := ⟨by decide +kernel, rfl⟩
theorem eX9_agree_48 : x_aload mX9_agree 48 0 49 := Or.inl ⟨0, by decide +kernel, rfl, rfl⟩
theorem eX9_agree_49 : xGF mX9_agree 49 9 4 52 := ⟨38, _, _, by decide +kernel, rfl, fl_X9_38⟩
theorem eX9_agree_52 : xK mX9_agree 52 (nI 1) 53 := Or.inl (⟨1, by decide +kernel, by decide, rfl⟩)
theorem eX9_agree_53 : x_iload mX9_agree 53 1 54 := Or.inl ⟨1, by decide +kernel, rfl, rfl⟩
theorem eX9_agree_54 : xD mX9_agree 54 (.ishl) 1 55 := ⟨by decide +kernel, rfl⟩
theorem eX9_agree_55 : xK mX9_agree 55 (nI 1) 56 := Or.inl (⟨1, by decide +kernel, by decide, rfl⟩)
theorem eX9_agree_56 : x_iload mX9_agree 56 2 57 := Or.inl ⟨2, by decide +kernel, rfl, rfl⟩
theorem eX9_agree_57 : xD mX9_agree 57 (.ishl) 1 58 := ⟨by decide +kernel, rfl⟩
theorem eX9_agree_58 : xD mX9_agree 58 (.ior) 1 59 := ⟨by decide +kernel, rfl⟩
set_option maxRecDepth 20000 in
theorem eX9_agree_59 : xCV mX9_agree 59 mX0_gainOf 1 0 62 := ⟨215, by decide +kernel, rfl, ⟨cm_X9_215.1, cm_X9_215.2.1, cm_X9_215.2.2.1, cm_X9_215.2.2.2.1, cm_X9_215.2.2.2.2⟩, xT_3 187 rfl rfl, xT_3 188 rfl rfl, _, rfl, rfl⟩
theorem eX9_agree_62 : xJ mX9_agree 62 (.ifCond .ne) 69 65 := ⟨(7), by decide +kernel, by decide, rfl⟩
theorem eX9_agree_65 : xK mX9_agree 65 (nI 1) 66 := Or.inl (⟨1, by decide +kernel, by decide, rfl⟩)
theorem eX9_agree_66 : xJ mX9_agree 66 (.goto) 70 69 := ⟨(4), by decide +kernel, by decide, rfl⟩
theorem eX9_agree_69 : xK mX9_agree 69 (nI 0) 70 := Or.inl (⟨0, by decide +kernel, by decide, rfl⟩)
theorem eX9_agree_70 : xD mX9_agree 70 (.ireturn) 1 71 := ⟨by decide +kernel, rfl⟩
theorem eX9_honest_0 : x_iload mX9_honest 0 1 1 := Or.inl ⟨1, by decide +kernel, rfl, rfl⟩
theorem eX9_honest_1 : xK mX9_honest 1 (nI 0) 2 := Or.inl (⟨0, by decide +kernel, by decide, rfl⟩)
theorem eX9_honest_2 : xK mX9_honest 2 (nI 500) 5 := Or.inr (Or.inr (Or.inl (⟨500, by decide +kernel, by decide, rfl⟩)))
set_option maxRecDepth 20000 in
theorem eX9_honest_5 : xCS mX9_honest 5 mX9_isWithin 3 8 := ⟨107, by decide +kernel, rfl, ⟨cm_X9_107.1, cm_X9_107.2.1, cm_X9_107.2.2.1, cm_X9_107.2.2.2.1, cm_X9_107.2.2.2.2⟩, xT_2 129 rfl rfl⟩
theorem eX9_honest_8 : xJ mX9_honest 8 (.ifCond .eq) 30 11 := ⟨(22), by decide +kernel, by decide, rfl⟩
theorem eX9_honest_11 : x_iload mX9_honest 11 2 12 := Or.inl ⟨2, by decide +kernel, rfl, rfl⟩
theorem eX9_honest_12 : xK mX9_honest 12 (nI 0) 13 := Or.inl (⟨0, by decide +kernel, by decide, rfl⟩)
theorem eX9_honest_13 : xK mX9_honest 13 (nI 10) 15 := Or.inr (Or.inl (⟨10, by decide +kernel, by decide, rfl⟩))
set_option maxRecDepth 20000 in
theorem eX9_honest_15 : xCS mX9_honest 15 mX9_isWithin 3 18 := ⟨107, by decide +kernel, rfl, ⟨cm_X9_107.1, cm_X9_107.2.1, cm_X9_107.2.2.1, cm_X9_107.2.2.2.1, cm_X9_107.2.2.2.2⟩, xT_2 129 rfl rfl⟩
theorem eX9_honest_18 : xJ mX9_honest 18 (.ifCond .eq) 30 21 := ⟨(12), by decide +kernel, by decide, rfl⟩
theorem eX9_honest_21 : x_iload mX9_honest 21 3 22 := Or.inl ⟨3, by decide +kernel, rfl, rfl⟩
theorem eX9_honest_22 : xK mX9_honest 22 (nI 0) 23 := Or.inl (⟨0, by decide +kernel, by decide, rfl⟩)
theorem eX9_honest_23 : xK mX9_honest 23 (nI 1) 24 := Or.inl (⟨1, by decide +kernel, by decide, rfl⟩)
set_option maxRecDepth 20000 in
theorem eX9_honest_24 : xCS mX9_honest 24 mX9_isWithin 3 27 := ⟨107, by decide +kernel, rfl, ⟨cm_X9_107.1, cm_X9_107.2.1, cm_X9_107.2.2.1, cm_X9_107.2.2.2.1, cm_X9_107.2.2.2.2⟩, xT_2 129 rfl rfl⟩
theorem eX9_honest_27 : xJ mX9_honest 27 (.ifCond .ne) 32 30 := ⟨(5), by decide +kernel, by decide, rfl⟩
theorem eX9_honest_30 : xK mX9_honest 30 ((-1)) 31 := Or.inl (⟨(-1), by decide +kernel, by decide, rfl⟩)
theorem eX9_honest_31 : xD mX9_honest 31 (.ireturn) 1 32 := ⟨by decide +kernel, rfl⟩
theorem eX9_honest_32 : x_aload mX9_honest 32 0 33 := Or.inl ⟨0, by decide +kernel, rfl, rfl⟩
theorem eX9_honest_33 : xGF mX9_honest 33 9 11 36 := ⟨81, _, _, by decide +kernel, rfl, fl_X9_81⟩
theorem eX9_honest_36 : x_aload mX9_honest 36 0 37 := Or.inl ⟨0, by decide +kernel, rfl, rfl⟩
theorem eX9_honest_37 : xGF mX9_honest 37 9 4 40 := ⟨38, _, _, by decide +kernel, rfl, fl_X9_38⟩
theorem eX9_honest_40 : x_iload mX9_honest 40 1 41 := Or.inl ⟨1, by decide +kernel, rfl, rfl⟩
theorem eX9_honest_41 : x_iload mX9_honest 41 2 42 := Or.inl ⟨2, by decide +kernel, rfl, rfl⟩
set_option maxRecDepth 20000 in
theorem eX9_honest_42 : xCV mX9_honest 42 mX1_weigh 3 1 45 := ⟨230, by decide +kernel, rfl, ⟨cm_X9_230.1, cm_X9_230.2.1, cm_X9_230.2.2.1, cm_X9_230.2.2.2.1, cm_X9_230.2.2.2.2⟩, xT_3 232 rfl rfl, xT_3 233 rfl rfl, _, rfl, rfl⟩
theorem eX9_honest_45 : x_iload mX9_honest 45 3 46 := Or.inl ⟨3, by decide +kernel, rfl, rfl⟩
theorem eX9_honest_46 : xJ mX9_honest 46 (.ifCond .ne) 59 49 := ⟨(13), by decide +kernel, by decide, rfl⟩
theorem eX9_honest_49 : x_aload mX9_honest 49 0 50 := Or.inl ⟨0, by decide +kernel, rfl, rfl⟩
theorem eX9_honest_50 : xGF mX9_honest 50 9 11 53 := ⟨81, _, _, by decide +kernel, rfl, fl_X9_81⟩
theorem eX9_honest_53 : xGF mX9_honest 53 1 2 56 := ⟨234, _, _, by decide +kernel, rfl, fl_X9_234⟩
theorem eX9_honest_56 : xJ mX9_honest 56 (.goto) 66 59 := ⟨(10), by decide +kernel, by decide, rfl⟩
theorem eX9_honest_59 : x_aload mX9_honest 59 0 60 := Or.inl ⟨0, by decide +kernel, rfl, rfl⟩
theorem eX9_honest_60 : xGF mX9_honest 60 9 11 63 := ⟨81, _, _, by decide +kernel, rfl, fl_X9_81⟩
theorem eX9_honest_63 : xGF mX9_honest 63 1 3 66 := ⟨237, _, _, by decide +kernel, rfl, fl_X9_237⟩
theorem eX9_honest_66 : xD mX9_honest 66 (.ireturn) 1 67 := ⟨by decide +kernel, rfl⟩
theorem eX9_shire_0 : x_iload mX9_shire 0 1 1 := Or.inl ⟨1, by decide +kernel, rfl, rfl⟩
theorem eX9_shire_1 : xK mX9_shire 1 (nI 0) 2 := Or.inl (⟨0, by decide +kernel, by decide, rfl⟩)
theorem eX9_shire_2 : xK mX9_shire 2 (nI 9999) 5 := Or.inr (Or.inr (Or.inl (⟨9999, by decide +kernel, by decide, rfl⟩)))
set_option maxRecDepth 20000 in
theorem eX9_shire_5 : xCS mX9_shire 5 mX9_isWithin 3 8 := ⟨107, by decide +kernel, rfl, ⟨cm_X9_107.1, cm_X9_107.2.1, cm_X9_107.2.2.1, cm_X9_107.2.2.2.1, cm_X9_107.2.2.2.2⟩, xT_2 129 rfl rfl⟩
theorem eX9_shire_8 : xJ mX9_shire 8 (.ifCond .eq) 30 11 := ⟨(22), by decide +kernel, by decide, rfl⟩
theorem eX9_shire_11 : x_iload mX9_shire 11 2 12 := Or.inl ⟨2, by decide +kernel, rfl, rfl⟩
theorem eX9_shire_12 : xK mX9_shire 12 (nI 1) 13 := Or.inl (⟨1, by decide +kernel, by decide, rfl⟩)
theorem eX9_shire_13 : xK mX9_shire 13 (nI 40) 15 := Or.inr (Or.inl (⟨40, by decide +kernel, by decide, rfl⟩))
set_option maxRecDepth 20000 in
theorem eX9_shire_15 : xCS mX9_shire 15 mX9_isWithin 3 18 := ⟨107, by decide +kernel, rfl, ⟨cm_X9_107.1, cm_X9_107.2.1, cm_X9_107.2.2.1, cm_X9_107.2.2.2.1, cm_X9_107.2.2.2.2⟩, xT_2 129 rfl rfl⟩
theorem eX9_shire_18 : xJ mX9_shire 18 (.ifCond .eq) 30 21 := ⟨(12), by decide +kernel, by decide, rfl⟩
theorem eX9_shire_21 : x_iload mX9_shire 21 3 22 := Or.inl ⟨3, by decide +kernel, rfl, rfl⟩
theorem eX9_shire_22 : xK mX9_shire 22 (nI 0) 23 := Or.inl (⟨0, by decide +kernel, by decide, rfl⟩)
theorem eX9_shire_23 : xK mX9_shire 23 (nI 1) 24 := Or.inl (⟨1, by decide +kernel, by decide, rfl⟩)
set_option maxRecDepth 20000 in
theorem eX9_shire_24 : xCS mX9_shire 24 mX9_isWithin 3 27 := ⟨107, by decide +kernel, rfl, ⟨cm_X9_107.1, cm_X9_107.2.1, cm_X9_107.2.2.1, cm_X9_107.2.2.2.1, cm_X9_107.2.2.2.2⟩, xT_2 129 rfl rfl⟩
theorem eX9_shire_27 : xJ mX9_shire 27 (.ifCond .ne) 32 30 := ⟨(5), by decide +kernel, by decide, rfl⟩
theorem eX9_shire_30 : xK mX9_shire 30 ((-1)) 31 := Or.inl (⟨(-1), by decide +kernel, by decide, rfl⟩)
theorem eX9_shire_31 : xD mX9_shire 31 (.ireturn) 1 32 := ⟨by decide +kernel, rfl⟩
theorem eX9_shire_32 : x_aload mX9_shire 32 0 33 := Or.inl ⟨0, by decide +kernel, rfl, rfl⟩
theorem eX9_shire_33 : xGF mX9_shire 33 9 5 36 := ⟨42, _, _, by decide +kernel, rfl, fl_X9_42⟩
theorem eX9_shire_36 : x_aload mX9_shire 36 0 37 := Or.inl ⟨0, by decide +kernel, rfl, rfl⟩
theorem eX9_shire_37 : xGF mX9_shire 37 9 4 40 := ⟨38, _, _, by decide +kernel, rfl, fl_X9_38⟩
set_option maxRecDepth 20000 in
theorem eX9_shire_40 : xCV mX9_shire 40 mX0_copyFrom 1 0 43 := ⟨240, by decide +kernel, rfl, ⟨cm_X9_240.1, cm_X9_240.2.1, cm_X9_240.2.2.1, cm_X9_240.2.2.2.1, cm_X9_240.2.2.2.2⟩, xT_3 49 rfl rfl, xT_3 50 rfl rfl, _, rfl, rfl⟩
theorem eX9_shire_43 : xK mX9_shire 43 (nI 0) 44 := Or.inl (⟨0, by decide +kernel, by decide, rfl⟩)
theorem eX9_shire_44 : x_istore mX9_shire 44 4 46 := Or.inr ⟨by decide +kernel, rfl⟩
theorem eX9_shire_46 : x_iload mX9_shire 46 4 48 := Or.inr ⟨by decide +kernel, rfl⟩
theorem eX9_shire_48 : x_iload mX9_shire 48 2 49 := Or.inl ⟨2, by decide +kernel, rfl, rfl⟩
theorem eX9_shire_49 : xJ mX9_shire 49 (.if_icmp .ge) 68 52 := ⟨(19), by decide +kernel, by decide, rfl⟩
theorem eX9_shire_52 : x_aload mX9_shire 52 0 53 := Or.inl ⟨0, by decide +kernel, rfl, rfl⟩
theorem eX9_shire_53 : x_iload mX9_shire 53 1 54 := Or.inl ⟨1, by decide +kernel, rfl, rfl⟩
theorem eX9_shire_54 : x_iload mX9_shire 54 4 56 := Or.inr ⟨by decide +kernel, rfl⟩
set_option maxRecDepth 20000 in
theorem eX9_shire_56 : xCS mX9_shire 56 mX9_drawOf 2 59 := ⟨243, by decide +kernel, rfl, ⟨cm_X9_243.1, cm_X9_243.2.1, cm_X9_243.2.2.1, cm_X9_243.2.2.2.1, cm_X9_243.2.2.2.2⟩, xT_4 16 rfl rfl⟩
set_option maxRecDepth 20000 in
theorem eX9_shire_59 : xCV mX9_shire 59 mX9_stepByDraw 1 9 62 := ⟨246, by decide +kernel, rfl, ⟨cm_X9_246.1, cm_X9_246.2.1, cm_X9_246.2.2.1, cm_X9_246.2.2.2.1, cm_X9_246.2.2.2.2⟩, xT_4 24 rfl rfl, xT_0 18 rfl rfl, _, rfl, rfl⟩
theorem eX9_shire_62 : xD mX9_shire 62 (.iinc 4 1) 3 65 := ⟨by decide +kernel, rfl⟩
theorem eX9_shire_65 : xJ mX9_shire 65 (.goto) 46 68 := ⟨(-19), by decide +kernel, by decide, rfl⟩
theorem eX9_shire_68 : x_iload mX9_shire 68 3 69 := Or.inl ⟨3, by decide +kernel, rfl, rfl⟩
theorem eX9_shire_69 : xJ mX9_shire 69 (.ifCond .ne) 82 72 := ⟨(13), by decide +kernel, by decide, rfl⟩
theorem eX9_shire_72 : x_aload mX9_shire 72 0 73 := Or.inl ⟨0, by decide +kernel, rfl, rfl⟩
theorem eX9_shire_73 : xGF mX9_shire 73 9 5 76 := ⟨42, _, _, by decide +kernel, rfl, fl_X9_42⟩
set_option maxRecDepth 20000 in
theorem eX9_shire_76 : xCV mX9_shire 76 mX0_found 0 0 79 := ⟨250, by decide +kernel, rfl, ⟨cm_X9_250.1, cm_X9_250.2.1, cm_X9_250.2.2.1, cm_X9_250.2.2.2.1, cm_X9_250.2.2.2.2⟩, xT_3 162 rfl rfl, xT_3 163 rfl rfl, _, rfl, rfl⟩
theorem eX9_shire_79 : xJ mX9_shire 79 (.goto) 89 82 := ⟨(10), by decide +kernel, by decide, rfl⟩
theorem eX9_shire_82 : x_aload mX9_shire 82 0 83 := Or.inl ⟨0, by decide +kernel, rfl, rfl⟩
theorem eX9_shire_83 : xGF mX9_shire 83 9 5 86 := ⟨42, _, _, by decide +kernel, rfl, fl_X9_42⟩
set_option maxRecDepth 20000 in
theorem eX9_shire_86 : xCV mX9_shire 86 mX0_mostDays 0 0 89 := ⟨253, by decide +kernel, rfl, ⟨cm_X9_253.1, cm_X9_253.2.1, cm_X9_253.2.2.1, cm_X9_253.2.2.2.1, cm_X9_253.2.2.2.2⟩, xT_4 28 rfl rfl, xT_4 29 rfl rfl, _, rfl, rfl⟩
theorem eX9_shire_89 : xD mX9_shire 89 (.ireturn) 1 90 := ⟨by decide +kernel, rfl⟩
theorem eX9_keep_0 : x_aload mX9_keep 0 0 1 := Or.inl ⟨0, by decide +kernel, rfl, rfl⟩
theorem eX9_keep_1 : xGF mX9_keep 1 9 7 4 := ⟨54, _, _, by decide +kernel, rfl, fl_X9_54⟩
set_option maxRecDepth 20000 in
theorem eX9_keep_4 : xCV mX9_keep 4 mX4_isFull 0 4 7 := ⟨256, by decide +kernel, rfl, ⟨cm_X9_256.1, cm_X9_256.2.1, cm_X9_256.2.2.1, cm_X9_256.2.2.2.1, cm_X9_256.2.2.2.2⟩, xT_3 41 rfl rfl, xT_3 42 rfl rfl, _, rfl, rfl⟩
theorem eX9_keep_7 : xJ mX9_keep 7 (.ifCond .eq) 13 10 := ⟨(6), by decide +kernel, by decide, rfl⟩
theorem eX9_keep_10 : xK mX9_keep 10 ((-3)) 12 := Or.inr (Or.inl (⟨(-3), by decide +kernel, by decide, rfl⟩))
theorem eX9_keep_12 : xD mX9_keep 12 (.ireturn) 1 13 := ⟨by decide +kernel, rfl⟩
theorem eX9_keep_13 : x_aload mX9_keep 13 0 14 := Or.inl ⟨0, by decide +kernel, rfl, rfl⟩
theorem eX9_keep_14 : xGF mX9_keep 14 9 7 17 := ⟨54, _, _, by decide +kernel, rfl, fl_X9_54⟩
theorem eX9_keep_17 : x_aload mX9_keep 17 0 18 := Or.inl ⟨0, by decide +kernel, rfl, rfl⟩
theorem eX9_keep_18 : xGF mX9_keep 18 9 4 21 := ⟨38, _, _, by decide +kernel, rfl, fl_X9_38⟩
set_option maxRecDepth 20000 in
theorem eX9_keep_21 : xCV mX9_keep 21 mX4_push 1 4 24 := ⟨177, by decide +kernel, rfl, ⟨cm_X9_177.1, cm_X9_177.2.1, cm_X9_177.2.2.1, cm_X9_177.2.2.2.1, cm_X9_177.2.2.2.2⟩, xT_3 37 rfl rfl, xT_3 38 rfl rfl, _, rfl, rfl⟩
theorem eX9_keep_24 : x_aload mX9_keep 24 0 25 := Or.inl ⟨0, by decide +kernel, rfl, rfl⟩
theorem eX9_keep_25 : xGF mX9_keep 25 9 7 28 := ⟨54, _, _, by decide +kernel, rfl, fl_X9_54⟩
theorem eX9_keep_28 : xGF mX9_keep 28 4 2 31 := ⟨195, _, _, by decide +kernel, rfl, fl_X9_195⟩
theorem eX9_keep_31 : xD mX9_keep 31 (.ireturn) 1 32 := ⟨by decide +kernel, rfl⟩
theorem eX9_back_0 : x_aload mX9_back 0 0 1 := Or.inl ⟨0, by decide +kernel, rfl, rfl⟩
theorem eX9_back_1 : xGF mX9_back 1 9 7 4 := ⟨54, _, _, by decide +kernel, rfl, fl_X9_54⟩
theorem eX9_back_4 : xGF mX9_back 4 4 2 7 := ⟨195, _, _, by decide +kernel, rfl, fl_X9_195⟩
theorem eX9_back_7 : xJ mX9_back 7 (.ifCond .ne) 13 10 := ⟨(6), by decide +kernel, by decide, rfl⟩
theorem eX9_back_10 : xK mX9_back 10 ((-2)) 12 := Or.inr (Or.inl (⟨(-2), by decide +kernel, by decide, rfl⟩))
theorem eX9_back_12 : xD mX9_back 12 (.ireturn) 1 13 := ⟨by decide +kernel, rfl⟩
theorem eX9_back_13 : x_aload mX9_back 13 0 14 := Or.inl ⟨0, by decide +kernel, rfl, rfl⟩
theorem eX9_back_14 : xGF mX9_back 14 9 7 17 := ⟨54, _, _, by decide +kernel, rfl, fl_X9_54⟩
theorem eX9_back_17 : x_aload mX9_back 17 0 18 := Or.inl ⟨0, by decide +kernel, rfl, rfl⟩
theorem eX9_back_18 : xGF mX9_back 18 9 4 21 := ⟨38, _, _, by decide +kernel, rfl, fl_X9_38⟩
set_option maxRecDepth 20000 in
theorem eX9_back_21 : xCV mX9_back 21 mX4_popInto 1 4 24 := ⟨196, by decide +kernel, rfl, ⟨cm_X9_196.1, cm_X9_196.2.1, cm_X9_196.2.2.1, cm_X9_196.2.2.2.1, cm_X9_196.2.2.2.2⟩, xT_3 91 rfl rfl, xT_3 92 rfl rfl, _, rfl, rfl⟩
theorem eX9_back_24 : x_aload mX9_back 24 0 25 := Or.inl ⟨0, by decide +kernel, rfl, rfl⟩
theorem eX9_back_25 : xGF mX9_back 25 9 6 28 := ⟨50, _, _, by decide +kernel, rfl, fl_X9_50⟩
set_option maxRecDepth 20000 in
theorem eX9_back_28 : xCV mX9_back 28 mX4_clear 0 4 31 := ⟨257, by decide +kernel, rfl, ⟨cm_X9_257.1, cm_X9_257.2.1, cm_X9_257.2.2.1, cm_X9_257.2.2.2.1, cm_X9_257.2.2.2.2⟩, xT_2 163 rfl rfl, xT_2 164 rfl rfl, _, rfl, rfl⟩
theorem eX9_back_31 : x_aload mX9_back 31 0 32 := Or.inl ⟨0, by decide +kernel, rfl, rfl⟩
theorem eX9_back_32 : xGF mX9_back 32 9 7 35 := ⟨54, _, _, by decide +kernel, rfl, fl_X9_54⟩
theorem eX9_back_35 : xGF mX9_back 35 4 2 38 := ⟨195, _, _, by decide +kernel, rfl, fl_X9_195⟩
theorem eX9_back_38 : xD mX9_back 38 (.ireturn) 1 39 := ⟨by decide +kernel, rfl⟩
theorem eX9_count_0 : x_iload mX9_count 0 1 1 := Or.inl ⟨1, by decide +kernel, rfl, rfl⟩
def tX9_count_1 : Int → Nat := fun v => match v with | 0 => 60 | 1 => 68 | 2 => 76 | 3 => 87 | 4 => 98 | 5 => 106 | 6 => 114 | 7 => 122 | 8 => 130 | 9 => 138 | 10 => 146 | _ => 0
theorem eX9_count_1 : xTS mX9_count 1 0 10 tX9_count_1 154 := ⟨153, #[59, 67, 75, 86, 97, 105, 113, 121, 129, 137, 145], 59, by decide +kernel, by decide, by decide +kernel⟩
theorem eX9_count_60 : x_aload mX9_count 60 0 61 := Or.inl ⟨0, by decide +kernel, rfl, rfl⟩
theorem eX9_count_61 : xGF mX9_count 61 9 3 64 := ⟨30, _, _, by decide +kernel, rfl, fl_X9_30⟩
theorem eX9_count_64 : xGF mX9_count 64 2 5 67 := ⟨123, _, _, by decide +kernel, rfl, fl_X9_123⟩
theorem eX9_count_67 : xD mX9_count 67 (.ireturn) 1 68 := ⟨by decide +kernel, rfl⟩
theorem eX9_count_68 : x_aload mX9_count 68 0 69 := Or.inl ⟨0, by decide +kernel, rfl, rfl⟩
theorem eX9_count_69 : xGF mX9_count 69 9 3 72 := ⟨30, _, _, by decide +kernel, rfl, fl_X9_30⟩
theorem eX9_count_72 : xGF mX9_count 72 2 6 75 := ⟨126, _, _, by decide +kernel, rfl, fl_X9_126⟩
theorem eX9_count_75 : xD mX9_count 75 (.ireturn) 1 76 := ⟨by decide +kernel, rfl⟩
theorem eX9_count_76 : x_aload mX9_count 76 0 77 := Or.inl ⟨0, by decide +kernel, rfl, rfl⟩
theorem eX9_count_77 : xGF mX9_count 77 9 4 80 := ⟨38, _, _, by decide +kernel, rfl, fl_X9_38⟩
theorem eX9_count_80 : xGF mX9_count 80 0 5 83 := ⟨258, _, _, by decide +kernel, rfl, fl_X9_258⟩
set_option maxRecDepth 20000 in
theorem eX9_count_83 : xCS mX9_count 83 mJ6_bitCount_0f7a4 1 86 := ⟨261, by decide +kernel, rfl, ⟨cm_X9_261.1, cm_X9_261.2.1, cm_X9_261.2.2.1, cm_X9_261.2.2.2.1, cm_X9_261.2.2.2.2⟩, xT_3 112 rfl rfl⟩
theorem eX9_count_86 : xD mX9_count 86 (.ireturn) 1 87 := ⟨by decide +kernel, rfl⟩
theorem eX9_count_87 : x_aload mX9_count 87 0 88 := Or.inl ⟨0, by decide +kernel, rfl, rfl⟩
theorem eX9_count_88 : xGF mX9_count 88 9 4 91 := ⟨38, _, _, by decide +kernel, rfl, fl_X9_38⟩
theorem eX9_count_91 : xGF mX9_count 91 0 6 94 := ⟨266, _, _, by decide +kernel, rfl, fl_X9_266⟩
set_option maxRecDepth 20000 in
theorem eX9_count_94 : xCS mX9_count 94 mJ6_bitCount_0f7a4 1 97 := ⟨261, by decide +kernel, rfl, ⟨cm_X9_261.1, cm_X9_261.2.1, cm_X9_261.2.2.1, cm_X9_261.2.2.2.1, cm_X9_261.2.2.2.2⟩, xT_3 112 rfl rfl⟩
theorem eX9_count_97 : xD mX9_count 97 (.ireturn) 1 98 := ⟨by decide +kernel, rfl⟩
theorem eX9_count_98 : x_aload mX9_count 98 0 99 := Or.inl ⟨0, by decide +kernel, rfl, rfl⟩
theorem eX9_count_99 : xGF mX9_count 99 9 4 102 := ⟨38, _, _, by decide +kernel, rfl, fl_X9_38⟩
set_option maxRecDepth 20000 in
theorem eX9_count_102 : xCV mX9_count 102 mX0_found 0 0 105 := ⟨250, by decide +kernel, rfl, ⟨cm_X9_250.1, cm_X9_250.2.1, cm_X9_250.2.2.1, cm_X9_250.2.2.2.1, cm_X9_250.2.2.2.2⟩, xT_3 162 rfl rfl, xT_3 163 rfl rfl, _, rfl, rfl⟩
theorem eX9_count_105 : xD mX9_count 105 (.ireturn) 1 106 := ⟨by decide +kernel, rfl⟩
theorem eX9_count_106 : x_aload mX9_count 106 0 107 := Or.inl ⟨0, by decide +kernel, rfl, rfl⟩
theorem eX9_count_107 : xGF mX9_count 107 9 4 110 := ⟨38, _, _, by decide +kernel, rfl, fl_X9_38⟩
set_option maxRecDepth 20000 in
theorem eX9_count_110 : xCV mX9_count 110 mX0_allOxen 0 0 113 := ⟨269, by decide +kernel, rfl, ⟨cm_X9_269.1, cm_X9_269.2.1, cm_X9_269.2.2.1, cm_X9_269.2.2.2.1, cm_X9_269.2.2.2.2⟩, xT_4 46 rfl rfl, xT_4 47 rfl rfl, _, rfl, rfl⟩
theorem eX9_count_113 : xD mX9_count 113 (.ireturn) 1 114 := ⟨by decide +kernel, rfl⟩
theorem eX9_count_114 : x_aload mX9_count 114 0 115 := Or.inl ⟨0, by decide +kernel, rfl, rfl⟩
theorem eX9_count_115 : xGF mX9_count 115 9 4 118 := ⟨38, _, _, by decide +kernel, rfl, fl_X9_38⟩
set_option maxRecDepth 20000 in
theorem eX9_count_118 : xCV mX9_count 118 mX0_mostDays 0 0 121 := ⟨253, by decide +kernel, rfl, ⟨cm_X9_253.1, cm_X9_253.2.1, cm_X9_253.2.2.1, cm_X9_253.2.2.2.1, cm_X9_253.2.2.2.2⟩, xT_4 28 rfl rfl, xT_4 29 rfl rfl, _, rfl, rfl⟩
theorem eX9_count_121 : xD mX9_count 121 (.ireturn) 1 122 := ⟨by decide +kernel, rfl⟩
theorem eX9_count_122 : x_aload mX9_count 122 0 123 := Or.inl ⟨0, by decide +kernel, rfl, rfl⟩
theorem eX9_count_123 : xGF mX9_count 123 9 8 126 := ⟨60, _, _, by decide +kernel, rfl, fl_X9_60⟩
theorem eX9_count_126 : xGF mX9_count 126 8 2 129 := ⟨222, _, _, by decide +kernel, rfl, fl_X9_222⟩
theorem eX9_count_129 : xD mX9_count 129 (.ireturn) 1 130 := ⟨by decide +kernel, rfl⟩
theorem eX9_count_130 : x_aload mX9_count 130 0 131 := Or.inl ⟨0, by decide +kernel, rfl, rfl⟩
theorem eX9_count_131 : xGF mX9_count 131 9 6 134 := ⟨50, _, _, by decide +kernel, rfl, fl_X9_50⟩
theorem eX9_count_134 : xGF mX9_count 134 4 2 137 := ⟨195, _, _, by decide +kernel, rfl, fl_X9_195⟩
theorem eX9_count_137 : xD mX9_count 137 (.ireturn) 1 138 := ⟨by decide +kernel, rfl⟩
theorem eX9_count_138 : x_aload mX9_count 138 0 139 := Or.inl ⟨0, by decide +kernel, rfl, rfl⟩
theorem eX9_count_139 : xGF mX9_count 139 9 7 142 := ⟨54, _, _, by decide +kernel, rfl, fl_X9_54⟩
theorem eX9_count_142 : xGF mX9_count 142 4 2 145 := ⟨195, _, _, by decide +kernel, rfl, fl_X9_195⟩
theorem eX9_count_145 : xD mX9_count 145 (.ireturn) 1 146 := ⟨by decide +kernel, rfl⟩
theorem eX9_count_146 : x_aload mX9_count 146 0 147 := Or.inl ⟨0, by decide +kernel, rfl, rfl⟩
theorem eX9_count_147 : xGF mX9_count 147 9 0 150 := ⟨12, _, _, by decide +kernel, rfl, fl_X9_12⟩
theorem eX9_count_150 : xGF mX9_count 150 6 1 153 := ⟨115, _, _, by decide +kernel, rfl, fl_X9_115⟩
theorem eX9_count_153 : xD mX9_count 153 (.ireturn) 1 154 := ⟨by decide +kernel, rfl⟩
theorem eX9_count_154 : xK mX9_count 154 ((-1)) 155 := Or.inl (⟨(-1), by decide +kernel, by decide, rfl⟩)
theorem eX9_count_155 : xD mX9_count 155 (.ireturn) 1 156 := ⟨by decide +kernel, rfl⟩
theorem eX9_isWithin_0 : x_iload mX9_isWithin 0 0 1 := Or.inl ⟨0, by decide +kernel, rfl, rfl⟩
theorem eX9_isWithin_1 : x_iload mX9_isWithin 1 1 2 := Or.inl ⟨1, by decide +kernel, rfl, rfl⟩
theorem eX9_isWithin_2 : xJ mX9_isWithin 2 (.if_icmp .lt) 14 5 := ⟨(12), by decide +kernel, by decide, rfl⟩
theorem eX9_isWithin_5 : x_iload mX9_isWithin 5 0 6 := Or.inl ⟨0, by decide +kernel, rfl, rfl⟩
theorem eX9_isWithin_6 : x_iload mX9_isWithin 6 2 7 := Or.inl ⟨2, by decide +kernel, rfl, rfl⟩
theorem eX9_isWithin_7 : xJ mX9_isWithin 7 (.if_icmp .gt) 14 10 := ⟨(7), by decide +kernel, by decide, rfl⟩
theorem eX9_isWithin_10 : xK mX9_isWithin 10 (nI 1) 11 := Or.inl (⟨1, by decide +kernel, by decide, rfl⟩)
theorem eX9_isWithin_11 : xJ mX9_isWithin 11 (.goto) 15 14 := ⟨(4), by decide +kernel, by decide, rfl⟩
theorem eX9_isWithin_14 : xK mX9_isWithin 14 (nI 0) 15 := Or.inl (⟨0, by decide +kernel, by decide, rfl⟩)
theorem eX9_isWithin_15 : xD mX9_isWithin 15 (.ireturn) 1 16 := ⟨by decide +kernel, rfl⟩
theorem eX9_lowestOf_0 : xK mX9_lowestOf 0 (nI 0) 1 := Or.inl (⟨0, by decide +kernel, by decide, rfl⟩)
theorem eX9_lowestOf_1 : x_istore mX9_lowestOf 1 1 2 := Or.inl ⟨1, by decide +kernel, rfl, rfl⟩
theorem eX9_lowestOf_2 : x_iload mX9_lowestOf 2 1 3 := Or.inl ⟨1, by decide +kernel, rfl, rfl⟩
theorem eX9_lowestOf_3 : xK mX9_lowestOf 3 (nI 7) 5 := Or.inr (Or.inl (⟨7, by decide +kernel, by decide, rfl⟩))
theorem eX9_lowestOf_5 : xJ mX9_lowestOf 5 (.if_icmp .ge) 24 8 := ⟨(19), by decide +kernel, by decide, rfl⟩
theorem eX9_lowestOf_8 : x_iload mX9_lowestOf 8 0 9 := Or.inl ⟨0, by decide +kernel, rfl, rfl⟩
theorem eX9_lowestOf_9 : x_iload mX9_lowestOf 9 1 10 := Or.inl ⟨1, by decide +kernel, rfl, rfl⟩
theorem eX9_lowestOf_10 : xD mX9_lowestOf 10 (.ishr) 1 11 := ⟨by decide +kernel, rfl⟩
theorem eX9_lowestOf_11 : xK mX9_lowestOf 11 (nI 1) 12 := Or.inl (⟨1, by decide +kernel, by decide, rfl⟩)
theorem eX9_lowestOf_12 : xD mX9_lowestOf 12 (.iand) 1 13 := ⟨by decide +kernel, rfl⟩
theorem eX9_lowestOf_13 : xJ mX9_lowestOf 13 (.ifCond .eq) 18 16 := ⟨(5), by decide +kernel, by decide, rfl⟩
theorem eX9_lowestOf_16 : x_iload mX9_lowestOf 16 1 17 := Or.inl ⟨1, by decide +kernel, rfl, rfl⟩
theorem eX9_lowestOf_17 : xD mX9_lowestOf 17 (.ireturn) 1 18 := ⟨by decide +kernel, rfl⟩
theorem eX9_lowestOf_18 : xD mX9_lowestOf 18 (.iinc 1 1) 3 21 := ⟨by decide +kernel, rfl⟩
theorem eX9_lowestOf_21 : xJ mX9_lowestOf 21 (.goto) 2 24 := ⟨(-19), by decide +kernel, by decide, rfl⟩
theorem eX9_lowestOf_24 : xK mX9_lowestOf 24 ((-4)) 26 := Or.inr (Or.inl (⟨(-4), by decide +kernel, by decide, rfl⟩))
theorem eX9_lowestOf_26 : xD mX9_lowestOf 26 (.ireturn) 1 27 := ⟨by decide +kernel, rfl⟩
theorem eX9_isVillage_0 : x_iload mX9_isVillage 0 1 1 := Or.inl ⟨1, by decide +kernel, rfl, rfl⟩
theorem eX9_isVillage_1 : xK mX9_isVillage 1 (nI 0) 2 := Or.inl (⟨0, by decide +kernel, by decide, rfl⟩)
theorem eX9_isVillage_2 : x_aload mX9_isVillage 2 0 3 := Or.inl ⟨0, by decide +kernel, rfl, rfl⟩
theorem eX9_isVillage_3 : xGF mX9_isVillage 3 9 3 6 := ⟨30, _, _, by decide +kernel, rfl, fl_X9_30⟩
theorem eX9_isVillage_6 : xGF mX9_isVillage 6 2 5 9 := ⟨123, _, _, by decide +kernel, rfl, fl_X9_123⟩
theorem eX9_isVillage_9 : xK mX9_isVillage 9 (nI 1) 10 := Or.inl (⟨1, by decide +kernel, by decide, rfl⟩)
theorem eX9_isVillage_10 : xD mX9_isVillage 10 (.isub) 1 11 := ⟨by decide +kernel, rfl⟩
set_option maxRecDepth 20000 in
theorem eX9_isVillage_11 : xCS mX9_isVillage 11 mX9_isWithin 3 14 := ⟨107, by decide +kernel, rfl, ⟨cm_X9_107.1, cm_X9_107.2.1, cm_X9_107.2.2.1, cm_X9_107.2.2.2.1, cm_X9_107.2.2.2.2⟩, xT_2 129 rfl rfl⟩
theorem eX9_isVillage_14 : xD mX9_isVillage 14 (.ireturn) 1 15 := ⟨by decide +kernel, rfl⟩
theorem eX9_isParty_0 : x_iload mX9_isParty 0 1 1 := Or.inl ⟨1, by decide +kernel, rfl, rfl⟩
theorem eX9_isParty_1 : xK mX9_isParty 1 (nI 0) 2 := Or.inl (⟨0, by decide +kernel, by decide, rfl⟩)
theorem eX9_isParty_2 : x_aload mX9_isParty 2 0 3 := Or.inl ⟨0, by decide +kernel, rfl, rfl⟩
theorem eX9_isParty_3 : xGF mX9_isParty 3 9 3 6 := ⟨30, _, _, by decide +kernel, rfl, fl_X9_30⟩
theorem eX9_isParty_6 : xGF mX9_isParty 6 2 6 9 := ⟨126, _, _, by decide +kernel, rfl, fl_X9_126⟩
theorem eX9_isParty_9 : xK mX9_isParty 9 (nI 1) 10 := Or.inl (⟨1, by decide +kernel, by decide, rfl⟩)
theorem eX9_isParty_10 : xD mX9_isParty 10 (.isub) 1 11 := ⟨by decide +kernel, rfl⟩
set_option maxRecDepth 20000 in
theorem eX9_isParty_11 : xCS mX9_isParty 11 mX9_isWithin 3 14 := ⟨107, by decide +kernel, rfl, ⟨cm_X9_107.1, cm_X9_107.2.1, cm_X9_107.2.2.1, cm_X9_107.2.2.2.1, cm_X9_107.2.2.2.2⟩, xT_2 129 rfl rfl⟩
theorem eX9_isParty_14 : xD mX9_isParty 14 (.ireturn) 1 15 := ⟨by decide +kernel, rfl⟩
theorem eX9_layScroll_0 : x_aload mX9_layScroll 0 0 1 := Or.inl ⟨0, by decide +kernel, rfl, rfl⟩
theorem eX9_layScroll_1 : xGF mX9_layScroll 1 9 1 4 := ⟨19, _, _, by decide +kernel, rfl, fl_X9_19⟩
theorem eX9_layScroll_4 : x_aload mX9_layScroll 4 0 5 := Or.inl ⟨0, by decide +kernel, rfl, rfl⟩
theorem eX9_layScroll_5 : xGF mX9_layScroll 5 9 0 8 := ⟨12, _, _, by decide +kernel, rfl, fl_X9_12⟩
theorem eX9_layScroll_8 : x_aload mX9_layScroll 8 0 9 := Or.inl ⟨0, by decide +kernel, rfl, rfl⟩
theorem eX9_layScroll_9 : xGF mX9_layScroll 9 9 3 12 := ⟨30, _, _, by decide +kernel, rfl, fl_X9_30⟩
set_option maxRecDepth 20000 in
theorem eX9_layScroll_12 : xCV mX9_layScroll 12 mX5_readAll 2 5 15 := ⟨119, by decide +kernel, rfl, ⟨cm_X9_119.1, cm_X9_119.2.1, cm_X9_119.2.2.1, cm_X9_119.2.2.2.1, cm_X9_119.2.2.2.2⟩, xT_2 97 rfl rfl, xT_2 98 rfl rfl, _, rfl, rfl⟩
theorem eX9_layScroll_15 : xD mX9_layScroll 15 (.pop) 1 16 := ⟨by decide +kernel, rfl⟩
theorem eX9_layScroll_16 : x_aload mX9_layScroll 16 0 17 := Or.inl ⟨0, by decide +kernel, rfl, rfl⟩
theorem eX9_layScroll_17 : xGF mX9_layScroll 17 9 3 20 := ⟨30, _, _, by decide +kernel, rfl, fl_X9_30⟩
set_option maxRecDepth 20000 in
theorem eX9_layScroll_20 : xCV mX9_layScroll 20 mX2_measure 0 2 23 := ⟨272, by decide +kernel, rfl, ⟨cm_X9_272.1, cm_X9_272.2.1, cm_X9_272.2.2.1, cm_X9_272.2.2.2.1, cm_X9_272.2.2.2.2⟩, xT_2 144 rfl rfl, xT_2 145 rfl rfl, _, rfl, rfl⟩
theorem eX9_layScroll_23 : x_aload mX9_layScroll 23 0 24 := Or.inl ⟨0, by decide +kernel, rfl, rfl⟩
theorem eX9_layScroll_24 : xGF mX9_layScroll 24 9 4 27 := ⟨38, _, _, by decide +kernel, rfl, fl_X9_38⟩
set_option maxRecDepth 20000 in
theorem eX9_layScroll_27 : xCV mX9_layScroll 27 mX0_open 0 0 30 := ⟨275, by decide +kernel, rfl, ⟨cm_X9_275.1, cm_X9_275.2.1, cm_X9_275.2.2.1, cm_X9_275.2.2.2.1, cm_X9_275.2.2.2.2⟩, xT_2 151 rfl rfl, xT_2 152 rfl rfl, _, rfl, rfl⟩
theorem eX9_layScroll_30 : x_aload mX9_layScroll 30 0 31 := Or.inl ⟨0, by decide +kernel, rfl, rfl⟩
theorem eX9_layScroll_31 : xGF mX9_layScroll 31 9 8 34 := ⟨60, _, _, by decide +kernel, rfl, fl_X9_60⟩
set_option maxRecDepth 20000 in
theorem eX9_layScroll_34 : xCV mX9_layScroll 34 mX8_clear 0 8 37 := ⟨223, by decide +kernel, rfl, ⟨cm_X9_223.1, cm_X9_223.2.1, cm_X9_223.2.2.1, cm_X9_223.2.2.2.1, cm_X9_223.2.2.2.2⟩, xT_2 159 rfl rfl, xT_2 160 rfl rfl, _, rfl, rfl⟩
theorem eX9_layScroll_37 : x_aload mX9_layScroll 37 0 38 := Or.inl ⟨0, by decide +kernel, rfl, rfl⟩
theorem eX9_layScroll_38 : xGF mX9_layScroll 38 9 6 41 := ⟨50, _, _, by decide +kernel, rfl, fl_X9_50⟩
set_option maxRecDepth 20000 in
theorem eX9_layScroll_41 : xCV mX9_layScroll 41 mX4_clear 0 4 44 := ⟨257, by decide +kernel, rfl, ⟨cm_X9_257.1, cm_X9_257.2.1, cm_X9_257.2.2.1, cm_X9_257.2.2.2.1, cm_X9_257.2.2.2.2⟩, xT_2 163 rfl rfl, xT_2 164 rfl rfl, _, rfl, rfl⟩
theorem eX9_layScroll_44 : x_aload mX9_layScroll 44 0 45 := Or.inl ⟨0, by decide +kernel, rfl, rfl⟩
theorem eX9_layScroll_45 : xGF mX9_layScroll 45 9 7 48 := ⟨54, _, _, by decide +kernel, rfl, fl_X9_54⟩
set_option maxRecDepth 20000 in
theorem eX9_layScroll_48 : xCV mX9_layScroll 48 mX4_clear 0 4 51 := ⟨257, by decide +kernel, rfl, ⟨cm_X9_257.1, cm_X9_257.2.1, cm_X9_257.2.2.1, cm_X9_257.2.2.2.1, cm_X9_257.2.2.2.2⟩, xT_2 163 rfl rfl, xT_2 164 rfl rfl, _, rfl, rfl⟩
theorem eX9_layScroll_51 : xD mX9_layScroll 51 (.return_) 1 52 := ⟨by decide +kernel, rfl⟩
theorem eX9_bestOrder_0 : x_iload mX9_bestOrder 0 1 1 := Or.inl ⟨1, by decide +kernel, rfl, rfl⟩
theorem eX9_bestOrder_1 : xK mX9_bestOrder 1 (nI 0) 2 := Or.inl (⟨0, by decide +kernel, by decide, rfl⟩)
theorem eX9_bestOrder_2 : xK mX9_bestOrder 2 (nI 7) 4 := Or.inr (Or.inl (⟨7, by decide +kernel, by decide, rfl⟩))
set_option maxRecDepth 20000 in
theorem eX9_bestOrder_4 : xCS mX9_bestOrder 4 mX9_isWithin 3 7 := ⟨107, by decide +kernel, rfl, ⟨cm_X9_107.1, cm_X9_107.2.1, cm_X9_107.2.2.1, cm_X9_107.2.2.2.1, cm_X9_107.2.2.2.2⟩, xT_2 129 rfl rfl⟩
theorem eX9_bestOrder_7 : xJ mX9_bestOrder 7 (.ifCond .ne) 12 10 := ⟨(5), by decide +kernel, by decide, rfl⟩
theorem eX9_bestOrder_10 : xK mX9_bestOrder 10 ((-1)) 11 := Or.inl (⟨(-1), by decide +kernel, by decide, rfl⟩)
theorem eX9_bestOrder_11 : xD mX9_bestOrder 11 (.ireturn) 1 12 := ⟨by decide +kernel, rfl⟩
theorem eX9_bestOrder_12 : x_iload mX9_bestOrder 12 1 13 := Or.inl ⟨1, by decide +kernel, rfl, rfl⟩
theorem eX9_bestOrder_13 : x_aload mX9_bestOrder 13 0 14 := Or.inl ⟨0, by decide +kernel, rfl, rfl⟩
theorem eX9_bestOrder_14 : xGF mX9_bestOrder 14 9 4 17 := ⟨38, _, _, by decide +kernel, rfl, fl_X9_38⟩
set_option maxRecDepth 20000 in
theorem eX9_bestOrder_17 : xCV mX9_bestOrder 17 mX0_restSize 0 0 20 := ⟨278, by decide +kernel, rfl, ⟨cm_X9_278.1, cm_X9_278.2.1, cm_X9_278.2.2.1, cm_X9_278.2.2.2.1, cm_X9_278.2.2.2.2⟩, xT_3 107 rfl rfl, xT_3 108 rfl rfl, _, rfl, rfl⟩
theorem eX9_bestOrder_20 : xJ mX9_bestOrder 20 (.if_icmp .le) 26 23 := ⟨(6), by decide +kernel, by decide, rfl⟩
theorem eX9_bestOrder_23 : xK mX9_bestOrder 23 ((-4)) 25 := Or.inr (Or.inl (⟨(-4), by decide +kernel, by decide, rfl⟩))
theorem eX9_bestOrder_25 : xD mX9_bestOrder 25 (.ireturn) 1 26 := ⟨by decide +kernel, rfl⟩
theorem eX9_bestOrder_26 : x_aload mX9_bestOrder 26 0 27 := Or.inl ⟨0, by decide +kernel, rfl, rfl⟩
theorem eX9_bestOrder_27 : xGF mX9_bestOrder 27 9 10 30 := ⟨74, _, _, by decide +kernel, rfl, fl_X9_74⟩
theorem eX9_bestOrder_30 : x_aload mX9_bestOrder 30 0 31 := Or.inl ⟨0, by decide +kernel, rfl, rfl⟩
theorem eX9_bestOrder_31 : xGF mX9_bestOrder 31 9 4 34 := ⟨38, _, _, by decide +kernel, rfl, fl_X9_38⟩
theorem eX9_bestOrder_34 : x_iload mX9_bestOrder 34 2 35 := Or.inl ⟨2, by decide +kernel, rfl, rfl⟩
set_option maxRecDepth 20000 in
theorem eX9_bestOrder_35 : xCV mX9_bestOrder 35 mX3_seek 2 3 38 := ⟨281, by decide +kernel, rfl, ⟨cm_X9_281.1, cm_X9_281.2.1, cm_X9_281.2.2.1, cm_X9_281.2.2.2.1, cm_X9_281.2.2.2.2⟩, xT_3 152 rfl rfl, xT_3 153 rfl rfl, _, rfl, rfl⟩
theorem eX9_bestOrder_38 : x_iload mX9_bestOrder 38 1 39 := Or.inl ⟨1, by decide +kernel, rfl, rfl⟩
theorem eX9_bestOrder_39 : xJ mX9_bestOrder 39 (.ifCond .ne) 52 42 := ⟨(13), by decide +kernel, by decide, rfl⟩
theorem eX9_bestOrder_42 : x_aload mX9_bestOrder 42 0 43 := Or.inl ⟨0, by decide +kernel, rfl, rfl⟩
theorem eX9_bestOrder_43 : xGF mX9_bestOrder 43 9 10 46 := ⟨74, _, _, by decide +kernel, rfl, fl_X9_74⟩
theorem eX9_bestOrder_46 : xGF mX9_bestOrder 46 3 7 49 := ⟨284, _, _, by decide +kernel, rfl, fl_X9_284⟩
theorem eX9_bestOrder_49 : xJ mX9_bestOrder 49 (.goto) 63 52 := ⟨(14), by decide +kernel, by decide, rfl⟩
theorem eX9_bestOrder_52 : x_aload mX9_bestOrder 52 0 53 := Or.inl ⟨0, by decide +kernel, rfl, rfl⟩
theorem eX9_bestOrder_53 : xGF mX9_bestOrder 53 9 10 56 := ⟨74, _, _, by decide +kernel, rfl, fl_X9_74⟩
theorem eX9_bestOrder_56 : xGF mX9_bestOrder 56 3 3 59 := ⟨287, _, _, by decide +kernel, rfl, fl_X9_287⟩
theorem eX9_bestOrder_59 : x_iload mX9_bestOrder 59 1 60 := Or.inl ⟨1, by decide +kernel, rfl, rfl⟩
theorem eX9_bestOrder_60 : xK mX9_bestOrder 60 (nI 1) 61 := Or.inl (⟨1, by decide +kernel, by decide, rfl⟩)
theorem eX9_bestOrder_61 : xD mX9_bestOrder 61 (.isub) 1 62 := ⟨by decide +kernel, rfl⟩
theorem eX9_bestOrder_62 : xD mX9_bestOrder 62 (.iaload) 1 63 := ⟨by decide +kernel, rfl⟩
theorem eX9_bestOrder_63 : xD mX9_bestOrder 63 (.ireturn) 1 64 := ⟨by decide +kernel, rfl⟩
theorem eX9_bestChecks_0 : x_aload mX9_bestChecks 0 0 1 := Or.inl ⟨0, by decide +kernel, rfl, rfl⟩
theorem eX9_bestChecks_1 : xGF mX9_bestChecks 1 9 4 4 := ⟨38, _, _, by decide +kernel, rfl, fl_X9_38⟩
theorem eX9_bestChecks_4 : xGF mX9_bestChecks 4 0 5 7 := ⟨258, _, _, by decide +kernel, rfl, fl_X9_258⟩
theorem eX9_bestChecks_7 : x_aload mX9_bestChecks 7 0 8 := Or.inl ⟨0, by decide +kernel, rfl, rfl⟩
theorem eX9_bestChecks_8 : xGF mX9_bestChecks 8 9 4 11 := ⟨38, _, _, by decide +kernel, rfl, fl_X9_38⟩
theorem eX9_bestChecks_11 : xGF mX9_bestChecks 11 0 6 14 := ⟨266, _, _, by decide +kernel, rfl, fl_X9_266⟩
theorem eX9_bestChecks_14 : xK mX9_bestChecks 14 ((-1)) 15 := Or.inl (⟨(-1), by decide +kernel, by decide, rfl⟩)
theorem eX9_bestChecks_15 : xD mX9_bestChecks 15 (.ixor) 1 16 := ⟨by decide +kernel, rfl⟩
theorem eX9_bestChecks_16 : xD mX9_bestChecks 16 (.iand) 1 17 := ⟨by decide +kernel, rfl⟩
theorem eX9_bestChecks_17 : x_istore mX9_bestChecks 17 2 18 := Or.inl ⟨2, by decide +kernel, rfl, rfl⟩
theorem eX9_bestChecks_18 : x_iload mX9_bestChecks 18 1 19 := Or.inl ⟨1, by decide +kernel, rfl, rfl⟩
theorem eX9_bestChecks_19 : x_iload mX9_bestChecks 19 2 20 := Or.inl ⟨2, by decide +kernel, rfl, rfl⟩
set_option maxRecDepth 20000 in
theorem eX9_bestChecks_20 : xCS mX9_bestChecks 20 mJ6_bitCount_0f7a4 1 23 := ⟨261, by decide +kernel, rfl, ⟨cm_X9_261.1, cm_X9_261.2.1, cm_X9_261.2.2.1, cm_X9_261.2.2.2.1, cm_X9_261.2.2.2.2⟩, xT_3 112 rfl rfl⟩
set_option maxRecDepth 20000 in
theorem eX9_bestChecks_23 : xCS mX9_bestChecks 23 mJ9_min_7cf53 2 26 := ⟨290, by decide +kernel, rfl, ⟨cm_X9_290.1, cm_X9_290.2.1, cm_X9_290.2.2.1, cm_X9_290.2.2.2.1, cm_X9_290.2.2.2.2⟩, xT_2 148 rfl rfl⟩
theorem eX9_bestChecks_26 : x_istore mX9_bestChecks 26 3 27 := Or.inl ⟨3, by decide +kernel, rfl, rfl⟩
theorem eX9_bestChecks_27 : xK mX9_bestChecks 27 ((-4)) 29 := Or.inr (Or.inl (⟨(-4), by decide +kernel, by decide, rfl⟩))
theorem eX9_bestChecks_29 : x_istore mX9_bestChecks 29 4 31 := Or.inr ⟨by decide +kernel, rfl⟩
theorem eX9_bestChecks_31 : xK mX9_bestChecks 31 (nI 0) 32 := Or.inl (⟨0, by decide +kernel, by decide, rfl⟩)
theorem eX9_bestChecks_32 : x_istore mX9_bestChecks 32 5 34 := Or.inr ⟨by decide +kernel, rfl⟩
theorem eX9_bestChecks_34 : x_iload mX9_bestChecks 34 5 36 := Or.inr ⟨by decide +kernel, rfl⟩
theorem eX9_bestChecks_36 : xK mX9_bestChecks 36 (nI 128) 39 := Or.inr (Or.inr (Or.inl (⟨128, by decide +kernel, by decide, rfl⟩)))
theorem eX9_bestChecks_39 : xJ mX9_bestChecks 39 (.if_icmp .ge) 98 42 := ⟨(59), by decide +kernel, by decide, rfl⟩
theorem eX9_bestChecks_42 : x_iload mX9_bestChecks 42 5 44 := Or.inr ⟨by decide +kernel, rfl⟩
theorem eX9_bestChecks_44 : x_iload mX9_bestChecks 44 2 45 := Or.inl ⟨2, by decide +kernel, rfl, rfl⟩
theorem eX9_bestChecks_45 : xK mX9_bestChecks 45 ((-1)) 46 := Or.inl (⟨(-1), by decide +kernel, by decide, rfl⟩)
theorem eX9_bestChecks_46 : xD mX9_bestChecks 46 (.ixor) 1 47 := ⟨by decide +kernel, rfl⟩
theorem eX9_bestChecks_47 : xD mX9_bestChecks 47 (.iand) 1 48 := ⟨by decide +kernel, rfl⟩
theorem eX9_bestChecks_48 : xJ mX9_bestChecks 48 (.ifCond .ne) 92 51 := ⟨(44), by decide +kernel, by decide, rfl⟩
theorem eX9_bestChecks_51 : x_iload mX9_bestChecks 51 5 53 := Or.inr ⟨by decide +kernel, rfl⟩
set_option maxRecDepth 20000 in
theorem eX9_bestChecks_53 : xCS mX9_bestChecks 53 mJ6_bitCount_0f7a4 1 56 := ⟨261, by decide +kernel, rfl, ⟨cm_X9_261.1, cm_X9_261.2.1, cm_X9_261.2.2.1, cm_X9_261.2.2.2.1, cm_X9_261.2.2.2.2⟩, xT_3 112 rfl rfl⟩
theorem eX9_bestChecks_56 : x_iload mX9_bestChecks 56 3 57 := Or.inl ⟨3, by decide +kernel, rfl, rfl⟩
theorem eX9_bestChecks_57 : xJ mX9_bestChecks 57 (.if_icmp .ne) 92 60 := ⟨(35), by decide +kernel, by decide, rfl⟩
theorem eX9_bestChecks_60 : x_iload mX9_bestChecks 60 4 62 := Or.inr ⟨by decide +kernel, rfl⟩
theorem eX9_bestChecks_62 : xK mX9_bestChecks 62 ((-4)) 64 := Or.inr (Or.inl (⟨(-4), by decide +kernel, by decide, rfl⟩))
theorem eX9_bestChecks_64 : xJ mX9_bestChecks 64 (.if_icmp .eq) 88 67 := ⟨(24), by decide +kernel, by decide, rfl⟩
theorem eX9_bestChecks_67 : x_aload mX9_bestChecks 67 0 68 := Or.inl ⟨0, by decide +kernel, rfl, rfl⟩
theorem eX9_bestChecks_68 : xGF mX9_bestChecks 68 9 4 71 := ⟨38, _, _, by decide +kernel, rfl, fl_X9_38⟩
theorem eX9_bestChecks_71 : x_iload mX9_bestChecks 71 5 73 := Or.inr ⟨by decide +kernel, rfl⟩
set_option maxRecDepth 20000 in
theorem eX9_bestChecks_73 : xCV mX9_bestChecks 73 mX0_gainOf 1 0 76 := ⟨215, by decide +kernel, rfl, ⟨cm_X9_215.1, cm_X9_215.2.1, cm_X9_215.2.2.1, cm_X9_215.2.2.2.1, cm_X9_215.2.2.2.2⟩, xT_3 187 rfl rfl, xT_3 188 rfl rfl, _, rfl, rfl⟩
theorem eX9_bestChecks_76 : x_aload mX9_bestChecks 76 0 77 := Or.inl ⟨0, by decide +kernel, rfl, rfl⟩
theorem eX9_bestChecks_77 : xGF mX9_bestChecks 77 9 4 80 := ⟨38, _, _, by decide +kernel, rfl, fl_X9_38⟩
theorem eX9_bestChecks_80 : x_iload mX9_bestChecks 80 4 82 := Or.inr ⟨by decide +kernel, rfl⟩
set_option maxRecDepth 20000 in
theorem eX9_bestChecks_82 : xCV mX9_bestChecks 82 mX0_gainOf 1 0 85 := ⟨215, by decide +kernel, rfl, ⟨cm_X9_215.1, cm_X9_215.2.1, cm_X9_215.2.2.1, cm_X9_215.2.2.2.1, cm_X9_215.2.2.2.2⟩, xT_3 187 rfl rfl, xT_3 188 rfl rfl, _, rfl, rfl⟩
theorem eX9_bestChecks_85 : xJ mX9_bestChecks 85 (.if_icmp .le) 92 88 := ⟨(7), by decide +kernel, by decide, rfl⟩
theorem eX9_bestChecks_88 : x_iload mX9_bestChecks 88 5 90 := Or.inr ⟨by decide +kernel, rfl⟩
theorem eX9_bestChecks_90 : x_istore mX9_bestChecks 90 4 92 := Or.inr ⟨by decide +kernel, rfl⟩
theorem eX9_bestChecks_92 : xD mX9_bestChecks 92 (.iinc 5 1) 3 95 := ⟨by decide +kernel, rfl⟩
theorem eX9_bestChecks_95 : xJ mX9_bestChecks 95 (.goto) 34 98 := ⟨(-61), by decide +kernel, by decide, rfl⟩
theorem eX9_bestChecks_98 : x_iload mX9_bestChecks 98 4 100 := Or.inr ⟨by decide +kernel, rfl⟩
theorem eX9_bestChecks_100 : xD mX9_bestChecks 100 (.ireturn) 1 101 := ⟨by decide +kernel, rfl⟩
set_option maxRecDepth 20000 in
theorem eX9_drawOf_0 : xKL mX9_drawOf 0 (7919) 3 := Or.inr ⟨295, by decide +kernel, xT_4 18 rfl rfl, rfl⟩
theorem eX9_drawOf_3 : x_iload mX9_drawOf 3 0 4 := Or.inl ⟨0, by decide +kernel, rfl, rfl⟩
theorem eX9_drawOf_4 : xD mX9_drawOf 4 (.i2l) 1 5 := ⟨by decide +kernel, rfl⟩
theorem eX9_drawOf_5 : xD mX9_drawOf 5 (.lmul) 1 6 := ⟨by decide +kernel, rfl⟩
set_option maxRecDepth 20000 in
theorem eX9_drawOf_6 : xKL mX9_drawOf 6 (6151) 9 := Or.inr ⟨297, by decide +kernel, xT_4 19 rfl rfl, rfl⟩
theorem eX9_drawOf_9 : x_iload mX9_drawOf 9 1 10 := Or.inl ⟨1, by decide +kernel, rfl, rfl⟩
theorem eX9_drawOf_10 : xD mX9_drawOf 10 (.i2l) 1 11 := ⟨by decide +kernel, rfl⟩
theorem eX9_drawOf_11 : xD mX9_drawOf 11 (.lmul) 1 12 := ⟨by decide +kernel, rfl⟩
theorem eX9_drawOf_12 : xD mX9_drawOf 12 (.ladd) 1 13 := ⟨by decide +kernel, rfl⟩
theorem eX9_drawOf_13 : xKL mX9_drawOf 13 (1) 14 := Or.inl ⟨1, by decide +kernel, by decide, rfl⟩
theorem eX9_drawOf_14 : xD mX9_drawOf 14 (.ladd) 1 15 := ⟨by decide +kernel, rfl⟩
theorem eX9_drawOf_15 : x_lstore mX9_drawOf 15 2 16 := Or.inl ⟨2, by decide +kernel, rfl, rfl⟩
theorem eX9_drawOf_16 : x_lload mX9_drawOf 16 2 17 := Or.inl ⟨2, by decide +kernel, rfl, rfl⟩
theorem eX9_drawOf_17 : x_lload mX9_drawOf 17 2 18 := Or.inl ⟨2, by decide +kernel, rfl, rfl⟩
theorem eX9_drawOf_18 : xD mX9_drawOf 18 (.lmul) 1 19 := ⟨by decide +kernel, rfl⟩
set_option maxRecDepth 20000 in
theorem eX9_drawOf_19 : xKL mX9_drawOf 19 (65521) 22 := Or.inr ⟨299, by decide +kernel, xT_4 20 rfl rfl, rfl⟩
theorem eX9_drawOf_22 : xD mX9_drawOf 22 (.lrem) 1 23 := ⟨by decide +kernel, rfl⟩
set_option maxRecDepth 20000 in
theorem eX9_drawOf_23 : xKL mX9_drawOf 23 (2) 26 := Or.inr ⟨301, by decide +kernel, xT_4 21 rfl rfl, rfl⟩
theorem eX9_drawOf_26 : xD mX9_drawOf 26 (.ldiv) 1 27 := ⟨by decide +kernel, rfl⟩
theorem eX9_drawOf_27 : xD mX9_drawOf 27 (.l2i) 1 28 := ⟨by decide +kernel, rfl⟩
theorem eX9_drawOf_28 : xD mX9_drawOf 28 (.ireturn) 1 29 := ⟨by decide +kernel, rfl⟩
theorem eX9_stepByDraw_0 : x_aload mX9_stepByDraw 0 0 1 := Or.inl ⟨0, by decide +kernel, rfl, rfl⟩
theorem eX9_stepByDraw_1 : xGF mX9_stepByDraw 1 9 3 4 := ⟨30, _, _, by decide +kernel, rfl, fl_X9_30⟩
theorem eX9_stepByDraw_4 : xGF mX9_stepByDraw 4 2 6 7 := ⟨126, _, _, by decide +kernel, rfl, fl_X9_126⟩
theorem eX9_stepByDraw_7 : xK mX9_stepByDraw 7 (nI 1) 8 := Or.inl (⟨1, by decide +kernel, by decide, rfl⟩)
theorem eX9_stepByDraw_8 : xJ mX9_stepByDraw 8 (.if_icmp .lt) 22 11 := ⟨(14), by decide +kernel, by decide, rfl⟩
theorem eX9_stepByDraw_11 : x_aload mX9_stepByDraw 11 0 12 := Or.inl ⟨0, by decide +kernel, rfl, rfl⟩
theorem eX9_stepByDraw_12 : xGF mX9_stepByDraw 12 9 3 15 := ⟨30, _, _, by decide +kernel, rfl, fl_X9_30⟩
theorem eX9_stepByDraw_15 : xGF mX9_stepByDraw 15 2 5 18 := ⟨123, _, _, by decide +kernel, rfl, fl_X9_123⟩
theorem eX9_stepByDraw_18 : xK mX9_stepByDraw 18 (nI 1) 19 := Or.inl (⟨1, by decide +kernel, by decide, rfl⟩)
theorem eX9_stepByDraw_19 : xJ mX9_stepByDraw 19 (.if_icmp .ge) 23 22 := ⟨(4), by decide +kernel, by decide, rfl⟩
theorem eX9_stepByDraw_22 : xD mX9_stepByDraw 22 (.return_) 1 23 := ⟨by decide +kernel, rfl⟩
theorem eX9_stepByDraw_23 : x_iload mX9_stepByDraw 23 1 24 := Or.inl ⟨1, by decide +kernel, rfl, rfl⟩
theorem eX9_stepByDraw_24 : x_aload mX9_stepByDraw 24 0 25 := Or.inl ⟨0, by decide +kernel, rfl, rfl⟩
theorem eX9_stepByDraw_25 : xGF mX9_stepByDraw 25 9 3 28 := ⟨30, _, _, by decide +kernel, rfl, fl_X9_30⟩
theorem eX9_stepByDraw_28 : xGF mX9_stepByDraw 28 2 6 31 := ⟨126, _, _, by decide +kernel, rfl, fl_X9_126⟩
theorem eX9_stepByDraw_31 : xD mX9_stepByDraw 31 (.irem) 1 32 := ⟨by decide +kernel, rfl⟩
theorem eX9_stepByDraw_32 : x_istore mX9_stepByDraw 32 2 33 := Or.inl ⟨2, by decide +kernel, rfl, rfl⟩
theorem eX9_stepByDraw_33 : x_iload mX9_stepByDraw 33 1 34 := Or.inl ⟨1, by decide +kernel, rfl, rfl⟩
theorem eX9_stepByDraw_34 : xK mX9_stepByDraw 34 (nI 8) 36 := Or.inr (Or.inl (⟨8, by decide +kernel, by decide, rfl⟩))
theorem eX9_stepByDraw_36 : xD mX9_stepByDraw 36 (.idiv) 1 37 := ⟨by decide +kernel, rfl⟩
theorem eX9_stepByDraw_37 : x_aload mX9_stepByDraw 37 0 38 := Or.inl ⟨0, by decide +kernel, rfl, rfl⟩
theorem eX9_stepByDraw_38 : xGF mX9_stepByDraw 38 9 3 41 := ⟨30, _, _, by decide +kernel, rfl, fl_X9_30⟩
theorem eX9_stepByDraw_41 : xGF mX9_stepByDraw 41 2 5 44 := ⟨123, _, _, by decide +kernel, rfl, fl_X9_123⟩
theorem eX9_stepByDraw_44 : xD mX9_stepByDraw 44 (.irem) 1 45 := ⟨by decide +kernel, rfl⟩
theorem eX9_stepByDraw_45 : x_istore mX9_stepByDraw 45 3 46 := Or.inl ⟨3, by decide +kernel, rfl, rfl⟩
theorem eX9_stepByDraw_46 : x_iload mX9_stepByDraw 46 1 47 := Or.inl ⟨1, by decide +kernel, rfl, rfl⟩
theorem eX9_stepByDraw_47 : xK mX9_stepByDraw 47 (nI 64) 49 := Or.inr (Or.inl (⟨64, by decide +kernel, by decide, rfl⟩))
theorem eX9_stepByDraw_49 : xD mX9_stepByDraw 49 (.idiv) 1 50 := ⟨by decide +kernel, rfl⟩
theorem eX9_stepByDraw_50 : xK mX9_stepByDraw 50 (nI 3) 51 := Or.inl (⟨3, by decide +kernel, by decide, rfl⟩)
theorem eX9_stepByDraw_51 : xD mX9_stepByDraw 51 (.irem) 1 52 := ⟨by decide +kernel, rfl⟩
theorem eX9_stepByDraw_52 : x_istore mX9_stepByDraw 52 4 54 := Or.inr ⟨by decide +kernel, rfl⟩
theorem eX9_stepByDraw_54 : x_aload mX9_stepByDraw 54 0 55 := Or.inl ⟨0, by decide +kernel, rfl, rfl⟩
theorem eX9_stepByDraw_55 : xGF mX9_stepByDraw 55 9 5 58 := ⟨42, _, _, by decide +kernel, rfl, fl_X9_42⟩
theorem eX9_stepByDraw_58 : x_iload mX9_stepByDraw 58 2 59 := Or.inl ⟨2, by decide +kernel, rfl, rfl⟩
theorem eX9_stepByDraw_59 : x_iload mX9_stepByDraw 59 3 60 := Or.inl ⟨3, by decide +kernel, rfl, rfl⟩
set_option maxRecDepth 20000 in
theorem eX9_stepByDraw_60 : xCV mX9_stepByDraw 60 mX0_canBeAsked 2 0 63 := ⟨173, by decide +kernel, rfl, ⟨cm_X9_173.1, cm_X9_173.2.1, cm_X9_173.2.2.1, cm_X9_173.2.2.2.1, cm_X9_173.2.2.2.2⟩, xT_3 31 rfl rfl, xT_3 32 rfl rfl, _, rfl, rfl⟩
theorem eX9_stepByDraw_63 : xJ mX9_stepByDraw 63 (.ifCond .eq) 79 66 := ⟨(16), by decide +kernel, by decide, rfl⟩
theorem eX9_stepByDraw_66 : x_aload mX9_stepByDraw 66 0 67 := Or.inl ⟨0, by decide +kernel, rfl, rfl⟩
theorem eX9_stepByDraw_67 : xGF mX9_stepByDraw 67 9 5 70 := ⟨42, _, _, by decide +kernel, rfl, fl_X9_42⟩
theorem eX9_stepByDraw_70 : x_iload mX9_stepByDraw 70 2 71 := Or.inl ⟨2, by decide +kernel, rfl, rfl⟩
theorem eX9_stepByDraw_71 : x_iload mX9_stepByDraw 71 3 72 := Or.inl ⟨3, by decide +kernel, rfl, rfl⟩
set_option maxRecDepth 20000 in
theorem eX9_stepByDraw_72 : xCV mX9_stepByDraw 72 mX0_askBy 2 0 75 := ⟨181, by decide +kernel, rfl, ⟨cm_X9_181.1, cm_X9_181.2.1, cm_X9_181.2.2.1, cm_X9_181.2.2.2.1, cm_X9_181.2.2.2.2⟩, xT_3 57 rfl rfl, xT_3 58 rfl rfl, _, rfl, rfl⟩
theorem eX9_stepByDraw_75 : xD mX9_stepByDraw 75 (.pop) 1 76 := ⟨by decide +kernel, rfl⟩
theorem eX9_stepByDraw_76 : xJ mX9_stepByDraw 76 (.goto) 133 79 := ⟨(57), by decide +kernel, by decide, rfl⟩
theorem eX9_stepByDraw_79 : x_iload mX9_stepByDraw 79 4 81 := Or.inr ⟨by decide +kernel, rfl⟩
theorem eX9_stepByDraw_81 : xJ mX9_stepByDraw 81 (.ifCond .ne) 107 84 := ⟨(26), by decide +kernel, by decide, rfl⟩
theorem eX9_stepByDraw_84 : x_aload mX9_stepByDraw 84 0 85 := Or.inl ⟨0, by decide +kernel, rfl, rfl⟩
theorem eX9_stepByDraw_85 : xGF mX9_stepByDraw 85 9 5 88 := ⟨42, _, _, by decide +kernel, rfl, fl_X9_42⟩
theorem eX9_stepByDraw_88 : x_iload mX9_stepByDraw 88 3 89 := Or.inl ⟨3, by decide +kernel, rfl, rfl⟩
set_option maxRecDepth 20000 in
theorem eX9_stepByDraw_89 : xCV mX9_stepByDraw 89 mX0_canBeChecked 1 0 92 := ⟨185, by decide +kernel, rfl, ⟨cm_X9_185.1, cm_X9_185.2.1, cm_X9_185.2.2.1, cm_X9_185.2.2.2.1, cm_X9_185.2.2.2.2⟩, xT_3 70 rfl rfl, xT_3 71 rfl rfl, _, rfl, rfl⟩
theorem eX9_stepByDraw_92 : xJ mX9_stepByDraw 92 (.ifCond .eq) 107 95 := ⟨(15), by decide +kernel, by decide, rfl⟩
theorem eX9_stepByDraw_95 : x_aload mX9_stepByDraw 95 0 96 := Or.inl ⟨0, by decide +kernel, rfl, rfl⟩
theorem eX9_stepByDraw_96 : xGF mX9_stepByDraw 96 9 5 99 := ⟨42, _, _, by decide +kernel, rfl, fl_X9_42⟩
theorem eX9_stepByDraw_99 : x_iload mX9_stepByDraw 99 3 100 := Or.inl ⟨3, by decide +kernel, rfl, rfl⟩
set_option maxRecDepth 20000 in
theorem eX9_stepByDraw_100 : xCV mX9_stepByDraw 100 mX0_writeOxen 1 0 103 := ⟨188, by decide +kernel, rfl, ⟨cm_X9_188.1, cm_X9_188.2.1, cm_X9_188.2.2.1, cm_X9_188.2.2.2.1, cm_X9_188.2.2.2.2⟩, xT_3 75 rfl rfl, xT_3 76 rfl rfl, _, rfl, rfl⟩
theorem eX9_stepByDraw_103 : xD mX9_stepByDraw 103 (.pop) 1 104 := ⟨by decide +kernel, rfl⟩
theorem eX9_stepByDraw_104 : xJ mX9_stepByDraw 104 (.goto) 133 107 := ⟨(29), by decide +kernel, by decide, rfl⟩
theorem eX9_stepByDraw_107 : x_iload mX9_stepByDraw 107 4 109 := Or.inr ⟨by decide +kernel, rfl⟩
theorem eX9_stepByDraw_109 : xK mX9_stepByDraw 109 (nI 1) 110 := Or.inl (⟨1, by decide +kernel, by decide, rfl⟩)
theorem eX9_stepByDraw_110 : xJ mX9_stepByDraw 110 (.if_icmp .ne) 133 113 := ⟨(23), by decide +kernel, by decide, rfl⟩
theorem eX9_stepByDraw_113 : x_aload mX9_stepByDraw 113 0 114 := Or.inl ⟨0, by decide +kernel, rfl, rfl⟩
theorem eX9_stepByDraw_114 : xGF mX9_stepByDraw 114 9 5 117 := ⟨42, _, _, by decide +kernel, rfl, fl_X9_42⟩
theorem eX9_stepByDraw_117 : x_iload mX9_stepByDraw 117 3 118 := Or.inl ⟨3, by decide +kernel, rfl, rfl⟩
set_option maxRecDepth 20000 in
theorem eX9_stepByDraw_118 : xCV mX9_stepByDraw 118 mX0_holds 1 0 121 := ⟨140, by decide +kernel, rfl, ⟨cm_X9_140.1, cm_X9_140.2.1, cm_X9_140.2.2.1, cm_X9_140.2.2.2.1, cm_X9_140.2.2.2.2⟩, xT_2 235 rfl rfl, xT_2 236 rfl rfl, _, rfl, rfl⟩
theorem eX9_stepByDraw_121 : xJ mX9_stepByDraw 121 (.ifCond .eq) 133 124 := ⟨(12), by decide +kernel, by decide, rfl⟩
theorem eX9_stepByDraw_124 : x_aload mX9_stepByDraw 124 0 125 := Or.inl ⟨0, by decide +kernel, rfl, rfl⟩
theorem eX9_stepByDraw_125 : xGF mX9_stepByDraw 125 9 5 128 := ⟨42, _, _, by decide +kernel, rfl, fl_X9_42⟩
theorem eX9_stepByDraw_128 : x_iload mX9_stepByDraw 128 3 129 := Or.inl ⟨3, by decide +kernel, rfl, rfl⟩
set_option maxRecDepth 20000 in
theorem eX9_stepByDraw_129 : xCV mX9_stepByDraw 129 mX0_strikeOut 1 0 132 := ⟨192, by decide +kernel, rfl, ⟨cm_X9_192.1, cm_X9_192.2.1, cm_X9_192.2.2.1, cm_X9_192.2.2.2.1, cm_X9_192.2.2.2.2⟩, xT_3 83 rfl rfl, xT_3 84 rfl rfl, _, rfl, rfl⟩
theorem eX9_stepByDraw_132 : xD mX9_stepByDraw 132 (.pop) 1 133 := ⟨by decide +kernel, rfl⟩
theorem eX9_stepByDraw_133 : xD mX9_stepByDraw 133 (.return_) 1 134 := ⟨by decide +kernel, rfl⟩
