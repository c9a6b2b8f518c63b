/-! arraycopy and Object.<init>: where they are called -/
set_option maxRecDepth 20000 in
theorem eX0_init_1 : xOI mX0_init 1 4 := ⟨3, by decide +kernel, rfl, xT_1 119 rfl rfl, xT_1 26 rfl rfl, xT_1 27 rfl rfl⟩
set_option maxRecDepth 20000 in
theorem eX0_open_25 : xCP mX0_open 25 28 := ⟨38, by decide +kernel, rfl, xT_2 154 rfl rfl, xT_2 156 rfl rfl, xT_2 155 rfl rfl, xT_1 17 rfl rfl⟩
set_option maxRecDepth 20000 in
theorem eX0_open_50 : xCP mX0_open 50 53 := ⟨38, by decide +kernel, rfl, xT_2 154 rfl rfl, xT_2 156 rfl rfl, xT_2 155 rfl rfl, xT_1 17 rfl rfl⟩
set_option maxRecDepth 20000 in
theorem eX0_copyFrom_16 : xCP mX0_copyFrom 16 19 := ⟨38, by decide +kernel, rfl, xT_2 154 rfl rfl, xT_2 156 rfl rfl, xT_2 155 rfl rfl, xT_1 17 rfl rfl⟩
set_option maxRecDepth 20000 in
theorem eX0_copyFrom_30 : xCP mX0_copyFrom 30 33 := ⟨38, by decide +kernel, rfl, xT_2 154 rfl rfl, xT_2 156 rfl rfl, xT_2 155 rfl rfl, xT_1 17 rfl rfl⟩
set_option maxRecDepth 20000 in
theorem eX0_copyEntries_28 : xCP mX0_copyEntries 28 31 := ⟨38, by decide +kernel, rfl, xT_2 154 rfl rfl, xT_2 156 rfl rfl, xT_2 155 rfl rfl, xT_1 17 rfl rfl⟩
set_option maxRecDepth 20000 in
theorem eX0_copyEntries_43 : xCP mX0_copyEntries 43 46 := ⟨38, by decide +kernel, rfl, xT_2 154 rfl rfl, xT_2 156 rfl rfl, xT_2 155 rfl rfl, xT_1 17 rfl rfl⟩
set_option maxRecDepth 20000 in
theorem eX1_init_1 : xOI mX1_init 1 4 := ⟨3, by decide +kernel, rfl, xT_2 17 rfl rfl, xT_1 26 rfl rfl, xT_1 27 rfl rfl⟩
set_option maxRecDepth 20000 in
theorem eX2_init_1 : xOI mX2_init 1 4 := ⟨3, by decide +kernel, rfl, xT_1 63 rfl rfl, xT_1 26 rfl rfl, xT_1 27 rfl rfl⟩
set_option maxRecDepth 20000 in
theorem eX3_init_1 : xOI mX3_init 1 4 := ⟨3, by decide +kernel, rfl, xT_1 222 rfl rfl, xT_1 26 rfl rfl, xT_1 27 rfl rfl⟩
set_option maxRecDepth 20000 in
theorem eX3_weighOrder_55 : xCP mX3_weighOrder 55 58 := ⟨80, by decide +kernel, rfl, xT_3 169 rfl rfl, xT_2 156 rfl rfl, xT_2 155 rfl rfl, xT_1 17 rfl rfl⟩
set_option maxRecDepth 20000 in
theorem eX4_init_1 : xOI mX4_init 1 4 := ⟨1, by decide +kernel, rfl, xT_1 155 rfl rfl, xT_1 26 rfl rfl, xT_1 27 rfl rfl⟩
set_option maxRecDepth 20000 in
theorem eX5_init_1 : xOI mX5_init 1 4 := ⟨3, by decide +kernel, rfl, xT_1 49 rfl rfl, xT_1 26 rfl rfl, xT_1 27 rfl rfl⟩
set_option maxRecDepth 20000 in
theorem eX6_init_1 : xOI mX6_init 1 4 := ⟨3, by decide +kernel, rfl, xT_1 33 rfl rfl, xT_1 26 rfl rfl, xT_1 27 rfl rfl⟩
set_option maxRecDepth 20000 in
theorem eX7_init_1 : xOI mX7_init 1 4 := ⟨3, by decide +kernel, rfl, xT_1 195 rfl rfl, xT_1 26 rfl rfl, xT_1 27 rfl rfl⟩
set_option maxRecDepth 20000 in
theorem eX7_seek_146 : xCP mX7_seek 146 149 := ⟨63, by decide +kernel, rfl, xT_3 137 rfl rfl, xT_2 156 rfl rfl, xT_2 155 rfl rfl, xT_1 17 rfl rfl⟩
set_option maxRecDepth 20000 in
theorem eX8_init_1 : xOI mX8_init 1 4 := ⟨3, by decide +kernel, rfl, xT_1 178 rfl rfl, xT_1 26 rfl rfl, xT_1 27 rfl rfl⟩
set_option maxRecDepth 20000 in
theorem eX9_init_1 : xOI mX9_init 1 4 := ⟨3, by decide +kernel, rfl, xT_1 25 rfl rfl, xT_1 26 rfl rfl, xT_1 27 rfl rfl⟩
set_option maxRecDepth 20000 in
theorem eX10_init_1 : xOI mX10_init 1 4 := ⟨1, by decide +kernel, rfl, xT_4 54 rfl rfl, xT_1 26 rfl rfl, xT_1 27 rfl rfl⟩
