/-! WHERE THINGS ARE MADE: facts by program; fields at birth -/
def bf0 : List (Option (Option Nat)) := [some none, some none, some none, some none, some none, none, none]
theorem bf0_ok : ∀ j, j < 7 → defaultValue (tyX0 j) = xv0 (bf0.getD j none) ∧ bf0.getD j none ≠ some (some 0) ∧ (∀ r, bf0.getD j none = some r → r = none)
  | 0, _ => ⟨rfl, by decide, fun r h => by cases h; rfl⟩
  | 1, _ => ⟨rfl, by decide, fun r h => by cases h; rfl⟩
  | 2, _ => ⟨rfl, by decide, fun r h => by cases h; rfl⟩
  | 3, _ => ⟨rfl, by decide, fun r h => by cases h; rfl⟩
  | 4, _ => ⟨rfl, by decide, fun r h => by cases h; rfl⟩
  | 5, _ => ⟨rfl, by decide, fun r h => by cases h⟩
  | 6, _ => ⟨rfl, by decide, fun r h => by cases h⟩
  | j + 7, h => absurd h (by omega)
def bf1 : List (Option (Option Nat)) := [some none, some none, none, none]
theorem bf1_ok : ∀ j, j < 4 → defaultValue (tyX1 j) = xv0 (bf1.getD j none) ∧ bf1.getD j none ≠ some (some 0) ∧ (∀ r, bf1.getD j none = some r → r = none)
  | 0, _ => ⟨rfl, by decide, fun r h => by cases h; rfl⟩
  | 1, _ => ⟨rfl, by decide, fun r h => by cases h; rfl⟩
  | 2, _ => ⟨rfl, by decide, fun r h => by cases h⟩
  | 3, _ => ⟨rfl, by decide, fun r h => by cases h⟩
  | j + 4, h => absurd h (by omega)
def bf2 : List (Option (Option Nat)) := [some none, some none, some none, some none, some none, none, none, none]
theorem bf2_ok : ∀ j, j < 8 → defaultValue (tyX2 j) = xv0 (bf2.getD j none) ∧ bf2.getD j none ≠ some (some 0) ∧ (∀ r, bf2.getD j none = some r → r = none)
  | 0, _ => ⟨rfl, by decide, fun r h => by cases h; rfl⟩
  | 1, _ => ⟨rfl, by decide, fun r h => by cases h; rfl⟩
  | 2, _ => ⟨rfl, by decide, fun r h => by cases h; rfl⟩
  | 3, _ => ⟨rfl, by decide, fun r h => by cases h; rfl⟩
  | 4, _ => ⟨rfl, by decide, fun r h => by cases h; rfl⟩
  | 5, _ => ⟨rfl, by decide, fun r h => by cases h⟩
  | 6, _ => ⟨rfl, by decide, fun r h => by cases h⟩
  | 7, _ => ⟨rfl, by decide, fun r h => by cases h⟩
  | j + 8, h => absurd h (by omega)
def bf3 : List (Option (Option Nat)) := [some none, some none, some none, some none, none, none, none, none]
theorem bf3_ok : ∀ j, j < 8 → defaultValue (tyX3 j) = xv0 (bf3.getD j none) ∧ bf3.getD j none ≠ some (some 0) ∧ (∀ r, bf3.getD j none = some r → r = none)
  | 0, _ => ⟨rfl, by decide, fun r h => by cases h; rfl⟩
  | 1, _ => ⟨rfl, by decide, fun r h => by cases h; rfl⟩
  | 2, _ => ⟨rfl, by decide, fun r h => by cases h; rfl⟩
  | 3, _ => ⟨rfl, by decide, fun r h => by cases h; rfl⟩
  | 4, _ => ⟨rfl, by decide, fun r h => by cases h⟩
  | 5, _ => ⟨rfl, by decide, fun r h => by cases h⟩
  | 6, _ => ⟨rfl, by decide, fun r h => by cases h⟩
  | 7, _ => ⟨rfl, by decide, fun r h => by cases h⟩
  | j + 8, h => absurd h (by omega)
def bf4 : List (Option (Option Nat)) := [some none, none, none]
theorem bf4_ok : ∀ j, j < 3 → defaultValue (tyX4 j) = xv0 (bf4.getD j none) ∧ bf4.getD j none ≠ some (some 0) ∧ (∀ r, bf4.getD j none = some r → r = none)
  | 0, _ => ⟨rfl, by decide, fun r h => by cases h; rfl⟩
  | 1, _ => ⟨rfl, by decide, fun r h => by cases h⟩
  | 2, _ => ⟨rfl, by decide, fun r h => by cases h⟩
  | j + 3, h => absurd h (by omega)
def bf5 : List (Option (Option Nat)) := [some none, none]
theorem bf5_ok : ∀ j, j < 2 → defaultValue (tyX5 j) = xv0 (bf5.getD j none) ∧ bf5.getD j none ≠ some (some 0) ∧ (∀ r, bf5.getD j none = some r → r = none)
  | 0, _ => ⟨rfl, by decide, fun r h => by cases h; rfl⟩
  | 1, _ => ⟨rfl, by decide, fun r h => by cases h⟩
  | j + 2, h => absurd h (by omega)
def bf6 : List (Option (Option Nat)) := [some none, none]
theorem bf6_ok : ∀ j, j < 2 → defaultValue (tyX6 j) = xv0 (bf6.getD j none) ∧ bf6.getD j none ≠ some (some 0) ∧ (∀ r, bf6.getD j none = some r → r = none)
  | 0, _ => ⟨rfl, by decide, fun r h => by cases h; rfl⟩
  | 1, _ => ⟨rfl, by decide, fun r h => by cases h⟩
  | j + 2, h => absurd h (by omega)
def bf7 : List (Option (Option Nat)) := [some none, some none, some none, some none, some none, none]
theorem bf7_ok : ∀ j, j < 6 → defaultValue (tyX7 j) = xv0 (bf7.getD j none) ∧ bf7.getD j none ≠ some (some 0) ∧ (∀ r, bf7.getD j none = some r → r = none)
  | 0, _ => ⟨rfl, by decide, fun r h => by cases h; rfl⟩
  | 1, _ => ⟨rfl, by decide, fun r h => by cases h; rfl⟩
  | 2, _ => ⟨rfl, by decide, fun r h => by cases h; rfl⟩
  | 3, _ => ⟨rfl, by decide, fun r h => by cases h; rfl⟩
  | 4, _ => ⟨rfl, by decide, fun r h => by cases h; rfl⟩
  | 5, _ => ⟨rfl, by decide, fun r h => by cases h⟩
  | j + 6, h => absurd h (by omega)
def bf8 : List (Option (Option Nat)) := [some none, some none, none]
theorem bf8_ok : ∀ j, j < 3 → defaultValue (tyX8 j) = xv0 (bf8.getD j none) ∧ bf8.getD j none ≠ some (some 0) ∧ (∀ r, bf8.getD j none = some r → r = none)
  | 0, _ => ⟨rfl, by decide, fun r h => by cases h; rfl⟩
  | 1, _ => ⟨rfl, by decide, fun r h => by cases h; rfl⟩
  | 2, _ => ⟨rfl, by decide, fun r h => by cases h⟩
  | j + 3, h => absurd h (by omega)
def bf9 : List (Option (Option Nat)) := [some none, some none, some none, some none, some none, some none, some none, some none, some none, some none, some none, some none]
theorem bf9_ok : ∀ j, j < 12 → defaultValue (tyX9 j) = xv0 (bf9.getD j none) ∧ bf9.getD j none ≠ some (some 0) ∧ (∀ r, bf9.getD j none = some r → r = none)
  | 0, _ => ⟨rfl, by decide, fun r h => by cases h; rfl⟩
  | 1, _ => ⟨rfl, by decide, fun r h => by cases h; rfl⟩
  | 2, _ => ⟨rfl, by decide, fun r h => by cases h; rfl⟩
  | 3, _ => ⟨rfl, by decide, fun r h => by cases h; rfl⟩
  | 4, _ => ⟨rfl, by decide, fun r h => by cases h; rfl⟩
  | 5, _ => ⟨rfl, by decide, fun r h => by cases h; rfl⟩
  | 6, _ => ⟨rfl, by decide, fun r h => by cases h; rfl⟩
  | 7, _ => ⟨rfl, by decide, fun r h => by cases h; rfl⟩
  | 8, _ => ⟨rfl, by decide, fun r h => by cases h; rfl⟩
  | 9, _ => ⟨rfl, by decide, fun r h => by cases h; rfl⟩
  | 10, _ => ⟨rfl, by decide, fun r h => by cases h; rfl⟩
  | 11, _ => ⟨rfl, by decide, fun r h => by cases h; rfl⟩
  | j + 12, h => absurd h (by omega)
def bf10 : List (Option (Option Nat)) := [none, some none, none, some none, some none, none, some none, none, some none, some none, none, none, none, some none, none, none, none, none, some none, some none, some none, some none, none, none, some none, some none]
theorem bf10_ok : ∀ j, j < 26 → defaultValue (tyX10 j) = xv0 (bf10.getD j none) ∧ bf10.getD j none ≠ some (some 0) ∧ (∀ r, bf10.getD j none = some r → r = none)
  | 0, _ => ⟨rfl, by decide, fun r h => by cases h⟩
  | 1, _ => ⟨rfl, by decide, fun r h => by cases h; rfl⟩
  | 2, _ => ⟨rfl, by decide, fun r h => by cases h⟩
  | 3, _ => ⟨rfl, by decide, fun r h => by cases h; rfl⟩
  | 4, _ => ⟨rfl, by decide, fun r h => by cases h; rfl⟩
  | 5, _ => ⟨rfl, by decide, fun r h => by cases h⟩
  | 6, _ => ⟨rfl, by decide, fun r h => by cases h; rfl⟩
  | 7, _ => ⟨rfl, by decide, fun r h => by cases h⟩
  | 8, _ => ⟨rfl, by decide, fun r h => by cases h; rfl⟩
  | 9, _ => ⟨rfl, by decide, fun r h => by cases h; rfl⟩
  | 10, _ => ⟨rfl, by decide, fun r h => by cases h⟩
  | 11, _ => ⟨rfl, by decide, fun r h => by cases h⟩
  | 12, _ => ⟨rfl, by decide, fun r h => by cases h⟩
  | 13, _ => ⟨rfl, by decide, fun r h => by cases h; rfl⟩
  | 14, _ => ⟨rfl, by decide, fun r h => by cases h⟩
  | 15, _ => ⟨rfl, by decide, fun r h => by cases h⟩
  | 16, _ => ⟨rfl, by decide, fun r h => by cases h⟩
  | 17, _ => ⟨rfl, by decide, fun r h => by cases h⟩
  | 18, _ => ⟨rfl, by decide, fun r h => by cases h; rfl⟩
  | 19, _ => ⟨rfl, by decide, fun r h => by cases h; rfl⟩
  | 20, _ => ⟨rfl, by decide, fun r h => by cases h; rfl⟩
  | 21, _ => ⟨rfl, by decide, fun r h => by cases h; rfl⟩
  | 22, _ => ⟨rfl, by decide, fun r h => by cases h⟩
  | 23, _ => ⟨rfl, by decide, fun r h => by cases h⟩
  | 24, _ => ⟨rfl, by decide, fun r h => by cases h; rfl⟩
  | 25, _ => ⟨rfl, by decide, fun r h => by cases h; rfl⟩
  | j + 26, h => absurd h (by omega)
set_option maxRecDepth 20000 in
theorem eX0_init_7 : xNA mX0_init 7 .int 9 := ⟨by decide +kernel, rfl, xT_1 57 rfl rfl⟩
set_option maxRecDepth 20000 in
theorem eX0_init_15 : xNA mX0_init 15 .int 17 := ⟨by decide +kernel, rfl, xT_1 57 rfl rfl⟩
set_option maxRecDepth 20000 in
theorem eX0_init_22 : xNA mX0_init 22 .int 24 := ⟨by decide +kernel, rfl, xT_1 57 rfl rfl⟩
set_option maxRecDepth 20000 in
theorem eX0_init_29 : xNA mX0_init 29 .int 31 := ⟨by decide +kernel, rfl, xT_1 57 rfl rfl⟩
set_option maxRecDepth 20000 in
theorem eX1_init_10 : xNW mX1_init 10 0 13 := ⟨15, (RX0, TX0, 7), by decide +kernel, rfl, rfl, xT_2 18 rfl rfl, xT_1 115 rfl rfl, xT_1 5 rfl rfl⟩
set_option maxRecDepth 20000 in
theorem eX2_init_7 : xNA mX2_init 7 .int 9 := ⟨by decide +kernel, rfl, xT_1 57 rfl rfl⟩
set_option maxRecDepth 20000 in
theorem eX2_init_15 : xNA mX2_init 15 .int 17 := ⟨by decide +kernel, rfl, xT_1 57 rfl rfl⟩
set_option maxRecDepth 20000 in
theorem eX2_init_22 : xNA mX2_init 22 .int 24 := ⟨by decide +kernel, rfl, xT_1 57 rfl rfl⟩
set_option maxRecDepth 20000 in
theorem eX2_init_30 : xNA mX2_init 30 .int 32 := ⟨by decide +kernel, rfl, xT_1 57 rfl rfl⟩
set_option maxRecDepth 20000 in
theorem eX2_init_40 : xMA mX2_init 40 44 := ⟨24, by decide +kernel, rfl, xT_1 64 rfl rfl, xT_1 57 rfl rfl⟩
set_option maxRecDepth 20000 in
theorem eX3_init_7 : xNQ mX3_init 7 10 := ⟨9, by decide +kernel, rfl, xT_1 223 rfl rfl⟩
set_option maxRecDepth 20000 in
theorem eX3_init_16 : xNA mX3_init 16 .int 18 := ⟨by decide +kernel, rfl, xT_1 57 rfl rfl⟩
set_option maxRecDepth 20000 in
theorem eX3_init_24 : xNA mX3_init 24 .int 26 := ⟨by decide +kernel, rfl, xT_1 57 rfl rfl⟩
set_option maxRecDepth 20000 in
theorem eX3_init_50 : xNW mX3_init 50 0 53 := ⟨9, (RX0, TX0, 7), by decide +kernel, rfl, rfl, xT_1 223 rfl rfl, xT_1 115 rfl rfl, xT_1 5 rfl rfl⟩
set_option maxRecDepth 20000 in
theorem eX4_init_10 : xNQ mX4_init 10 13 := ⟨13, by decide +kernel, rfl, xT_1 159 rfl rfl⟩
set_option maxRecDepth 20000 in
theorem eX4_init_32 : xNW mX4_init 32 0 35 := ⟨13, (RX0, TX0, 7), by decide +kernel, rfl, rfl, xT_1 159 rfl rfl, xT_1 115 rfl rfl, xT_1 5 rfl rfl⟩
set_option maxRecDepth 20000 in
theorem eX5_init_6 : xNA mX5_init 6 .int 8 := ⟨by decide +kernel, rfl, xT_1 57 rfl rfl⟩
set_option maxRecDepth 20000 in
theorem eX6_init_8 : xNA mX6_init 8 .char 10 := ⟨by decide +kernel, rfl, xT_1 43 rfl rfl⟩
set_option maxRecDepth 20000 in
theorem eX7_init_8 : xNA mX7_init 8 .int 10 := ⟨by decide +kernel, rfl, xT_1 57 rfl rfl⟩
set_option maxRecDepth 20000 in
theorem eX7_init_18 : xMA mX7_init 18 22 := ⟨15, by decide +kernel, rfl, xT_1 196 rfl rfl, xT_1 57 rfl rfl⟩
set_option maxRecDepth 20000 in
theorem eX7_init_27 : xNA mX7_init 27 .int 29 := ⟨by decide +kernel, rfl, xT_1 57 rfl rfl⟩
set_option maxRecDepth 20000 in
theorem eX7_init_34 : xNA mX7_init 34 .int 36 := ⟨by decide +kernel, rfl, xT_1 57 rfl rfl⟩
set_option maxRecDepth 20000 in
theorem eX8_init_7 : xNA mX8_init 7 .int 9 := ⟨by decide +kernel, rfl, xT_1 57 rfl rfl⟩
set_option maxRecDepth 20000 in
theorem eX8_init_15 : xNA mX8_init 15 .int 17 := ⟨by decide +kernel, rfl, xT_1 57 rfl rfl⟩
set_option maxRecDepth 20000 in
theorem eX9_init_5 : xNW mX9_init 5 6 8 := ⟨9, (RX6, TX6, 2), by decide +kernel, rfl, rfl, xT_1 28 rfl rfl, xT_1 29 rfl rfl, xT_1 2 rfl rfl⟩
set_option maxRecDepth 20000 in
theorem eX9_init_16 : xNW mX9_init 16 5 19 := ⟨16, (RX5, TX5, 2), by decide +kernel, rfl, rfl, xT_1 44 rfl rfl, xT_1 45 rfl rfl, xT_1 3 rfl rfl⟩
set_option maxRecDepth 20000 in
theorem eX9_init_27 : xNW mX9_init 27 2 30 := ⟨23, (RX2, TX2, 8), by decide +kernel, rfl, rfl, xT_1 58 rfl rfl, xT_1 59 rfl rfl, xT_1 4 rfl rfl⟩
set_option maxRecDepth 20000 in
theorem eX9_init_38 : xNW mX9_init 38 2 41 := ⟨23, (RX2, TX2, 8), by decide +kernel, rfl, rfl, xT_1 58 rfl rfl, xT_1 59 rfl rfl, xT_1 4 rfl rfl⟩
set_option maxRecDepth 20000 in
theorem eX9_init_49 : xNW mX9_init 49 0 52 := ⟨33, (RX0, TX0, 7), by decide +kernel, rfl, rfl, xT_1 114 rfl rfl, xT_1 115 rfl rfl, xT_1 5 rfl rfl⟩
set_option maxRecDepth 20000 in
theorem eX9_init_64 : xNW mX9_init 64 0 67 := ⟨33, (RX0, TX0, 7), by decide +kernel, rfl, rfl, xT_1 114 rfl rfl, xT_1 115 rfl rfl, xT_1 5 rfl rfl⟩
set_option maxRecDepth 20000 in
theorem eX9_init_79 : xNW mX9_init 79 4 82 := ⟨45, (RX4, TX4, 3), by decide +kernel, rfl, rfl, xT_1 150 rfl rfl, xT_1 151 rfl rfl, xT_1 6 rfl rfl⟩
set_option maxRecDepth 20000 in
theorem eX9_init_96 : xNW mX9_init 96 4 99 := ⟨45, (RX4, TX4, 3), by decide +kernel, rfl, rfl, xT_1 150 rfl rfl, xT_1 151 rfl rfl, xT_1 6 rfl rfl⟩
set_option maxRecDepth 20000 in
theorem eX9_init_112 : xNW mX9_init 112 8 115 := ⟨57, (RX8, TX8, 3), by decide +kernel, rfl, rfl, xT_1 173 rfl rfl, xT_1 174 rfl rfl, xT_1 8 rfl rfl⟩
set_option maxRecDepth 20000 in
theorem eX9_init_123 : xNW mX9_init 123 7 126 := ⟨64, (RX7, TX7, 6), by decide +kernel, rfl, rfl, xT_1 190 rfl rfl, xT_1 191 rfl rfl, xT_1 9 rfl rfl⟩
set_option maxRecDepth 20000 in
theorem eX9_init_138 : xNW mX9_init 138 3 141 := ⟨71, (RX3, TX3, 8), by decide +kernel, rfl, rfl, xT_1 217 rfl rfl, xT_1 218 rfl rfl, xT_1 10 rfl rfl⟩
set_option maxRecDepth 20000 in
theorem eX9_init_153 : xNW mX9_init 153 1 156 := ⟨78, (RX1, TX1, 4), by decide +kernel, rfl, rfl, xT_2 12 rfl rfl, xT_2 13 rfl rfl, xT_1 11 rfl rfl⟩
set_option maxRecDepth 20000 in
theorem eX10_init_7 : xNA mX10_init 7 .int 9 := ⟨by decide +kernel, rfl, xT_1 57 rfl rfl⟩
set_option maxRecDepth 20000 in
theorem eX10_init_15 : xNA mX10_init 15 .int 17 := ⟨by decide +kernel, rfl, xT_1 57 rfl rfl⟩
set_option maxRecDepth 20000 in
theorem eX10_init_23 : xNA mX10_init 23 .int 25 := ⟨by decide +kernel, rfl, xT_1 57 rfl rfl⟩
set_option maxRecDepth 20000 in
theorem eX10_init_31 : xNA mX10_init 31 .int 33 := ⟨by decide +kernel, rfl, xT_1 57 rfl rfl⟩
set_option maxRecDepth 20000 in
theorem eX10_init_39 : xNA mX10_init 39 .int 41 := ⟨by decide +kernel, rfl, xT_1 57 rfl rfl⟩
set_option maxRecDepth 20000 in
theorem eX10_init_48 : xNA mX10_init 48 .int 50 := ⟨by decide +kernel, rfl, xT_1 57 rfl rfl⟩
set_option maxRecDepth 20000 in
theorem eX10_init_57 : xNA mX10_init 57 .byte 59 := ⟨by decide +kernel, rfl, xT_2 207 rfl rfl⟩
set_option maxRecDepth 20000 in
theorem eX10_init_65 : xNA mX10_init 65 .int 67 := ⟨by decide +kernel, rfl, xT_1 57 rfl rfl⟩
set_option maxRecDepth 20000 in
theorem eX10_init_73 : xNA mX10_init 73 .int 75 := ⟨by decide +kernel, rfl, xT_1 57 rfl rfl⟩
set_option maxRecDepth 20000 in
theorem eX10_init_82 : xNA mX10_init 82 .int 84 := ⟨by decide +kernel, rfl, xT_1 57 rfl rfl⟩
set_option maxRecDepth 20000 in
theorem eX10_init_91 : xNA mX10_init 91 .int 93 := ⟨by decide +kernel, rfl, xT_1 57 rfl rfl⟩
set_option maxRecDepth 20000 in
theorem eX10_init_99 : xNA mX10_init 99 .int 101 := ⟨by decide +kernel, rfl, xT_1 57 rfl rfl⟩
set_option maxRecDepth 20000 in
theorem eX10_init_107 : xNA mX10_init 107 .int 109 := ⟨by decide +kernel, rfl, xT_1 57 rfl rfl⟩
set_option maxRecDepth 20000 in
theorem eL_0 : xNW mL 0 9 3 := ⟨7, (RX9, TX9, 12), by decide +kernel, rfl, rfl, xT_1 20 rfl rfl, xT_1 21 rfl rfl, xT_1 1 rfl rfl⟩
set_option maxRecDepth 20000 in
theorem eL_8 : xNW mL 8 10 11 := ⟨10, (RX10, TX10, 26), by decide +kernel, rfl, rfl, xT_4 49 rfl rfl, xT_4 50 rfl rfl, xT_1 18 rfl rfl⟩
