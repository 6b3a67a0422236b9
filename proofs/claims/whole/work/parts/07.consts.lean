theorem vc_i (x : Int32) : (Value.int x).category = 1 := rfl
theorem vc_l (x : Int64) : (Value.long x).category = 2 := rfl
theorem vc_r (x : Nat) : (Value.ref x).category = 1 := rfl
theorem vc_n : (Value.null).category = 1 := rfl
theorem bi_m2 : (Int8.ofInt (-2)).toInt32 = (-2) := by decide
theorem bi_6 : (Int8.ofInt 6).toInt32 = 6 := by decide
theorem bi_7 : (Int8.ofInt 7).toInt32 = 7 := by decide
theorem bi_8 : (Int8.ofInt 8).toInt32 = 8 := by decide
theorem bi_9 : (Int8.ofInt 9).toInt32 = 9 := by decide
theorem bi_10 : (Int8.ofInt 10).toInt32 = 10 := by decide
theorem bi_11 : (Int8.ofInt 11).toInt32 = 11 := by decide
theorem bi_12 : (Int8.ofInt 12).toInt32 = 12 := by decide
theorem bi_13 : (Int8.ofInt 13).toInt32 = 13 := by decide
theorem bi_14 : (Int8.ofInt 14).toInt32 = 14 := by decide
theorem bi_15 : (Int8.ofInt 15).toInt32 = 15 := by decide
theorem bi_16 : (Int8.ofInt 16).toInt32 = 16 := by decide
theorem bi_22 : (Int8.ofInt 22).toInt32 = 22 := by decide
theorem bi_24 : (Int8.ofInt 24).toInt32 = 24 := by decide
theorem bi_26 : (Int8.ofInt 26).toInt32 = 26 := by decide
theorem bi_30 : (Int8.ofInt 30).toInt32 = 30 := by decide
theorem bi_32 : (Int8.ofInt 32).toInt32 = 32 := by decide
theorem bi_40 : (Int8.ofInt 40).toInt32 = 40 := by decide
theorem bi_48 : (Int8.ofInt 48).toInt32 = 48 := by decide
theorem bi_50 : (Int8.ofInt 50).toInt32 = 50 := by decide
theorem bi_56 : (Int8.ofInt 56).toInt32 = 56 := by decide
theorem bi_60 : (Int8.ofInt 60).toInt32 = 60 := by decide
theorem bi_61 : (Int8.ofInt 61).toInt32 = 61 := by decide
theorem bi_63 : (Int8.ofInt 63).toInt32 = 63 := by decide
theorem bi_80 : (Int8.ofInt 80).toInt32 = 80 := by decide
theorem bi_97 : (Int8.ofInt 97).toInt32 = 97 := by decide
theorem bi_122 : (Int8.ofInt 122).toInt32 = 122 := by decide
theorem bi_126 : (Int8.ofInt 126).toInt32 = 126 := by decide
theorem si_180 : (Int16.ofInt 180).toInt32 = 180 := by decide
theorem si_186 : (Int16.ofInt 186).toInt32 = 186 := by decide
theorem si_320 : (Int16.ofInt 320).toInt32 = 320 := by decide
theorem si_400 : (Int16.ofInt 400).toInt32 = 400 := by decide
theorem si_600 : (Int16.ofInt 600).toInt32 = 600 := by decide
theorem si_1023 : (Int16.ofInt 1023).toInt32 = 1023 := by decide
theorem si_6000 : (Int16.ofInt 6000).toInt32 = 6000 := by decide
theorem ic_m8 : Int32.ofInt (-8) = (-8) := by decide
theorem ic_m1 : Int32.ofInt (-1) = (-1) := by decide
theorem ic_0 : Int32.ofInt 0 = 0 := by decide
theorem ic_1 : Int32.ofInt 1 = 1 := by decide
theorem ic_2 : Int32.ofInt 2 = 2 := by decide
theorem ic_3 : Int32.ofInt 3 = 3 := by decide
theorem ic_4 : Int32.ofInt 4 = 4 := by decide
theorem ic_5 : Int32.ofInt 5 = 5 := by decide
theorem ic_10 : Int32.ofInt 10 = 10 := by decide
theorem lc_0 : Int64.ofNat (0 : Fin 2).val = 0 := by decide
theorem lc_1 : Int64.ofNat (1 : Fin 2).val = 1 := by decide
theorem tg_1_5 : gTg 1 5 = 6 := by decide
theorem tz_1_5 : (0 ≤ ((1 : Nat) : Int) + 5) = True := by decide
theorem tg_1_13 : gTg 1 13 = 14 := by decide
theorem tz_1_13 : (0 ≤ ((1 : Nat) : Int) + 13) = True := by decide
theorem tg_1_14 : gTg 1 14 = 15 := by decide
theorem tz_1_14 : (0 ≤ ((1 : Nat) : Int) + 14) = True := by decide
theorem tg_1_15 : gTg 1 15 = 16 := by decide
theorem tz_1_15 : (0 ≤ ((1 : Nat) : Int) + 15) = True := by decide
theorem tg_1_16 : gTg 1 16 = 17 := by decide
theorem tz_1_16 : (0 ≤ ((1 : Nat) : Int) + 16) = True := by decide
theorem tg_1_17 : gTg 1 17 = 18 := by decide
theorem tz_1_17 : (0 ≤ ((1 : Nat) : Int) + 17) = True := by decide
theorem tg_1_18 : gTg 1 18 = 19 := by decide
theorem tz_1_18 : (0 ≤ ((1 : Nat) : Int) + 18) = True := by decide
theorem tg_1_21 : gTg 1 21 = 22 := by decide
theorem tz_1_21 : (0 ≤ ((1 : Nat) : Int) + 21) = True := by decide
theorem tg_1_26 : gTg 1 26 = 27 := by decide
theorem tz_1_26 : (0 ≤ ((1 : Nat) : Int) + 26) = True := by decide
theorem tg_1_27 : gTg 1 27 = 28 := by decide
theorem tz_1_27 : (0 ≤ ((1 : Nat) : Int) + 27) = True := by decide
theorem tg_1_29 : gTg 1 29 = 30 := by decide
theorem tz_1_29 : (0 ≤ ((1 : Nat) : Int) + 29) = True := by decide
theorem tg_1_31 : gTg 1 31 = 32 := by decide
theorem tz_1_31 : (0 ≤ ((1 : Nat) : Int) + 31) = True := by decide
theorem tg_1_32 : gTg 1 32 = 33 := by decide
theorem tz_1_32 : (0 ≤ ((1 : Nat) : Int) + 32) = True := by decide
theorem tg_1_33 : gTg 1 33 = 34 := by decide
theorem tz_1_33 : (0 ≤ ((1 : Nat) : Int) + 33) = True := by decide
theorem tg_1_35 : gTg 1 35 = 36 := by decide
theorem tz_1_35 : (0 ≤ ((1 : Nat) : Int) + 35) = True := by decide
theorem tg_1_37 : gTg 1 37 = 38 := by decide
theorem tz_1_37 : (0 ≤ ((1 : Nat) : Int) + 37) = True := by decide
theorem tg_1_39 : gTg 1 39 = 40 := by decide
theorem tz_1_39 : (0 ≤ ((1 : Nat) : Int) + 39) = True := by decide
theorem tg_1_45 : gTg 1 45 = 46 := by decide
theorem tz_1_45 : (0 ≤ ((1 : Nat) : Int) + 45) = True := by decide
theorem tg_1_47 : gTg 1 47 = 48 := by decide
theorem tz_1_47 : (0 ≤ ((1 : Nat) : Int) + 47) = True := by decide
theorem tg_1_51 : gTg 1 51 = 52 := by decide
theorem tz_1_51 : (0 ≤ ((1 : Nat) : Int) + 51) = True := by decide
theorem tg_1_55 : gTg 1 55 = 56 := by decide
theorem tz_1_55 : (0 ≤ ((1 : Nat) : Int) + 55) = True := by decide
theorem tg_1_57 : gTg 1 57 = 58 := by decide
theorem tz_1_57 : (0 ≤ ((1 : Nat) : Int) + 57) = True := by decide
theorem tg_1_62 : gTg 1 62 = 63 := by decide
theorem tz_1_62 : (0 ≤ ((1 : Nat) : Int) + 62) = True := by decide
theorem tg_1_68 : gTg 1 68 = 69 := by decide
theorem tz_1_68 : (0 ≤ ((1 : Nat) : Int) + 68) = True := by decide
theorem tg_1_73 : gTg 1 73 = 74 := by decide
theorem tz_1_73 : (0 ≤ ((1 : Nat) : Int) + 73) = True := by decide
theorem tg_1_84 : gTg 1 84 = 85 := by decide
theorem tz_1_84 : (0 ≤ ((1 : Nat) : Int) + 84) = True := by decide
theorem tg_1_104 : gTg 1 104 = 105 := by decide
theorem tz_1_104 : (0 ≤ ((1 : Nat) : Int) + 104) = True := by decide
theorem tg_1_124 : gTg 1 124 = 125 := by decide
theorem tz_1_124 : (0 ≤ ((1 : Nat) : Int) + 124) = True := by decide
theorem tg_1_126 : gTg 1 126 = 127 := by decide
theorem tz_1_126 : (0 ≤ ((1 : Nat) : Int) + 126) = True := by decide
theorem tg_1_152 : gTg 1 152 = 153 := by decide
theorem tz_1_152 : (0 ≤ ((1 : Nat) : Int) + 152) = True := by decide
theorem tg_1_154 : gTg 1 154 = 155 := by decide
theorem tz_1_154 : (0 ≤ ((1 : Nat) : Int) + 154) = True := by decide
theorem tg_1_163 : gTg 1 163 = 164 := by decide
theorem tz_1_163 : (0 ≤ ((1 : Nat) : Int) + 163) = True := by decide
theorem tg_1_166 : gTg 1 166 = 167 := by decide
theorem tz_1_166 : (0 ≤ ((1 : Nat) : Int) + 166) = True := by decide
theorem tg_1_180 : gTg 1 180 = 181 := by decide
theorem tz_1_180 : (0 ≤ ((1 : Nat) : Int) + 180) = True := by decide
theorem tg_1_183 : gTg 1 183 = 184 := by decide
theorem tz_1_183 : (0 ≤ ((1 : Nat) : Int) + 183) = True := by decide
theorem tg_1_210 : gTg 1 210 = 211 := by decide
theorem tz_1_210 : (0 ≤ ((1 : Nat) : Int) + 210) = True := by decide
theorem tg_1_213 : gTg 1 213 = 214 := by decide
theorem tz_1_213 : (0 ≤ ((1 : Nat) : Int) + 213) = True := by decide
theorem tg_2_7 : gTg 2 7 = 9 := by decide
theorem tz_2_7 : (0 ≤ ((2 : Nat) : Int) + 7) = True := by decide
theorem tg_2_9 : gTg 2 9 = 11 := by decide
theorem tz_2_9 : (0 ≤ ((2 : Nat) : Int) + 9) = True := by decide
theorem tg_2_11 : gTg 2 11 = 13 := by decide
theorem tz_2_11 : (0 ≤ ((2 : Nat) : Int) + 11) = True := by decide
theorem tg_2_17 : gTg 2 17 = 19 := by decide
theorem tz_2_17 : (0 ≤ ((2 : Nat) : Int) + 17) = True := by decide
theorem tg_2_19 : gTg 2 19 = 21 := by decide
theorem tz_2_19 : (0 ≤ ((2 : Nat) : Int) + 19) = True := by decide
theorem tg_3_5 : gTg 3 5 = 8 := by decide
theorem tz_3_5 : (0 ≤ ((3 : Nat) : Int) + 5) = True := by decide
theorem tg_3_9 : gTg 3 9 = 12 := by decide
theorem tz_3_9 : (0 ≤ ((3 : Nat) : Int) + 9) = True := by decide
theorem tg_3_11 : gTg 3 11 = 14 := by decide
theorem tz_3_11 : (0 ≤ ((3 : Nat) : Int) + 11) = True := by decide
theorem tg_3_12 : gTg 3 12 = 15 := by decide
theorem tz_3_12 : (0 ≤ ((3 : Nat) : Int) + 12) = True := by decide
theorem tg_3_19 : gTg 3 19 = 22 := by decide
theorem tz_3_19 : (0 ≤ ((3 : Nat) : Int) + 19) = True := by decide
theorem tg_3_29 : gTg 3 29 = 32 := by decide
theorem tz_3_29 : (0 ≤ ((3 : Nat) : Int) + 29) = True := by decide
theorem tg_4_9 : gTg 4 9 = 13 := by decide
theorem tz_4_9 : (0 ≤ ((4 : Nat) : Int) + 9) = True := by decide
theorem tg_4_16 : gTg 4 16 = 20 := by decide
theorem tz_4_16 : (0 ≤ ((4 : Nat) : Int) + 16) = True := by decide
theorem tg_4_24 : gTg 4 24 = 28 := by decide
theorem tz_4_24 : (0 ≤ ((4 : Nat) : Int) + 24) = True := by decide
theorem tg_4_29 : gTg 4 29 = 33 := by decide
theorem tz_4_29 : (0 ≤ ((4 : Nat) : Int) + 29) = True := by decide
theorem tg_5_4 : gTg 5 4 = 9 := by decide
theorem tz_5_4 : (0 ≤ ((5 : Nat) : Int) + 4) = True := by decide
theorem tg_5_5 : gTg 5 5 = 10 := by decide
theorem tz_5_5 : (0 ≤ ((5 : Nat) : Int) + 5) = True := by decide
theorem tg_5_7 : gTg 5 7 = 12 := by decide
theorem tz_5_7 : (0 ≤ ((5 : Nat) : Int) + 7) = True := by decide
theorem tg_5_9 : gTg 5 9 = 14 := by decide
theorem tz_5_9 : (0 ≤ ((5 : Nat) : Int) + 9) = True := by decide
theorem tg_5_15 : gTg 5 15 = 20 := by decide
theorem tz_5_15 : (0 ≤ ((5 : Nat) : Int) + 15) = True := by decide
theorem tg_5_19 : gTg 5 19 = 24 := by decide
theorem tz_5_19 : (0 ≤ ((5 : Nat) : Int) + 19) = True := by decide
theorem tg_5_28 : gTg 5 28 = 33 := by decide
theorem tz_5_28 : (0 ≤ ((5 : Nat) : Int) + 28) = True := by decide
theorem tg_5_73 : gTg 5 73 = 78 := by decide
theorem tz_5_73 : (0 ≤ ((5 : Nat) : Int) + 73) = True := by decide
theorem tg_6_4 : gTg 6 4 = 10 := by decide
theorem tz_6_4 : (0 ≤ ((6 : Nat) : Int) + 4) = True := by decide
theorem tg_6_7 : gTg 6 7 = 13 := by decide
theorem tz_6_7 : (0 ≤ ((6 : Nat) : Int) + 7) = True := by decide
theorem tg_6_11 : gTg 6 11 = 17 := by decide
theorem tz_6_11 : (0 ≤ ((6 : Nat) : Int) + 11) = True := by decide
theorem tg_6_12 : gTg 6 12 = 18 := by decide
theorem tz_6_12 : (0 ≤ ((6 : Nat) : Int) + 12) = True := by decide
theorem tg_6_17 : gTg 6 17 = 23 := by decide
theorem tz_6_17 : (0 ≤ ((6 : Nat) : Int) + 17) = True := by decide
theorem tg_6_18 : gTg 6 18 = 24 := by decide
theorem tz_6_18 : (0 ≤ ((6 : Nat) : Int) + 18) = True := by decide
theorem tg_6_20 : gTg 6 20 = 26 := by decide
theorem tz_6_20 : (0 ≤ ((6 : Nat) : Int) + 20) = True := by decide
theorem tg_6_23 : gTg 6 23 = 29 := by decide
theorem tz_6_23 : (0 ≤ ((6 : Nat) : Int) + 23) = True := by decide
theorem tg_6_26 : gTg 6 26 = 32 := by decide
theorem tz_6_26 : (0 ≤ ((6 : Nat) : Int) + 26) = True := by decide
theorem tg_6_31 : gTg 6 31 = 37 := by decide
theorem tz_6_31 : (0 ≤ ((6 : Nat) : Int) + 31) = True := by decide
theorem tg_6_36 : gTg 6 36 = 42 := by decide
theorem tz_6_36 : (0 ≤ ((6 : Nat) : Int) + 36) = True := by decide
theorem tg_6_41 : gTg 6 41 = 47 := by decide
theorem tz_6_41 : (0 ≤ ((6 : Nat) : Int) + 41) = True := by decide
theorem tg_6_54 : gTg 6 54 = 60 := by decide
theorem tz_6_54 : (0 ≤ ((6 : Nat) : Int) + 54) = True := by decide
theorem tg_6_65 : gTg 6 65 = 71 := by decide
theorem tz_6_65 : (0 ≤ ((6 : Nat) : Int) + 65) = True := by decide
theorem tg_7_13 : gTg 7 13 = 20 := by decide
theorem tz_7_13 : (0 ≤ ((7 : Nat) : Int) + 13) = True := by decide
theorem tg_7_15 : gTg 7 15 = 22 := by decide
theorem tz_7_15 : (0 ≤ ((7 : Nat) : Int) + 15) = True := by decide
theorem tg_7_21 : gTg 7 21 = 28 := by decide
theorem tz_7_21 : (0 ≤ ((7 : Nat) : Int) + 21) = True := by decide
theorem tg_7_23 : gTg 7 23 = 30 := by decide
theorem tz_7_23 : (0 ≤ ((7 : Nat) : Int) + 23) = True := by decide
theorem tg_7_28 : gTg 7 28 = 35 := by decide
theorem tz_7_28 : (0 ≤ ((7 : Nat) : Int) + 28) = True := by decide
theorem tg_7_31 : gTg 7 31 = 38 := by decide
theorem tz_7_31 : (0 ≤ ((7 : Nat) : Int) + 31) = True := by decide
theorem tg_7_58 : gTg 7 58 = 65 := by decide
theorem tz_7_58 : (0 ≤ ((7 : Nat) : Int) + 58) = True := by decide
theorem tg_7_63 : gTg 7 63 = 70 := by decide
theorem tz_7_63 : (0 ≤ ((7 : Nat) : Int) + 63) = True := by decide
theorem tg_7_70 : gTg 7 70 = 77 := by decide
theorem tz_7_70 : (0 ≤ ((7 : Nat) : Int) + 70) = True := by decide
theorem tg_7_73 : gTg 7 73 = 80 := by decide
theorem tz_7_73 : (0 ≤ ((7 : Nat) : Int) + 73) = True := by decide
theorem tg_7_100 : gTg 7 100 = 107 := by decide
theorem tz_7_100 : (0 ≤ ((7 : Nat) : Int) + 100) = True := by decide
theorem tg_8_5 : gTg 8 5 = 13 := by decide
theorem tz_8_5 : (0 ≤ ((8 : Nat) : Int) + 5) = True := by decide
theorem tg_8_7 : gTg 8 7 = 15 := by decide
theorem tz_8_7 : (0 ≤ ((8 : Nat) : Int) + 7) = True := by decide
theorem tg_8_9 : gTg 8 9 = 17 := by decide
theorem tz_8_9 : (0 ≤ ((8 : Nat) : Int) + 9) = True := by decide
theorem tg_8_13 : gTg 8 13 = 21 := by decide
theorem tz_8_13 : (0 ≤ ((8 : Nat) : Int) + 13) = True := by decide
theorem tg_8_22 : gTg 8 22 = 30 := by decide
theorem tz_8_22 : (0 ≤ ((8 : Nat) : Int) + 22) = True := by decide
theorem tg_8_25 : gTg 8 25 = 33 := by decide
theorem tz_8_25 : (0 ≤ ((8 : Nat) : Int) + 25) = True := by decide
theorem tg_8_30 : gTg 8 30 = 38 := by decide
theorem tz_8_30 : (0 ≤ ((8 : Nat) : Int) + 30) = True := by decide
theorem tg_8_40 : gTg 8 40 = 48 := by decide
theorem tz_8_40 : (0 ≤ ((8 : Nat) : Int) + 40) = True := by decide
theorem tg_8_53 : gTg 8 53 = 61 := by decide
theorem tz_8_53 : (0 ≤ ((8 : Nat) : Int) + 53) = True := by decide
theorem tg_8_54 : gTg 8 54 = 62 := by decide
theorem tz_8_54 : (0 ≤ ((8 : Nat) : Int) + 54) = True := by decide
theorem tg_9_4 : gTg 9 4 = 13 := by decide
theorem tz_9_4 : (0 ≤ ((9 : Nat) : Int) + 4) = True := by decide
theorem tg_9_7 : gTg 9 7 = 16 := by decide
theorem tz_9_7 : (0 ≤ ((9 : Nat) : Int) + 7) = True := by decide
theorem tg_9_10 : gTg 9 10 = 19 := by decide
theorem tz_9_10 : (0 ≤ ((9 : Nat) : Int) + 10) = True := by decide
theorem tg_9_13 : gTg 9 13 = 22 := by decide
theorem tz_9_13 : (0 ≤ ((9 : Nat) : Int) + 13) = True := by decide
theorem tg_9_14 : gTg 9 14 = 23 := by decide
theorem tz_9_14 : (0 ≤ ((9 : Nat) : Int) + 14) = True := by decide
theorem tg_9_16 : gTg 9 16 = 25 := by decide
theorem tz_9_16 : (0 ≤ ((9 : Nat) : Int) + 16) = True := by decide
theorem tg_9_30 : gTg 9 30 = 39 := by decide
theorem tz_9_30 : (0 ≤ ((9 : Nat) : Int) + 30) = True := by decide
theorem tg_9_33 : gTg 9 33 = 42 := by decide
theorem tz_9_33 : (0 ≤ ((9 : Nat) : Int) + 33) = True := by decide
theorem tg_9_43 : gTg 9 43 = 52 := by decide
theorem tz_9_43 : (0 ≤ ((9 : Nat) : Int) + 43) = True := by decide
theorem tg_9_61 : gTg 9 61 = 70 := by decide
theorem tz_9_61 : (0 ≤ ((9 : Nat) : Int) + 61) = True := by decide
theorem tg_9_108 : gTg 9 108 = 117 := by decide
theorem tz_9_108 : (0 ≤ ((9 : Nat) : Int) + 108) = True := by decide
theorem tg_9_173 : gTg 9 173 = 182 := by decide
theorem tz_9_173 : (0 ≤ ((9 : Nat) : Int) + 173) = True := by decide
theorem tg_10_4 : gTg 10 4 = 14 := by decide
theorem tz_10_4 : (0 ≤ ((10 : Nat) : Int) + 4) = True := by decide
theorem tg_10_7 : gTg 10 7 = 17 := by decide
theorem tz_10_7 : (0 ≤ ((10 : Nat) : Int) + 7) = True := by decide
theorem tg_10_8 : gTg 10 8 = 18 := by decide
theorem tz_10_8 : (0 ≤ ((10 : Nat) : Int) + 8) = True := by decide
theorem tg_10_13 : gTg 10 13 = 23 := by decide
theorem tz_10_13 : (0 ≤ ((10 : Nat) : Int) + 13) = True := by decide
theorem tg_10_15 : gTg 10 15 = 25 := by decide
theorem tz_10_15 : (0 ≤ ((10 : Nat) : Int) + 15) = True := by decide
theorem tg_10_23 : gTg 10 23 = 33 := by decide
theorem tz_10_23 : (0 ≤ ((10 : Nat) : Int) + 23) = True := by decide
theorem tg_10_38 : gTg 10 38 = 48 := by decide
theorem tz_10_38 : (0 ≤ ((10 : Nat) : Int) + 38) = True := by decide
theorem tg_10_78 : gTg 10 78 = 88 := by decide
theorem tz_10_78 : (0 ≤ ((10 : Nat) : Int) + 78) = True := by decide
theorem tg_10_89 : gTg 10 89 = 99 := by decide
theorem tz_10_89 : (0 ≤ ((10 : Nat) : Int) + 89) = True := by decide
theorem tg_10_184 : gTg 10 184 = 194 := by decide
theorem tz_10_184 : (0 ≤ ((10 : Nat) : Int) + 184) = True := by decide
theorem tg_11_5 : gTg 11 5 = 16 := by decide
theorem tz_11_5 : (0 ≤ ((11 : Nat) : Int) + 5) = True := by decide
theorem tg_11_7 : gTg 11 7 = 18 := by decide
theorem tz_11_7 : (0 ≤ ((11 : Nat) : Int) + 7) = True := by decide
theorem tg_11_13 : gTg 11 13 = 24 := by decide
theorem tz_11_13 : (0 ≤ ((11 : Nat) : Int) + 13) = True := by decide
theorem tg_11_16 : gTg 11 16 = 27 := by decide
theorem tz_11_16 : (0 ≤ ((11 : Nat) : Int) + 16) = True := by decide
theorem tg_11_29 : gTg 11 29 = 40 := by decide
theorem tz_11_29 : (0 ≤ ((11 : Nat) : Int) + 29) = True := by decide
theorem tg_11_58 : gTg 11 58 = 69 := by decide
theorem tz_11_58 : (0 ≤ ((11 : Nat) : Int) + 58) = True := by decide
theorem tg_12_4 : gTg 12 4 = 16 := by decide
theorem tz_12_4 : (0 ≤ ((12 : Nat) : Int) + 4) = True := by decide
theorem tg_12_5 : gTg 12 5 = 17 := by decide
theorem tz_12_5 : (0 ≤ ((12 : Nat) : Int) + 5) = True := by decide
theorem tg_12_7 : gTg 12 7 = 19 := by decide
theorem tz_12_7 : (0 ≤ ((12 : Nat) : Int) + 7) = True := by decide
theorem tg_12_11 : gTg 12 11 = 23 := by decide
theorem tz_12_11 : (0 ≤ ((12 : Nat) : Int) + 11) = True := by decide
theorem tg_12_15 : gTg 12 15 = 27 := by decide
theorem tz_12_15 : (0 ≤ ((12 : Nat) : Int) + 15) = True := by decide
theorem tg_12_26 : gTg 12 26 = 38 := by decide
theorem tz_12_26 : (0 ≤ ((12 : Nat) : Int) + 26) = True := by decide
theorem tg_12_37 : gTg 12 37 = 49 := by decide
theorem tz_12_37 : (0 ≤ ((12 : Nat) : Int) + 37) = True := by decide
theorem tg_12_89 : gTg 12 89 = 101 := by decide
theorem tz_12_89 : (0 ≤ ((12 : Nat) : Int) + 89) = True := by decide
theorem tg_12_102 : gTg 12 102 = 114 := by decide
theorem tz_12_102 : (0 ≤ ((12 : Nat) : Int) + 102) = True := by decide
theorem tg_12_106 : gTg 12 106 = 118 := by decide
theorem tz_12_106 : (0 ≤ ((12 : Nat) : Int) + 106) = True := by decide
theorem tg_13_4 : gTg 13 4 = 17 := by decide
theorem tz_13_4 : (0 ≤ ((13 : Nat) : Int) + 4) = True := by decide
theorem tg_13_7 : gTg 13 7 = 20 := by decide
theorem tz_13_7 : (0 ≤ ((13 : Nat) : Int) + 7) = True := by decide
theorem tg_13_8 : gTg 13 8 = 21 := by decide
theorem tz_13_8 : (0 ≤ ((13 : Nat) : Int) + 8) = True := by decide
theorem tg_13_9 : gTg 13 9 = 22 := by decide
theorem tz_13_9 : (0 ≤ ((13 : Nat) : Int) + 9) = True := by decide
theorem tg_13_12 : gTg 13 12 = 25 := by decide
theorem tz_13_12 : (0 ≤ ((13 : Nat) : Int) + 12) = True := by decide
theorem tg_13_13 : gTg 13 13 = 26 := by decide
theorem tz_13_13 : (0 ≤ ((13 : Nat) : Int) + 13) = True := by decide
theorem tg_13_17 : gTg 13 17 = 30 := by decide
theorem tz_13_17 : (0 ≤ ((13 : Nat) : Int) + 17) = True := by decide
theorem tg_13_34 : gTg 13 34 = 47 := by decide
theorem tz_13_34 : (0 ≤ ((13 : Nat) : Int) + 34) = True := by decide
theorem tg_13_61 : gTg 13 61 = 74 := by decide
theorem tz_13_61 : (0 ≤ ((13 : Nat) : Int) + 61) = True := by decide
theorem tg_13_80 : gTg 13 80 = 93 := by decide
theorem tz_13_80 : (0 ≤ ((13 : Nat) : Int) + 80) = True := by decide
theorem tg_14_4 : gTg 14 4 = 18 := by decide
theorem tz_14_4 : (0 ≤ ((14 : Nat) : Int) + 4) = True := by decide
theorem tg_14_7 : gTg 14 7 = 21 := by decide
theorem tz_14_7 : (0 ≤ ((14 : Nat) : Int) + 7) = True := by decide
theorem tg_14_8 : gTg 14 8 = 22 := by decide
theorem tz_14_8 : (0 ≤ ((14 : Nat) : Int) + 8) = True := by decide
theorem tg_14_9 : gTg 14 9 = 23 := by decide
theorem tz_14_9 : (0 ≤ ((14 : Nat) : Int) + 9) = True := by decide
theorem tg_14_12 : gTg 14 12 = 26 := by decide
theorem tz_14_12 : (0 ≤ ((14 : Nat) : Int) + 12) = True := by decide
theorem tg_14_18 : gTg 14 18 = 32 := by decide
theorem tz_14_18 : (0 ≤ ((14 : Nat) : Int) + 18) = True := by decide
theorem tg_14_57 : gTg 14 57 = 71 := by decide
theorem tz_14_57 : (0 ≤ ((14 : Nat) : Int) + 57) = True := by decide
theorem tg_15_4 : gTg 15 4 = 19 := by decide
theorem tz_15_4 : (0 ≤ ((15 : Nat) : Int) + 4) = True := by decide
theorem tg_15_6 : gTg 15 6 = 21 := by decide
theorem tz_15_6 : (0 ≤ ((15 : Nat) : Int) + 6) = True := by decide
theorem tg_15_7 : gTg 15 7 = 22 := by decide
theorem tz_15_7 : (0 ≤ ((15 : Nat) : Int) + 7) = True := by decide
theorem tg_15_9 : gTg 15 9 = 24 := by decide
theorem tz_15_9 : (0 ≤ ((15 : Nat) : Int) + 9) = True := by decide
theorem tg_15_18 : gTg 15 18 = 33 := by decide
theorem tz_15_18 : (0 ≤ ((15 : Nat) : Int) + 18) = True := by decide
theorem tg_15_61 : gTg 15 61 = 76 := by decide
theorem tz_15_61 : (0 ≤ ((15 : Nat) : Int) + 61) = True := by decide
theorem tg_16_4 : gTg 16 4 = 20 := by decide
theorem tz_16_4 : (0 ≤ ((16 : Nat) : Int) + 4) = True := by decide
theorem tg_16_7 : gTg 16 7 = 23 := by decide
theorem tz_16_7 : (0 ≤ ((16 : Nat) : Int) + 7) = True := by decide
theorem tg_16_9 : gTg 16 9 = 25 := by decide
theorem tz_16_9 : (0 ≤ ((16 : Nat) : Int) + 9) = True := by decide
theorem tg_16_12 : gTg 16 12 = 28 := by decide
theorem tz_16_12 : (0 ≤ ((16 : Nat) : Int) + 12) = True := by decide
theorem tg_16_22 : gTg 16 22 = 38 := by decide
theorem tz_16_22 : (0 ≤ ((16 : Nat) : Int) + 22) = True := by decide
theorem tg_16_38 : gTg 16 38 = 54 := by decide
theorem tz_16_38 : (0 ≤ ((16 : Nat) : Int) + 38) = True := by decide
theorem tg_16_55 : gTg 16 55 = 71 := by decide
theorem tz_16_55 : (0 ≤ ((16 : Nat) : Int) + 55) = True := by decide
theorem tg_16_97 : gTg 16 97 = 113 := by decide
theorem tz_16_97 : (0 ≤ ((16 : Nat) : Int) + 97) = True := by decide
theorem tg_17_4 : gTg 17 4 = 21 := by decide
theorem tz_17_4 : (0 ≤ ((17 : Nat) : Int) + 4) = True := by decide
theorem tg_17_5 : gTg 17 5 = 22 := by decide
theorem tz_17_5 : (0 ≤ ((17 : Nat) : Int) + 5) = True := by decide
theorem tg_17_7 : gTg 17 7 = 24 := by decide
theorem tz_17_7 : (0 ≤ ((17 : Nat) : Int) + 7) = True := by decide
theorem tg_17_20 : gTg 17 20 = 37 := by decide
theorem tz_17_20 : (0 ≤ ((17 : Nat) : Int) + 20) = True := by decide
theorem tg_17_28 : gTg 17 28 = 45 := by decide
theorem tz_17_28 : (0 ≤ ((17 : Nat) : Int) + 28) = True := by decide
theorem tg_17_30 : gTg 17 30 = 47 := by decide
theorem tz_17_30 : (0 ≤ ((17 : Nat) : Int) + 30) = True := by decide
theorem tg_17_77 : gTg 17 77 = 94 := by decide
theorem tz_17_77 : (0 ≤ ((17 : Nat) : Int) + 77) = True := by decide
theorem tg_17_91 : gTg 17 91 = 108 := by decide
theorem tz_17_91 : (0 ≤ ((17 : Nat) : Int) + 91) = True := by decide
theorem tg_18_4 : gTg 18 4 = 22 := by decide
theorem tz_18_4 : (0 ≤ ((18 : Nat) : Int) + 4) = True := by decide
theorem tg_18_5 : gTg 18 5 = 23 := by decide
theorem tz_18_5 : (0 ≤ ((18 : Nat) : Int) + 5) = True := by decide
theorem tg_18_7 : gTg 18 7 = 25 := by decide
theorem tz_18_7 : (0 ≤ ((18 : Nat) : Int) + 7) = True := by decide
theorem tg_18_8 : gTg 18 8 = 26 := by decide
theorem tz_18_8 : (0 ≤ ((18 : Nat) : Int) + 8) = True := by decide
theorem tg_18_9 : gTg 18 9 = 27 := by decide
theorem tz_18_9 : (0 ≤ ((18 : Nat) : Int) + 9) = True := by decide
theorem tg_18_13 : gTg 18 13 = 31 := by decide
theorem tz_18_13 : (0 ≤ ((18 : Nat) : Int) + 13) = True := by decide
theorem tg_18_23 : gTg 18 23 = 41 := by decide
theorem tz_18_23 : (0 ≤ ((18 : Nat) : Int) + 23) = True := by decide
theorem tg_18_30 : gTg 18 30 = 48 := by decide
theorem tz_18_30 : (0 ≤ ((18 : Nat) : Int) + 30) = True := by decide
theorem tg_18_33 : gTg 18 33 = 51 := by decide
theorem tz_18_33 : (0 ≤ ((18 : Nat) : Int) + 33) = True := by decide
theorem tg_18_40 : gTg 18 40 = 58 := by decide
theorem tz_18_40 : (0 ≤ ((18 : Nat) : Int) + 40) = True := by decide
theorem tg_18_50 : gTg 18 50 = 68 := by decide
theorem tz_18_50 : (0 ≤ ((18 : Nat) : Int) + 50) = True := by decide
theorem tg_18_60 : gTg 18 60 = 78 := by decide
theorem tz_18_60 : (0 ≤ ((18 : Nat) : Int) + 60) = True := by decide
theorem tg_18_64 : gTg 18 64 = 82 := by decide
theorem tz_18_64 : (0 ≤ ((18 : Nat) : Int) + 64) = True := by decide
theorem tg_18_70 : gTg 18 70 = 88 := by decide
theorem tz_18_70 : (0 ≤ ((18 : Nat) : Int) + 70) = True := by decide
theorem tg_19_4 : gTg 19 4 = 23 := by decide
theorem tz_19_4 : (0 ≤ ((19 : Nat) : Int) + 4) = True := by decide
theorem tg_19_5 : gTg 19 5 = 24 := by decide
theorem tz_19_5 : (0 ≤ ((19 : Nat) : Int) + 5) = True := by decide
theorem tg_19_6 : gTg 19 6 = 25 := by decide
theorem tz_19_6 : (0 ≤ ((19 : Nat) : Int) + 6) = True := by decide
theorem tg_19_7 : gTg 19 7 = 26 := by decide
theorem tz_19_7 : (0 ≤ ((19 : Nat) : Int) + 7) = True := by decide
theorem tg_19_11 : gTg 19 11 = 30 := by decide
theorem tz_19_11 : (0 ≤ ((19 : Nat) : Int) + 11) = True := by decide
theorem tg_19_14 : gTg 19 14 = 33 := by decide
theorem tz_19_14 : (0 ≤ ((19 : Nat) : Int) + 14) = True := by decide
theorem tg_19_74 : gTg 19 74 = 93 := by decide
theorem tz_19_74 : (0 ≤ ((19 : Nat) : Int) + 74) = True := by decide
theorem tg_20_m16 : gTg 20 (-16) = 4 := by decide
theorem tz_20_m16 : (0 ≤ ((20 : Nat) : Int) + (-16)) = True := by decide
theorem tg_20_5 : gTg 20 5 = 25 := by decide
theorem tz_20_5 : (0 ≤ ((20 : Nat) : Int) + 5) = True := by decide
theorem tg_20_13 : gTg 20 13 = 33 := by decide
theorem tz_20_13 : (0 ≤ ((20 : Nat) : Int) + 13) = True := by decide
theorem tg_20_22 : gTg 20 22 = 42 := by decide
theorem tz_20_22 : (0 ≤ ((20 : Nat) : Int) + 22) = True := by decide
theorem tg_20_39 : gTg 20 39 = 59 := by decide
theorem tz_20_39 : (0 ≤ ((20 : Nat) : Int) + 39) = True := by decide
theorem tg_20_40 : gTg 20 40 = 60 := by decide
theorem tz_20_40 : (0 ≤ ((20 : Nat) : Int) + 40) = True := by decide
theorem tg_20_88 : gTg 20 88 = 108 := by decide
theorem tz_20_88 : (0 ≤ ((20 : Nat) : Int) + 88) = True := by decide
theorem tg_20_169 : gTg 20 169 = 189 := by decide
theorem tz_20_169 : (0 ≤ ((20 : Nat) : Int) + 169) = True := by decide
theorem tg_21_m19 : gTg 21 (-19) = 2 := by decide
theorem tz_21_m19 : (0 ≤ ((21 : Nat) : Int) + (-19)) = True := by decide
theorem tg_21_4 : gTg 21 4 = 25 := by decide
theorem tz_21_4 : (0 ≤ ((21 : Nat) : Int) + 4) = True := by decide
theorem tg_21_7 : gTg 21 7 = 28 := by decide
theorem tz_21_7 : (0 ≤ ((21 : Nat) : Int) + 7) = True := by decide
theorem tg_21_9 : gTg 21 9 = 30 := by decide
theorem tz_21_9 : (0 ≤ ((21 : Nat) : Int) + 9) = True := by decide
theorem tg_21_36 : gTg 21 36 = 57 := by decide
theorem tz_21_36 : (0 ≤ ((21 : Nat) : Int) + 36) = True := by decide
theorem tg_21_57 : gTg 21 57 = 78 := by decide
theorem tz_21_57 : (0 ≤ ((21 : Nat) : Int) + 57) = True := by decide
theorem tg_21_155 : gTg 21 155 = 176 := by decide
theorem tz_21_155 : (0 ≤ ((21 : Nat) : Int) + 155) = True := by decide
theorem tg_22_m18 : gTg 22 (-18) = 4 := by decide
theorem tz_22_m18 : (0 ≤ ((22 : Nat) : Int) + (-18)) = True := by decide
theorem tg_22_4 : gTg 22 4 = 26 := by decide
theorem tz_22_4 : (0 ≤ ((22 : Nat) : Int) + 4) = True := by decide
theorem tg_22_5 : gTg 22 5 = 27 := by decide
theorem tz_22_5 : (0 ≤ ((22 : Nat) : Int) + 5) = True := by decide
theorem tg_22_6 : gTg 22 6 = 28 := by decide
theorem tz_22_6 : (0 ≤ ((22 : Nat) : Int) + 6) = True := by decide
theorem tg_22_7 : gTg 22 7 = 29 := by decide
theorem tz_22_7 : (0 ≤ ((22 : Nat) : Int) + 7) = True := by decide
theorem tg_22_10 : gTg 22 10 = 32 := by decide
theorem tz_22_10 : (0 ≤ ((22 : Nat) : Int) + 10) = True := by decide
theorem tg_22_13 : gTg 22 13 = 35 := by decide
theorem tz_22_13 : (0 ≤ ((22 : Nat) : Int) + 13) = True := by decide
theorem tg_22_16 : gTg 22 16 = 38 := by decide
theorem tz_22_16 : (0 ≤ ((22 : Nat) : Int) + 16) = True := by decide
theorem tg_22_17 : gTg 22 17 = 39 := by decide
theorem tz_22_17 : (0 ≤ ((22 : Nat) : Int) + 17) = True := by decide
theorem tg_22_30 : gTg 22 30 = 52 := by decide
theorem tz_22_30 : (0 ≤ ((22 : Nat) : Int) + 30) = True := by decide
theorem tg_22_43 : gTg 22 43 = 65 := by decide
theorem tz_22_43 : (0 ≤ ((22 : Nat) : Int) + 43) = True := by decide
theorem tg_22_44 : gTg 22 44 = 66 := by decide
theorem tz_22_44 : (0 ≤ ((22 : Nat) : Int) + 44) = True := by decide
theorem tg_22_48 : gTg 22 48 = 70 := by decide
theorem tz_22_48 : (0 ≤ ((22 : Nat) : Int) + 48) = True := by decide
theorem tg_22_71 : gTg 22 71 = 93 := by decide
theorem tz_22_71 : (0 ≤ ((22 : Nat) : Int) + 71) = True := by decide
theorem tg_22_96 : gTg 22 96 = 118 := by decide
theorem tz_22_96 : (0 ≤ ((22 : Nat) : Int) + 96) = True := by decide
theorem tg_23_4 : gTg 23 4 = 27 := by decide
theorem tz_23_4 : (0 ≤ ((23 : Nat) : Int) + 4) = True := by decide
theorem tg_23_7 : gTg 23 7 = 30 := by decide
theorem tz_23_7 : (0 ≤ ((23 : Nat) : Int) + 7) = True := by decide
theorem tg_23_11 : gTg 23 11 = 34 := by decide
theorem tz_23_11 : (0 ≤ ((23 : Nat) : Int) + 11) = True := by decide
theorem tg_23_24 : gTg 23 24 = 47 := by decide
theorem tz_23_24 : (0 ≤ ((23 : Nat) : Int) + 24) = True := by decide
theorem tg_23_88 : gTg 23 88 = 111 := by decide
theorem tz_23_88 : (0 ≤ ((23 : Nat) : Int) + 88) = True := by decide
theorem tg_24_4 : gTg 24 4 = 28 := by decide
theorem tz_24_4 : (0 ≤ ((24 : Nat) : Int) + 4) = True := by decide
theorem tg_24_7 : gTg 24 7 = 31 := by decide
theorem tz_24_7 : (0 ≤ ((24 : Nat) : Int) + 7) = True := by decide
theorem tg_24_18 : gTg 24 18 = 42 := by decide
theorem tz_24_18 : (0 ≤ ((24 : Nat) : Int) + 18) = True := by decide
theorem tg_24_19 : gTg 24 19 = 43 := by decide
theorem tz_24_19 : (0 ≤ ((24 : Nat) : Int) + 19) = True := by decide
theorem tg_24_40 : gTg 24 40 = 64 := by decide
theorem tz_24_40 : (0 ≤ ((24 : Nat) : Int) + 40) = True := by decide
theorem tg_24_45 : gTg 24 45 = 69 := by decide
theorem tz_24_45 : (0 ≤ ((24 : Nat) : Int) + 45) = True := by decide
theorem tg_24_50 : gTg 24 50 = 74 := by decide
theorem tz_24_50 : (0 ≤ ((24 : Nat) : Int) + 50) = True := by decide
theorem tg_24_55 : gTg 24 55 = 79 := by decide
theorem tz_24_55 : (0 ≤ ((24 : Nat) : Int) + 55) = True := by decide
theorem tg_24_60 : gTg 24 60 = 84 := by decide
theorem tz_24_60 : (0 ≤ ((24 : Nat) : Int) + 60) = True := by decide
theorem tg_24_65 : gTg 24 65 = 89 := by decide
theorem tz_24_65 : (0 ≤ ((24 : Nat) : Int) + 65) = True := by decide
theorem tg_24_70 : gTg 24 70 = 94 := by decide
theorem tz_24_70 : (0 ≤ ((24 : Nat) : Int) + 70) = True := by decide
theorem tg_24_83 : gTg 24 83 = 107 := by decide
theorem tz_24_83 : (0 ≤ ((24 : Nat) : Int) + 83) = True := by decide
theorem tg_25_m23 : gTg 25 (-23) = 2 := by decide
theorem tz_25_m23 : (0 ≤ ((25 : Nat) : Int) + (-23)) = True := by decide
theorem tg_25_6 : gTg 25 6 = 31 := by decide
theorem tz_25_6 : (0 ≤ ((25 : Nat) : Int) + 6) = True := by decide
theorem tg_25_7 : gTg 25 7 = 32 := by decide
theorem tz_25_7 : (0 ≤ ((25 : Nat) : Int) + 7) = True := by decide
theorem tg_25_8 : gTg 25 8 = 33 := by decide
theorem tz_25_8 : (0 ≤ ((25 : Nat) : Int) + 8) = True := by decide
theorem tg_25_11 : gTg 25 11 = 36 := by decide
theorem tz_25_11 : (0 ≤ ((25 : Nat) : Int) + 11) = True := by decide
theorem tg_25_14 : gTg 25 14 = 39 := by decide
theorem tz_25_14 : (0 ≤ ((25 : Nat) : Int) + 14) = True := by decide
theorem tg_25_15 : gTg 25 15 = 40 := by decide
theorem tz_25_15 : (0 ≤ ((25 : Nat) : Int) + 15) = True := by decide
theorem tg_25_16 : gTg 25 16 = 41 := by decide
theorem tz_25_16 : (0 ≤ ((25 : Nat) : Int) + 16) = True := by decide
theorem tg_25_22 : gTg 25 22 = 47 := by decide
theorem tz_25_22 : (0 ≤ ((25 : Nat) : Int) + 22) = True := by decide
theorem tg_25_27 : gTg 25 27 = 52 := by decide
theorem tz_25_27 : (0 ≤ ((25 : Nat) : Int) + 27) = True := by decide
theorem tg_26_4 : gTg 26 4 = 30 := by decide
theorem tz_26_4 : (0 ≤ ((26 : Nat) : Int) + 4) = True := by decide
theorem tg_26_7 : gTg 26 7 = 33 := by decide
theorem tz_26_7 : (0 ≤ ((26 : Nat) : Int) + 7) = True := by decide
theorem tg_26_21 : gTg 26 21 = 47 := by decide
theorem tz_26_21 : (0 ≤ ((26 : Nat) : Int) + 21) = True := by decide
theorem tg_26_27 : gTg 26 27 = 53 := by decide
theorem tz_26_27 : (0 ≤ ((26 : Nat) : Int) + 27) = True := by decide
theorem tg_26_76 : gTg 26 76 = 102 := by decide
theorem tz_26_76 : (0 ≤ ((26 : Nat) : Int) + 76) = True := by decide
theorem tg_26_88 : gTg 26 88 = 114 := by decide
theorem tz_26_88 : (0 ≤ ((26 : Nat) : Int) + 88) = True := by decide
theorem tg_27_4 : gTg 27 4 = 31 := by decide
theorem tz_27_4 : (0 ≤ ((27 : Nat) : Int) + 4) = True := by decide
theorem tg_27_5 : gTg 27 5 = 32 := by decide
theorem tz_27_5 : (0 ≤ ((27 : Nat) : Int) + 5) = True := by decide
theorem tg_27_6 : gTg 27 6 = 33 := by decide
theorem tz_27_6 : (0 ≤ ((27 : Nat) : Int) + 6) = True := by decide
theorem tg_27_13 : gTg 27 13 = 40 := by decide
theorem tz_27_13 : (0 ≤ ((27 : Nat) : Int) + 13) = True := by decide
theorem tg_27_14 : gTg 27 14 = 41 := by decide
theorem tz_27_14 : (0 ≤ ((27 : Nat) : Int) + 14) = True := by decide
theorem tg_27_16 : gTg 27 16 = 43 := by decide
theorem tz_27_16 : (0 ≤ ((27 : Nat) : Int) + 16) = True := by decide
theorem tg_27_17 : gTg 27 17 = 44 := by decide
theorem tz_27_17 : (0 ≤ ((27 : Nat) : Int) + 17) = True := by decide
theorem tg_27_19 : gTg 27 19 = 46 := by decide
theorem tz_27_19 : (0 ≤ ((27 : Nat) : Int) + 19) = True := by decide
theorem tg_27_26 : gTg 27 26 = 53 := by decide
theorem tz_27_26 : (0 ≤ ((27 : Nat) : Int) + 26) = True := by decide
theorem tg_28_4 : gTg 28 4 = 32 := by decide
theorem tz_28_4 : (0 ≤ ((28 : Nat) : Int) + 4) = True := by decide
theorem tg_28_5 : gTg 28 5 = 33 := by decide
theorem tz_28_5 : (0 ≤ ((28 : Nat) : Int) + 5) = True := by decide
theorem tg_28_10 : gTg 28 10 = 38 := by decide
theorem tz_28_10 : (0 ≤ ((28 : Nat) : Int) + 10) = True := by decide
theorem tg_28_26 : gTg 28 26 = 54 := by decide
theorem tz_28_26 : (0 ≤ ((28 : Nat) : Int) + 26) = True := by decide
theorem tg_28_73 : gTg 28 73 = 101 := by decide
theorem tz_28_73 : (0 ≤ ((28 : Nat) : Int) + 73) = True := by decide
theorem tg_29_4 : gTg 29 4 = 33 := by decide
theorem tz_29_4 : (0 ≤ ((29 : Nat) : Int) + 4) = True := by decide
theorem tg_29_5 : gTg 29 5 = 34 := by decide
theorem tz_29_5 : (0 ≤ ((29 : Nat) : Int) + 5) = True := by decide
theorem tg_29_7 : gTg 29 7 = 36 := by decide
theorem tz_29_7 : (0 ≤ ((29 : Nat) : Int) + 7) = True := by decide
theorem tg_29_49 : gTg 29 49 = 78 := by decide
theorem tz_29_49 : (0 ≤ ((29 : Nat) : Int) + 49) = True := by decide
theorem tg_29_78 : gTg 29 78 = 107 := by decide
theorem tz_29_78 : (0 ≤ ((29 : Nat) : Int) + 78) = True := by decide
theorem tg_29_159 : gTg 29 159 = 188 := by decide
theorem tz_29_159 : (0 ≤ ((29 : Nat) : Int) + 159) = True := by decide
theorem tg_30_m28 : gTg 30 (-28) = 2 := by decide
theorem tz_30_m28 : (0 ≤ ((30 : Nat) : Int) + (-28)) = True := by decide
theorem tg_30_m23 : gTg 30 (-23) = 7 := by decide
theorem tz_30_m23 : (0 ≤ ((30 : Nat) : Int) + (-23)) = True := by decide
theorem tg_30_4 : gTg 30 4 = 34 := by decide
theorem tz_30_4 : (0 ≤ ((30 : Nat) : Int) + 4) = True := by decide
theorem tg_30_5 : gTg 30 5 = 35 := by decide
theorem tz_30_5 : (0 ≤ ((30 : Nat) : Int) + 5) = True := by decide
theorem tg_30_7 : gTg 30 7 = 37 := by decide
theorem tz_30_7 : (0 ≤ ((30 : Nat) : Int) + 7) = True := by decide
theorem tg_30_12 : gTg 30 12 = 42 := by decide
theorem tz_30_12 : (0 ≤ ((30 : Nat) : Int) + 12) = True := by decide
theorem tg_30_23 : gTg 30 23 = 53 := by decide
theorem tz_30_23 : (0 ≤ ((30 : Nat) : Int) + 23) = True := by decide
theorem tg_30_33 : gTg 30 33 = 63 := by decide
theorem tz_30_33 : (0 ≤ ((30 : Nat) : Int) + 33) = True := by decide
theorem tg_31_7 : gTg 31 7 = 38 := by decide
theorem tz_31_7 : (0 ≤ ((31 : Nat) : Int) + 7) = True := by decide
theorem tg_31_10 : gTg 31 10 = 41 := by decide
theorem tz_31_10 : (0 ≤ ((31 : Nat) : Int) + 10) = True := by decide
theorem tg_31_15 : gTg 31 15 = 46 := by decide
theorem tz_31_15 : (0 ≤ ((31 : Nat) : Int) + 15) = True := by decide
theorem tg_31_29 : gTg 31 29 = 60 := by decide
theorem tz_31_29 : (0 ≤ ((31 : Nat) : Int) + 29) = True := by decide
theorem tg_31_48 : gTg 31 48 = 79 := by decide
theorem tz_31_48 : (0 ≤ ((31 : Nat) : Int) + 48) = True := by decide
theorem tg_31_145 : gTg 31 145 = 176 := by decide
theorem tz_31_145 : (0 ≤ ((31 : Nat) : Int) + 145) = True := by decide
theorem tg_32_m30 : gTg 32 (-30) = 2 := by decide
theorem tz_32_m30 : (0 ≤ ((32 : Nat) : Int) + (-30)) = True := by decide
theorem tg_32_7 : gTg 32 7 = 39 := by decide
theorem tz_32_7 : (0 ≤ ((32 : Nat) : Int) + 7) = True := by decide
theorem tg_32_9 : gTg 32 9 = 41 := by decide
theorem tz_32_9 : (0 ≤ ((32 : Nat) : Int) + 9) = True := by decide
theorem tg_32_29 : gTg 32 29 = 61 := by decide
theorem tz_32_29 : (0 ≤ ((32 : Nat) : Int) + 29) = True := by decide
theorem tg_32_39 : gTg 32 39 = 71 := by decide
theorem tz_32_39 : (0 ≤ ((32 : Nat) : Int) + 39) = True := by decide
theorem tg_32_48 : gTg 32 48 = 80 := by decide
theorem tz_32_48 : (0 ≤ ((32 : Nat) : Int) + 48) = True := by decide
theorem tg_33_7 : gTg 33 7 = 40 := by decide
theorem tz_33_7 : (0 ≤ ((33 : Nat) : Int) + 7) = True := by decide
theorem tg_33_37 : gTg 33 37 = 70 := by decide
theorem tz_33_37 : (0 ≤ ((33 : Nat) : Int) + 37) = True := by decide
theorem tg_33_102 : gTg 33 102 = 135 := by decide
theorem tz_33_102 : (0 ≤ ((33 : Nat) : Int) + 102) = True := by decide
theorem tg_34_m22 : gTg 34 (-22) = 12 := by decide
theorem tz_34_m22 : (0 ≤ ((34 : Nat) : Int) + (-22)) = True := by decide
theorem tg_34_4 : gTg 34 4 = 38 := by decide
theorem tz_34_4 : (0 ≤ ((34 : Nat) : Int) + 4) = True := by decide
theorem tg_34_5 : gTg 34 5 = 39 := by decide
theorem tz_34_5 : (0 ≤ ((34 : Nat) : Int) + 5) = True := by decide
theorem tg_34_8 : gTg 34 8 = 42 := by decide
theorem tz_34_8 : (0 ≤ ((34 : Nat) : Int) + 8) = True := by decide
theorem tg_34_13 : gTg 34 13 = 47 := by decide
theorem tz_34_13 : (0 ≤ ((34 : Nat) : Int) + 13) = True := by decide
theorem tg_34_44 : gTg 34 44 = 78 := by decide
theorem tz_34_44 : (0 ≤ ((34 : Nat) : Int) + 44) = True := by decide
theorem tg_35_m35 : gTg 35 (-35) = 0 := by decide
theorem tz_35_m35 : (0 ≤ ((35 : Nat) : Int) + (-35)) = True := by decide
theorem tg_35_m33 : gTg 35 (-33) = 2 := by decide
theorem tz_35_m33 : (0 ≤ ((35 : Nat) : Int) + (-33)) = True := by decide
theorem tg_35_4 : gTg 35 4 = 39 := by decide
theorem tz_35_4 : (0 ≤ ((35 : Nat) : Int) + 4) = True := by decide
theorem tg_35_7 : gTg 35 7 = 42 := by decide
theorem tz_35_7 : (0 ≤ ((35 : Nat) : Int) + 7) = True := by decide
theorem tg_35_17 : gTg 35 17 = 52 := by decide
theorem tz_35_17 : (0 ≤ ((35 : Nat) : Int) + 17) = True := by decide
theorem tg_35_29 : gTg 35 29 = 64 := by decide
theorem tz_35_29 : (0 ≤ ((35 : Nat) : Int) + 29) = True := by decide
theorem tg_35_94 : gTg 35 94 = 129 := by decide
theorem tz_35_94 : (0 ≤ ((35 : Nat) : Int) + 94) = True := by decide
theorem tg_36_m34 : gTg 36 (-34) = 2 := by decide
theorem tz_36_m34 : (0 ≤ ((36 : Nat) : Int) + (-34)) = True := by decide
theorem tg_36_4 : gTg 36 4 = 40 := by decide
theorem tz_36_4 : (0 ≤ ((36 : Nat) : Int) + 4) = True := by decide
theorem tg_36_6 : gTg 36 6 = 42 := by decide
theorem tz_36_6 : (0 ≤ ((36 : Nat) : Int) + 6) = True := by decide
theorem tg_36_7 : gTg 36 7 = 43 := by decide
theorem tz_36_7 : (0 ≤ ((36 : Nat) : Int) + 7) = True := by decide
theorem tg_36_11 : gTg 36 11 = 47 := by decide
theorem tz_36_11 : (0 ≤ ((36 : Nat) : Int) + 11) = True := by decide
theorem tg_36_12 : gTg 36 12 = 48 := by decide
theorem tz_36_12 : (0 ≤ ((36 : Nat) : Int) + 12) = True := by decide
theorem tg_36_18 : gTg 36 18 = 54 := by decide
theorem tz_36_18 : (0 ≤ ((36 : Nat) : Int) + 18) = True := by decide
theorem tg_36_23 : gTg 36 23 = 59 := by decide
theorem tz_36_23 : (0 ≤ ((36 : Nat) : Int) + 23) = True := by decide
theorem tg_37_m27 : gTg 37 (-27) = 10 := by decide
theorem tz_37_m27 : (0 ≤ ((37 : Nat) : Int) + (-27)) = True := by decide
theorem tg_37_4 : gTg 37 4 = 41 := by decide
theorem tz_37_4 : (0 ≤ ((37 : Nat) : Int) + 4) = True := by decide
theorem tg_37_6 : gTg 37 6 = 43 := by decide
theorem tz_37_6 : (0 ≤ ((37 : Nat) : Int) + 6) = True := by decide
theorem tg_37_10 : gTg 37 10 = 47 := by decide
theorem tz_37_10 : (0 ≤ ((37 : Nat) : Int) + 10) = True := by decide
theorem tg_37_13 : gTg 37 13 = 50 := by decide
theorem tz_37_13 : (0 ≤ ((37 : Nat) : Int) + 13) = True := by decide
theorem tg_37_65 : gTg 37 65 = 102 := by decide
theorem tz_37_65 : (0 ≤ ((37 : Nat) : Int) + 65) = True := by decide
theorem tg_38_m27 : gTg 38 (-27) = 11 := by decide
theorem tz_38_m27 : (0 ≤ ((38 : Nat) : Int) + (-27)) = True := by decide
theorem tg_38_5 : gTg 38 5 = 43 := by decide
theorem tz_38_5 : (0 ≤ ((38 : Nat) : Int) + 5) = True := by decide
theorem tg_38_18 : gTg 38 18 = 56 := by decide
theorem tz_38_18 : (0 ≤ ((38 : Nat) : Int) + 18) = True := by decide
theorem tg_38_26 : gTg 38 26 = 64 := by decide
theorem tz_38_26 : (0 ≤ ((38 : Nat) : Int) + 26) = True := by decide
theorem tg_38_27 : gTg 38 27 = 65 := by decide
theorem tz_38_27 : (0 ≤ ((38 : Nat) : Int) + 27) = True := by decide
theorem tg_39_m35 : gTg 39 (-35) = 4 := by decide
theorem tz_39_m35 : (0 ≤ ((39 : Nat) : Int) + (-35)) = True := by decide
theorem tg_39_m24 : gTg 39 (-24) = 15 := by decide
theorem tz_39_m24 : (0 ≤ ((39 : Nat) : Int) + (-24)) = True := by decide
theorem tg_39_4 : gTg 39 4 = 43 := by decide
theorem tz_39_4 : (0 ≤ ((39 : Nat) : Int) + 4) = True := by decide
theorem tg_39_12 : gTg 39 12 = 51 := by decide
theorem tz_39_12 : (0 ≤ ((39 : Nat) : Int) + 12) = True := by decide
theorem tg_39_33 : gTg 39 33 = 72 := by decide
theorem tz_39_33 : (0 ≤ ((39 : Nat) : Int) + 33) = True := by decide
theorem tg_39_68 : gTg 39 68 = 107 := by decide
theorem tz_39_68 : (0 ≤ ((39 : Nat) : Int) + 68) = True := by decide
theorem tg_39_72 : gTg 39 72 = 111 := by decide
theorem tz_39_72 : (0 ≤ ((39 : Nat) : Int) + 72) = True := by decide
theorem tg_40_m15 : gTg 40 (-15) = 25 := by decide
theorem tz_40_m15 : (0 ≤ ((40 : Nat) : Int) + (-15)) = True := by decide
theorem tg_40_4 : gTg 40 4 = 44 := by decide
theorem tz_40_4 : (0 ≤ ((40 : Nat) : Int) + 4) = True := by decide
theorem tg_40_6 : gTg 40 6 = 46 := by decide
theorem tz_40_6 : (0 ≤ ((40 : Nat) : Int) + 6) = True := by decide
theorem tg_40_7 : gTg 40 7 = 47 := by decide
theorem tz_40_7 : (0 ≤ ((40 : Nat) : Int) + 7) = True := by decide
theorem tg_40_13 : gTg 40 13 = 53 := by decide
theorem tz_40_13 : (0 ≤ ((40 : Nat) : Int) + 13) = True := by decide
theorem tg_40_74 : gTg 40 74 = 114 := by decide
theorem tz_40_74 : (0 ≤ ((40 : Nat) : Int) + 74) = True := by decide
theorem tg_40_142 : gTg 40 142 = 182 := by decide
theorem tz_40_142 : (0 ≤ ((40 : Nat) : Int) + 142) = True := by decide
theorem tg_41_14 : gTg 41 14 = 55 := by decide
theorem tz_41_14 : (0 ≤ ((41 : Nat) : Int) + 14) = True := by decide
theorem tg_41_19 : gTg 41 19 = 60 := by decide
theorem tz_41_19 : (0 ≤ ((41 : Nat) : Int) + 19) = True := by decide
theorem tg_41_20 : gTg 41 20 = 61 := by decide
theorem tz_41_20 : (0 ≤ ((41 : Nat) : Int) + 20) = True := by decide
theorem tg_42_m36 : gTg 42 (-36) = 6 := by decide
theorem tz_42_m36 : (0 ≤ ((42 : Nat) : Int) + (-36)) = True := by decide
theorem tg_42_5 : gTg 42 5 = 47 := by decide
theorem tz_42_5 : (0 ≤ ((42 : Nat) : Int) + 5) = True := by decide
theorem tg_42_6 : gTg 42 6 = 48 := by decide
theorem tz_42_6 : (0 ≤ ((42 : Nat) : Int) + 6) = True := by decide
theorem tg_42_54 : gTg 42 54 = 96 := by decide
theorem tz_42_54 : (0 ≤ ((42 : Nat) : Int) + 54) = True := by decide
theorem tg_43_7 : gTg 43 7 = 50 := by decide
theorem tz_43_7 : (0 ≤ ((43 : Nat) : Int) + 7) = True := by decide
theorem tg_43_11 : gTg 43 11 = 54 := by decide
theorem tz_43_11 : (0 ≤ ((43 : Nat) : Int) + 11) = True := by decide
theorem tg_43_12 : gTg 43 12 = 55 := by decide
theorem tz_43_12 : (0 ≤ ((43 : Nat) : Int) + 12) = True := by decide
theorem tg_43_19 : gTg 43 19 = 62 := by decide
theorem tz_43_19 : (0 ≤ ((43 : Nat) : Int) + 19) = True := by decide
theorem tg_43_59 : gTg 43 59 = 102 := by decide
theorem tz_43_59 : (0 ≤ ((43 : Nat) : Int) + 59) = True := by decide
theorem tg_44_m36 : gTg 44 (-36) = 8 := by decide
theorem tz_44_m36 : (0 ≤ ((44 : Nat) : Int) + (-36)) = True := by decide
theorem tg_44_m29 : gTg 44 (-29) = 15 := by decide
theorem tz_44_m29 : (0 ≤ ((44 : Nat) : Int) + (-29)) = True := by decide
theorem tg_44_m28 : gTg 44 (-28) = 16 := by decide
theorem tz_44_m28 : (0 ≤ ((44 : Nat) : Int) + (-28)) = True := by decide
theorem tg_44_m25 : gTg 44 (-25) = 19 := by decide
theorem tz_44_m25 : (0 ≤ ((44 : Nat) : Int) + (-25)) = True := by decide
theorem tg_44_6 : gTg 44 6 = 50 := by decide
theorem tz_44_6 : (0 ≤ ((44 : Nat) : Int) + 6) = True := by decide
theorem tg_44_7 : gTg 44 7 = 51 := by decide
theorem tz_44_7 : (0 ≤ ((44 : Nat) : Int) + 7) = True := by decide
theorem tg_44_10 : gTg 44 10 = 54 := by decide
theorem tz_44_10 : (0 ≤ ((44 : Nat) : Int) + 10) = True := by decide
theorem tg_44_17 : gTg 44 17 = 61 := by decide
theorem tz_44_17 : (0 ≤ ((44 : Nat) : Int) + 17) = True := by decide
theorem tg_44_22 : gTg 44 22 = 66 := by decide
theorem tz_44_22 : (0 ≤ ((44 : Nat) : Int) + 22) = True := by decide
theorem tg_44_30 : gTg 44 30 = 74 := by decide
theorem tz_44_30 : (0 ≤ ((44 : Nat) : Int) + 30) = True := by decide
theorem tg_44_34 : gTg 44 34 = 78 := by decide
theorem tz_44_34 : (0 ≤ ((44 : Nat) : Int) + 34) = True := by decide
theorem tg_45_m39 : gTg 45 (-39) = 6 := by decide
theorem tz_45_m39 : (0 ≤ ((45 : Nat) : Int) + (-39)) = True := by decide
theorem tg_45_m38 : gTg 45 (-38) = 7 := by decide
theorem tz_45_m38 : (0 ≤ ((45 : Nat) : Int) + (-38)) = True := by decide
theorem tg_45_9 : gTg 45 9 = 54 := by decide
theorem tz_45_9 : (0 ≤ ((45 : Nat) : Int) + 9) = True := by decide
theorem tg_45_12 : gTg 45 12 = 57 := by decide
theorem tz_45_12 : (0 ≤ ((45 : Nat) : Int) + 12) = True := by decide
theorem tg_45_29 : gTg 45 29 = 74 := by decide
theorem tz_45_29 : (0 ≤ ((45 : Nat) : Int) + 29) = True := by decide
theorem tg_45_43 : gTg 45 43 = 88 := by decide
theorem tz_45_43 : (0 ≤ ((45 : Nat) : Int) + 43) = True := by decide
theorem tg_45_67 : gTg 45 67 = 112 := by decide
theorem tz_45_67 : (0 ≤ ((45 : Nat) : Int) + 67) = True := by decide
theorem tg_45_109 : gTg 45 109 = 154 := by decide
theorem tz_45_109 : (0 ≤ ((45 : Nat) : Int) + 109) = True := by decide
theorem tg_45_125 : gTg 45 125 = 170 := by decide
theorem tz_45_125 : (0 ≤ ((45 : Nat) : Int) + 125) = True := by decide
theorem tg_46_7 : gTg 46 7 = 53 := by decide
theorem tz_46_7 : (0 ≤ ((46 : Nat) : Int) + 7) = True := by decide
theorem tg_46_15 : gTg 46 15 = 61 := by decide
theorem tz_46_15 : (0 ≤ ((46 : Nat) : Int) + 15) = True := by decide
theorem tg_46_16 : gTg 46 16 = 62 := by decide
theorem tz_46_16 : (0 ≤ ((46 : Nat) : Int) + 16) = True := by decide
theorem tg_46_27 : gTg 46 27 = 73 := by decide
theorem tz_46_27 : (0 ≤ ((46 : Nat) : Int) + 27) = True := by decide
theorem tg_47_4 : gTg 47 4 = 51 := by decide
theorem tz_47_4 : (0 ≤ ((47 : Nat) : Int) + 4) = True := by decide
theorem tg_47_6 : gTg 47 6 = 53 := by decide
theorem tz_47_6 : (0 ≤ ((47 : Nat) : Int) + 6) = True := by decide
theorem tg_47_7 : gTg 47 7 = 54 := by decide
theorem tz_47_7 : (0 ≤ ((47 : Nat) : Int) + 7) = True := by decide
theorem tg_47_15 : gTg 47 15 = 62 := by decide
theorem tz_47_15 : (0 ≤ ((47 : Nat) : Int) + 15) = True := by decide
theorem tg_47_18 : gTg 47 18 = 65 := by decide
theorem tz_47_18 : (0 ≤ ((47 : Nat) : Int) + 18) = True := by decide
theorem tg_47_27 : gTg 47 27 = 74 := by decide
theorem tz_47_27 : (0 ≤ ((47 : Nat) : Int) + 27) = True := by decide
theorem tg_48_5 : gTg 48 5 = 53 := by decide
theorem tz_48_5 : (0 ≤ ((48 : Nat) : Int) + 5) = True := by decide
theorem tg_48_16 : gTg 48 16 = 64 := by decide
theorem tz_48_16 : (0 ≤ ((48 : Nat) : Int) + 16) = True := by decide
theorem tg_48_48 : gTg 48 48 = 96 := by decide
theorem tz_48_48 : (0 ≤ ((48 : Nat) : Int) + 48) = True := by decide
theorem tg_49_m42 : gTg 49 (-42) = 7 := by decide
theorem tz_49_m42 : (0 ≤ ((49 : Nat) : Int) + (-42)) = True := by decide
theorem tg_49_m32 : gTg 49 (-32) = 17 := by decide
theorem tz_49_m32 : (0 ≤ ((49 : Nat) : Int) + (-32)) = True := by decide
theorem tg_49_5 : gTg 49 5 = 54 := by decide
theorem tz_49_5 : (0 ≤ ((49 : Nat) : Int) + 5) = True := by decide
theorem tg_49_7 : gTg 49 7 = 56 := by decide
theorem tz_49_7 : (0 ≤ ((49 : Nat) : Int) + 7) = True := by decide
theorem tg_49_80 : gTg 49 80 = 129 := by decide
theorem tz_49_80 : (0 ≤ ((49 : Nat) : Int) + 80) = True := by decide
theorem tg_50_4 : gTg 50 4 = 54 := by decide
theorem tz_50_4 : (0 ≤ ((50 : Nat) : Int) + 4) = True := by decide
theorem tg_50_6 : gTg 50 6 = 56 := by decide
theorem tz_50_6 : (0 ≤ ((50 : Nat) : Int) + 6) = True := by decide
theorem tg_50_15 : gTg 50 15 = 65 := by decide
theorem tz_50_15 : (0 ≤ ((50 : Nat) : Int) + 15) = True := by decide
theorem tg_50_17 : gTg 50 17 = 67 := by decide
theorem tz_50_17 : (0 ≤ ((50 : Nat) : Int) + 17) = True := by decide
theorem tg_50_20 : gTg 50 20 = 70 := by decide
theorem tz_50_20 : (0 ≤ ((50 : Nat) : Int) + 20) = True := by decide
theorem tg_50_21 : gTg 50 21 = 71 := by decide
theorem tz_50_21 : (0 ≤ ((50 : Nat) : Int) + 21) = True := by decide
theorem tg_51_m41 : gTg 51 (-41) = 10 := by decide
theorem tz_51_m41 : (0 ≤ ((51 : Nat) : Int) + (-41)) = True := by decide
theorem tg_51_m16 : gTg 51 (-16) = 35 := by decide
theorem tz_51_m16 : (0 ≤ ((51 : Nat) : Int) + (-16)) = True := by decide
theorem tg_51_6 : gTg 51 6 = 57 := by decide
theorem tz_51_6 : (0 ≤ ((51 : Nat) : Int) + 6) = True := by decide
theorem tg_51_11 : gTg 51 11 = 62 := by decide
theorem tz_51_11 : (0 ≤ ((51 : Nat) : Int) + 11) = True := by decide
theorem tg_51_21 : gTg 51 21 = 72 := by decide
theorem tz_51_21 : (0 ≤ ((51 : Nat) : Int) + 21) = True := by decide
theorem tg_51_23 : gTg 51 23 = 74 := by decide
theorem tz_51_23 : (0 ≤ ((51 : Nat) : Int) + 23) = True := by decide
theorem tg_51_63 : gTg 51 63 = 114 := by decide
theorem tz_51_63 : (0 ≤ ((51 : Nat) : Int) + 63) = True := by decide
theorem tg_51_71 : gTg 51 71 = 122 := by decide
theorem tz_51_71 : (0 ≤ ((51 : Nat) : Int) + 71) = True := by decide
theorem tg_52_4 : gTg 52 4 = 56 := by decide
theorem tz_52_4 : (0 ≤ ((52 : Nat) : Int) + 4) = True := by decide
theorem tg_52_9 : gTg 52 9 = 61 := by decide
theorem tz_52_9 : (0 ≤ ((52 : Nat) : Int) + 9) = True := by decide
theorem tg_52_14 : gTg 52 14 = 66 := by decide
theorem tz_52_14 : (0 ≤ ((52 : Nat) : Int) + 14) = True := by decide
theorem tg_52_21 : gTg 52 21 = 73 := by decide
theorem tz_52_21 : (0 ≤ ((52 : Nat) : Int) + 21) = True := by decide
theorem tg_52_22 : gTg 52 22 = 74 := by decide
theorem tz_52_22 : (0 ≤ ((52 : Nat) : Int) + 22) = True := by decide
theorem tg_52_102 : gTg 52 102 = 154 := by decide
theorem tz_52_102 : (0 ≤ ((52 : Nat) : Int) + 102) = True := by decide
theorem tg_53_4 : gTg 53 4 = 57 := by decide
theorem tz_53_4 : (0 ≤ ((53 : Nat) : Int) + 4) = True := by decide
theorem tg_53_5 : gTg 53 5 = 58 := by decide
theorem tz_53_5 : (0 ≤ ((53 : Nat) : Int) + 5) = True := by decide
theorem tg_53_9 : gTg 53 9 = 62 := by decide
theorem tz_53_9 : (0 ≤ ((53 : Nat) : Int) + 9) = True := by decide
theorem tg_53_21 : gTg 53 21 = 74 := by decide
theorem tz_53_21 : (0 ≤ ((53 : Nat) : Int) + 21) = True := by decide
theorem tg_53_41 : gTg 53 41 = 94 := by decide
theorem tz_53_41 : (0 ≤ ((53 : Nat) : Int) + 41) = True := by decide
theorem tg_53_76 : gTg 53 76 = 129 := by decide
theorem tz_53_76 : (0 ≤ ((53 : Nat) : Int) + 76) = True := by decide
theorem tg_54_m39 : gTg 54 (-39) = 15 := by decide
theorem tz_54_m39 : (0 ≤ ((54 : Nat) : Int) + (-39)) = True := by decide
theorem tg_54_7 : gTg 54 7 = 61 := by decide
theorem tz_54_7 : (0 ≤ ((54 : Nat) : Int) + 7) = True := by decide
theorem tg_54_75 : gTg 54 75 = 129 := by decide
theorem tz_54_75 : (0 ≤ ((54 : Nat) : Int) + 75) = True := by decide
theorem tg_55_6 : gTg 55 6 = 61 := by decide
theorem tz_55_6 : (0 ≤ ((55 : Nat) : Int) + 6) = True := by decide
theorem tg_55_33 : gTg 55 33 = 88 := by decide
theorem tz_55_33 : (0 ≤ ((55 : Nat) : Int) + 33) = True := by decide
theorem tg_55_56 : gTg 55 56 = 111 := by decide
theorem tz_55_56 : (0 ≤ ((55 : Nat) : Int) + 56) = True := by decide
theorem tg_56_m44 : gTg 56 (-44) = 12 := by decide
theorem tz_56_m44 : (0 ≤ ((56 : Nat) : Int) + (-44)) = True := by decide
theorem tg_56_22 : gTg 56 22 = 78 := by decide
theorem tz_56_22 : (0 ≤ ((56 : Nat) : Int) + 22) = True := by decide
theorem tg_56_34 : gTg 56 34 = 90 := by decide
theorem tz_56_34 : (0 ≤ ((56 : Nat) : Int) + 34) = True := by decide
theorem tg_57_m42 : gTg 57 (-42) = 15 := by decide
theorem tz_57_m42 : (0 ≤ ((57 : Nat) : Int) + (-42)) = True := by decide
theorem tg_57_6 : gTg 57 6 = 63 := by decide
theorem tz_57_6 : (0 ≤ ((57 : Nat) : Int) + 6) = True := by decide
theorem tg_57_7 : gTg 57 7 = 64 := by decide
theorem tz_57_7 : (0 ≤ ((57 : Nat) : Int) + 7) = True := by decide
theorem tg_57_9 : gTg 57 9 = 66 := by decide
theorem tz_57_9 : (0 ≤ ((57 : Nat) : Int) + 9) = True := by decide
theorem tg_57_17 : gTg 57 17 = 74 := by decide
theorem tz_57_17 : (0 ≤ ((57 : Nat) : Int) + 17) = True := by decide
theorem tg_57_25 : gTg 57 25 = 82 := by decide
theorem tz_57_25 : (0 ≤ ((57 : Nat) : Int) + 25) = True := by decide
theorem tg_57_69 : gTg 57 69 = 126 := by decide
theorem tz_57_69 : (0 ≤ ((57 : Nat) : Int) + 69) = True := by decide
theorem tg_58_m53 : gTg 58 (-53) = 5 := by decide
theorem tz_58_m53 : (0 ≤ ((58 : Nat) : Int) + (-53)) = True := by decide
theorem tg_58_4 : gTg 58 4 = 62 := by decide
theorem tz_58_4 : (0 ≤ ((58 : Nat) : Int) + 4) = True := by decide
theorem tg_58_5 : gTg 58 5 = 63 := by decide
theorem tz_58_5 : (0 ≤ ((58 : Nat) : Int) + 5) = True := by decide
theorem tg_58_7 : gTg 58 7 = 65 := by decide
theorem tz_58_7 : (0 ≤ ((58 : Nat) : Int) + 7) = True := by decide
theorem tg_58_13 : gTg 58 13 = 71 := by decide
theorem tz_58_13 : (0 ≤ ((58 : Nat) : Int) + 13) = True := by decide
theorem tg_58_15 : gTg 58 15 = 73 := by decide
theorem tz_58_15 : (0 ≤ ((58 : Nat) : Int) + 15) = True := by decide
theorem tg_58_27 : gTg 58 27 = 85 := by decide
theorem tz_58_27 : (0 ≤ ((58 : Nat) : Int) + 27) = True := by decide
theorem tg_58_49 : gTg 58 49 = 107 := by decide
theorem tz_58_49 : (0 ≤ ((58 : Nat) : Int) + 49) = True := by decide
theorem tg_59_m53 : gTg 59 (-53) = 6 := by decide
theorem tz_59_m53 : (0 ≤ ((59 : Nat) : Int) + (-53)) = True := by decide
theorem tg_59_4 : gTg 59 4 = 63 := by decide
theorem tz_59_4 : (0 ≤ ((59 : Nat) : Int) + 4) = True := by decide
theorem tg_59_5 : gTg 59 5 = 64 := by decide
theorem tz_59_5 : (0 ≤ ((59 : Nat) : Int) + 5) = True := by decide
theorem tg_59_7 : gTg 59 7 = 66 := by decide
theorem tz_59_7 : (0 ≤ ((59 : Nat) : Int) + 7) = True := by decide
theorem tg_59_9 : gTg 59 9 = 68 := by decide
theorem tz_59_9 : (0 ≤ ((59 : Nat) : Int) + 9) = True := by decide
theorem tg_59_68 : gTg 59 68 = 127 := by decide
theorem tz_59_68 : (0 ≤ ((59 : Nat) : Int) + 68) = True := by decide
theorem tg_59_91 : gTg 59 91 = 150 := by decide
theorem tz_59_91 : (0 ≤ ((59 : Nat) : Int) + 91) = True := by decide
theorem tg_60_7 : gTg 60 7 = 67 := by decide
theorem tz_60_7 : (0 ≤ ((60 : Nat) : Int) + 7) = True := by decide
theorem tg_60_42 : gTg 60 42 = 102 := by decide
theorem tz_60_42 : (0 ≤ ((60 : Nat) : Int) + 42) = True := by decide
theorem tg_60_110 : gTg 60 110 = 170 := by decide
theorem tz_60_110 : (0 ≤ ((60 : Nat) : Int) + 110) = True := by decide
theorem tg_61_5 : gTg 61 5 = 66 := by decide
theorem tz_61_5 : (0 ≤ ((61 : Nat) : Int) + 5) = True := by decide
theorem tg_61_7 : gTg 61 7 = 68 := by decide
theorem tz_61_7 : (0 ≤ ((61 : Nat) : Int) + 7) = True := by decide
theorem tg_61_29 : gTg 61 29 = 90 := by decide
theorem tz_61_29 : (0 ≤ ((61 : Nat) : Int) + 29) = True := by decide
theorem tg_61_68 : gTg 61 68 = 129 := by decide
theorem tz_61_68 : (0 ≤ ((61 : Nat) : Int) + 68) = True := by decide
theorem tg_62_m60 : gTg 62 (-60) = 2 := by decide
theorem tz_62_m60 : (0 ≤ ((62 : Nat) : Int) + (-60)) = True := by decide
theorem tg_62_4 : gTg 62 4 = 66 := by decide
theorem tz_62_4 : (0 ≤ ((62 : Nat) : Int) + 4) = True := by decide
theorem tg_62_11 : gTg 62 11 = 73 := by decide
theorem tz_62_11 : (0 ≤ ((62 : Nat) : Int) + 11) = True := by decide
theorem tg_62_18 : gTg 62 18 = 80 := by decide
theorem tz_62_18 : (0 ≤ ((62 : Nat) : Int) + 18) = True := by decide
theorem tg_62_50 : gTg 62 50 = 112 := by decide
theorem tz_62_50 : (0 ≤ ((62 : Nat) : Int) + 50) = True := by decide
theorem tg_63_m45 : gTg 63 (-45) = 18 := by decide
theorem tz_63_m45 : (0 ≤ ((63 : Nat) : Int) + (-45)) = True := by decide
theorem tg_63_4 : gTg 63 4 = 67 := by decide
theorem tz_63_4 : (0 ≤ ((63 : Nat) : Int) + 4) = True := by decide
theorem tg_63_7 : gTg 63 7 = 70 := by decide
theorem tz_63_7 : (0 ≤ ((63 : Nat) : Int) + 7) = True := by decide
theorem tg_63_9 : gTg 63 9 = 72 := by decide
theorem tz_63_9 : (0 ≤ ((63 : Nat) : Int) + 9) = True := by decide
theorem tg_63_11 : gTg 63 11 = 74 := by decide
theorem tz_63_11 : (0 ≤ ((63 : Nat) : Int) + 11) = True := by decide
theorem tg_63_53 : gTg 63 53 = 116 := by decide
theorem tz_63_53 : (0 ≤ ((63 : Nat) : Int) + 53) = True := by decide
theorem tg_63_64 : gTg 63 64 = 127 := by decide
theorem tz_63_64 : (0 ≤ ((63 : Nat) : Int) + 64) = True := by decide
theorem tg_64_4 : gTg 64 4 = 68 := by decide
theorem tz_64_4 : (0 ≤ ((64 : Nat) : Int) + 4) = True := by decide
theorem tg_64_10 : gTg 64 10 = 74 := by decide
theorem tz_64_10 : (0 ≤ ((64 : Nat) : Int) + 10) = True := by decide
theorem tg_64_17 : gTg 64 17 = 81 := by decide
theorem tz_64_17 : (0 ≤ ((64 : Nat) : Int) + 17) = True := by decide
theorem tg_64_29 : gTg 64 29 = 93 := by decide
theorem tz_64_29 : (0 ≤ ((64 : Nat) : Int) + 29) = True := by decide
theorem tg_64_32 : gTg 64 32 = 96 := by decide
theorem tz_64_32 : (0 ≤ ((64 : Nat) : Int) + 32) = True := by decide
theorem tg_65_7 : gTg 65 7 = 72 := by decide
theorem tz_65_7 : (0 ≤ ((65 : Nat) : Int) + 7) = True := by decide
theorem tg_65_49 : gTg 65 49 = 114 := by decide
theorem tz_65_49 : (0 ≤ ((65 : Nat) : Int) + 49) = True := by decide
theorem tg_65_61 : gTg 65 61 = 126 := by decide
theorem tz_65_61 : (0 ≤ ((65 : Nat) : Int) + 61) = True := by decide
theorem tg_66_m57 : gTg 66 (-57) = 9 := by decide
theorem tz_66_m57 : (0 ≤ ((66 : Nat) : Int) + (-57)) = True := by decide
theorem tg_66_6 : gTg 66 6 = 72 := by decide
theorem tz_66_6 : (0 ≤ ((66 : Nat) : Int) + 6) = True := by decide
theorem tg_66_18 : gTg 66 18 = 84 := by decide
theorem tz_66_18 : (0 ≤ ((66 : Nat) : Int) + 18) = True := by decide
theorem tg_66_30 : gTg 66 30 = 96 := by decide
theorem tz_66_30 : (0 ≤ ((66 : Nat) : Int) + 30) = True := by decide
theorem tg_67_m65 : gTg 67 (-65) = 2 := by decide
theorem tz_67_m65 : (0 ≤ ((67 : Nat) : Int) + (-65)) = True := by decide
theorem tg_67_m63 : gTg 67 (-63) = 4 := by decide
theorem tz_67_m63 : (0 ≤ ((67 : Nat) : Int) + (-63)) = True := by decide
theorem tg_67_4 : gTg 67 4 = 71 := by decide
theorem tz_67_4 : (0 ≤ ((67 : Nat) : Int) + 4) = True := by decide
theorem tg_67_7 : gTg 67 7 = 74 := by decide
theorem tz_67_7 : (0 ≤ ((67 : Nat) : Int) + 7) = True := by decide
theorem tg_67_27 : gTg 67 27 = 94 := by decide
theorem tz_67_27 : (0 ≤ ((67 : Nat) : Int) + 27) = True := by decide
theorem tg_68_5 : gTg 68 5 = 73 := by decide
theorem tz_68_5 : (0 ≤ ((68 : Nat) : Int) + 5) = True := by decide
theorem tg_68_7 : gTg 68 7 = 75 := by decide
theorem tz_68_7 : (0 ≤ ((68 : Nat) : Int) + 7) = True := by decide
theorem tg_68_22 : gTg 68 22 = 90 := by decide
theorem tz_68_22 : (0 ≤ ((68 : Nat) : Int) + 22) = True := by decide
theorem tg_69_m43 : gTg 69 (-43) = 26 := by decide
theorem tz_69_m43 : (0 ≤ ((69 : Nat) : Int) + (-43)) = True := by decide
theorem tg_69_4 : gTg 69 4 = 73 := by decide
theorem tz_69_4 : (0 ≤ ((69 : Nat) : Int) + 4) = True := by decide
theorem tg_69_79 : gTg 69 79 = 148 := by decide
theorem tz_69_79 : (0 ≤ ((69 : Nat) : Int) + 79) = True := by decide
theorem tg_69_191 : gTg 69 191 = 260 := by decide
theorem tz_69_191 : (0 ≤ ((69 : Nat) : Int) + 191) = True := by decide
theorem tg_70_m21 : gTg 70 (-21) = 49 := by decide
theorem tz_70_m21 : (0 ≤ ((70 : Nat) : Int) + (-21)) = True := by decide
theorem tg_70_5 : gTg 70 5 = 75 := by decide
theorem tz_70_5 : (0 ≤ ((70 : Nat) : Int) + 5) = True := by decide
theorem tg_70_57 : gTg 70 57 = 127 := by decide
theorem tz_70_57 : (0 ≤ ((70 : Nat) : Int) + 57) = True := by decide
theorem tg_71_m60 : gTg 71 (-60) = 11 := by decide
theorem tz_71_m60 : (0 ≤ ((71 : Nat) : Int) + (-60)) = True := by decide
theorem tg_71_m33 : gTg 71 (-33) = 38 := by decide
theorem tz_71_m33 : (0 ≤ ((71 : Nat) : Int) + (-33)) = True := by decide
theorem tg_71_m27 : gTg 71 (-27) = 44 := by decide
theorem tz_71_m27 : (0 ≤ ((71 : Nat) : Int) + (-27)) = True := by decide
theorem tg_71_m22 : gTg 71 (-22) = 49 := by decide
theorem tz_71_m22 : (0 ≤ ((71 : Nat) : Int) + (-22)) = True := by decide
theorem tg_71_4 : gTg 71 4 = 75 := by decide
theorem tz_71_4 : (0 ≤ ((71 : Nat) : Int) + 4) = True := by decide
theorem tg_71_7 : gTg 71 7 = 78 := by decide
theorem tz_71_7 : (0 ≤ ((71 : Nat) : Int) + 7) = True := by decide
theorem tg_71_16 : gTg 71 16 = 87 := by decide
theorem tz_71_16 : (0 ≤ ((71 : Nat) : Int) + 16) = True := by decide
theorem tg_71_19 : gTg 71 19 = 90 := by decide
theorem tz_71_19 : (0 ≤ ((71 : Nat) : Int) + 19) = True := by decide
theorem tg_71_22 : gTg 71 22 = 93 := by decide
theorem tz_71_22 : (0 ≤ ((71 : Nat) : Int) + 22) = True := by decide
theorem tg_72_4 : gTg 72 4 = 76 := by decide
theorem tz_72_4 : (0 ≤ ((72 : Nat) : Int) + 4) = True := by decide
theorem tg_72_13 : gTg 72 13 = 85 := by decide
theorem tz_72_13 : (0 ≤ ((72 : Nat) : Int) + 13) = True := by decide
theorem tg_72_14 : gTg 72 14 = 86 := by decide
theorem tz_72_14 : (0 ≤ ((72 : Nat) : Int) + 14) = True := by decide
theorem tg_72_39 : gTg 72 39 = 111 := by decide
theorem tz_72_39 : (0 ≤ ((72 : Nat) : Int) + 39) = True := by decide
theorem tg_73_m61 : gTg 73 (-61) = 12 := by decide
theorem tz_73_m61 : (0 ≤ ((73 : Nat) : Int) + (-61)) = True := by decide
theorem tg_73_7 : gTg 73 7 = 80 := by decide
theorem tz_73_7 : (0 ≤ ((73 : Nat) : Int) + 7) = True := by decide
theorem tg_74_m71 : gTg 74 (-71) = 3 := by decide
theorem tz_74_m71 : (0 ≤ ((74 : Nat) : Int) + (-71)) = True := by decide
theorem tg_74_33 : gTg 74 33 = 107 := by decide
theorem tz_74_33 : (0 ≤ ((74 : Nat) : Int) + 33) = True := by decide
theorem tg_75_m73 : gTg 75 (-73) = 2 := by decide
theorem tz_75_m73 : (0 ≤ ((75 : Nat) : Int) + (-73)) = True := by decide
theorem tg_75_m58 : gTg 75 (-58) = 17 := by decide
theorem tz_75_m58 : (0 ≤ ((75 : Nat) : Int) + (-58)) = True := by decide
theorem tg_75_m36 : gTg 75 (-36) = 39 := by decide
theorem tz_75_m36 : (0 ≤ ((75 : Nat) : Int) + (-36)) = True := by decide
theorem tg_75_4 : gTg 75 4 = 79 := by decide
theorem tz_75_4 : (0 ≤ ((75 : Nat) : Int) + 4) = True := by decide
theorem tg_75_8 : gTg 75 8 = 83 := by decide
theorem tz_75_8 : (0 ≤ ((75 : Nat) : Int) + 8) = True := by decide
theorem tg_75_75 : gTg 75 75 = 150 := by decide
theorem tz_75_75 : (0 ≤ ((75 : Nat) : Int) + 75) = True := by decide
theorem tg_76_m51 : gTg 76 (-51) = 25 := by decide
theorem tz_76_m51 : (0 ≤ ((76 : Nat) : Int) + (-51)) = True := by decide
theorem tg_76_7 : gTg 76 7 = 83 := by decide
theorem tz_76_7 : (0 ≤ ((76 : Nat) : Int) + 7) = True := by decide
theorem tg_76_11 : gTg 76 11 = 87 := by decide
theorem tz_76_11 : (0 ≤ ((76 : Nat) : Int) + 11) = True := by decide
theorem tg_76_36 : gTg 76 36 = 112 := by decide
theorem tz_76_36 : (0 ≤ ((76 : Nat) : Int) + 36) = True := by decide
theorem tg_76_53 : gTg 76 53 = 129 := by decide
theorem tz_76_53 : (0 ≤ ((76 : Nat) : Int) + 53) = True := by decide
theorem tg_77_m75 : gTg 77 (-75) = 2 := by decide
theorem tz_77_m75 : (0 ≤ ((77 : Nat) : Int) + (-75)) = True := by decide
theorem tg_77_m46 : gTg 77 (-46) = 31 := by decide
theorem tz_77_m46 : (0 ≤ ((77 : Nat) : Int) + (-46)) = True := by decide
theorem tg_77_4 : gTg 77 4 = 81 := by decide
theorem tz_77_4 : (0 ≤ ((77 : Nat) : Int) + 4) = True := by decide
theorem tg_77_7 : gTg 77 7 = 84 := by decide
theorem tz_77_7 : (0 ≤ ((77 : Nat) : Int) + 7) = True := by decide
theorem tg_77_10 : gTg 77 10 = 87 := by decide
theorem tz_77_10 : (0 ≤ ((77 : Nat) : Int) + 10) = True := by decide
theorem tg_77_19 : gTg 77 19 = 96 := by decide
theorem tz_77_19 : (0 ≤ ((77 : Nat) : Int) + 19) = True := by decide
theorem tg_78_5 : gTg 78 5 = 83 := by decide
theorem tz_78_5 : (0 ≤ ((78 : Nat) : Int) + 5) = True := by decide
theorem tg_78_7 : gTg 78 7 = 85 := by decide
theorem tz_78_7 : (0 ≤ ((78 : Nat) : Int) + 7) = True := by decide
theorem tg_78_37 : gTg 78 37 = 115 := by decide
theorem tz_78_37 : (0 ≤ ((78 : Nat) : Int) + 37) = True := by decide
theorem tg_79_5 : gTg 79 5 = 84 := by decide
theorem tz_79_5 : (0 ≤ ((79 : Nat) : Int) + 5) = True := by decide
theorem tg_79_6 : gTg 79 6 = 85 := by decide
theorem tz_79_6 : (0 ≤ ((79 : Nat) : Int) + 6) = True := by decide
theorem tg_79_7 : gTg 79 7 = 86 := by decide
theorem tz_79_7 : (0 ≤ ((79 : Nat) : Int) + 7) = True := by decide
theorem tg_79_15 : gTg 79 15 = 94 := by decide
theorem tz_79_15 : (0 ≤ ((79 : Nat) : Int) + 15) = True := by decide
theorem tg_80_4 : gTg 80 4 = 84 := by decide
theorem tz_80_4 : (0 ≤ ((80 : Nat) : Int) + 4) = True := by decide
theorem tg_80_13 : gTg 80 13 = 93 := by decide
theorem tz_80_13 : (0 ≤ ((80 : Nat) : Int) + 13) = True := by decide
theorem tg_80_14 : gTg 80 14 = 94 := by decide
theorem tz_80_14 : (0 ≤ ((80 : Nat) : Int) + 14) = True := by decide
theorem tg_80_34 : gTg 80 34 = 114 := by decide
theorem tz_80_34 : (0 ≤ ((80 : Nat) : Int) + 34) = True := by decide
theorem tg_81_22 : gTg 81 22 = 103 := by decide
theorem tz_81_22 : (0 ≤ ((81 : Nat) : Int) + 22) = True := by decide
theorem tg_81_46 : gTg 81 46 = 127 := by decide
theorem tz_81_46 : (0 ≤ ((81 : Nat) : Int) + 46) = True := by decide
theorem tg_82_4 : gTg 82 4 = 86 := by decide
theorem tz_82_4 : (0 ≤ ((82 : Nat) : Int) + 4) = True := by decide
theorem tg_82_5 : gTg 82 5 = 87 := by decide
theorem tz_82_5 : (0 ≤ ((82 : Nat) : Int) + 5) = True := by decide
theorem tg_82_6 : gTg 82 6 = 88 := by decide
theorem tz_82_6 : (0 ≤ ((82 : Nat) : Int) + 6) = True := by decide
theorem tg_82_7 : gTg 82 7 = 89 := by decide
theorem tz_82_7 : (0 ≤ ((82 : Nat) : Int) + 7) = True := by decide
theorem tg_82_47 : gTg 82 47 = 129 := by decide
theorem tz_82_47 : (0 ≤ ((82 : Nat) : Int) + 47) = True := by decide
theorem tg_82_172 : gTg 82 172 = 254 := by decide
theorem tz_82_172 : (0 ≤ ((82 : Nat) : Int) + 172) = True := by decide
theorem tg_83_6 : gTg 83 6 = 89 := by decide
theorem tz_83_6 : (0 ≤ ((83 : Nat) : Int) + 6) = True := by decide
theorem tg_83_8 : gTg 83 8 = 91 := by decide
theorem tz_83_8 : (0 ≤ ((83 : Nat) : Int) + 8) = True := by decide
theorem tg_83_13 : gTg 83 13 = 96 := by decide
theorem tz_83_13 : (0 ≤ ((83 : Nat) : Int) + 13) = True := by decide
theorem tg_83_20 : gTg 83 20 = 103 := by decide
theorem tz_83_20 : (0 ≤ ((83 : Nat) : Int) + 20) = True := by decide
theorem tg_84_4 : gTg 84 4 = 88 := by decide
theorem tz_84_4 : (0 ≤ ((84 : Nat) : Int) + 4) = True := by decide
theorem tg_84_5 : gTg 84 5 = 89 := by decide
theorem tz_84_5 : (0 ≤ ((84 : Nat) : Int) + 5) = True := by decide
theorem tg_84_12 : gTg 84 12 = 96 := by decide
theorem tz_84_12 : (0 ≤ ((84 : Nat) : Int) + 12) = True := by decide
theorem tg_84_31 : gTg 84 31 = 115 := by decide
theorem tz_84_31 : (0 ≤ ((84 : Nat) : Int) + 31) = True := by decide
theorem tg_85_m80 : gTg 85 (-80) = 5 := by decide
theorem tz_85_m80 : (0 ≤ ((85 : Nat) : Int) + (-80)) = True := by decide
theorem tg_85_7 : gTg 85 7 = 92 := by decide
theorem tz_85_7 : (0 ≤ ((85 : Nat) : Int) + 7) = True := by decide
theorem tg_85_15 : gTg 85 15 = 100 := by decide
theorem tz_85_15 : (0 ≤ ((85 : Nat) : Int) + 15) = True := by decide
theorem tg_85_21 : gTg 85 21 = 106 := by decide
theorem tz_85_21 : (0 ≤ ((85 : Nat) : Int) + 21) = True := by decide
theorem tg_86_4 : gTg 86 4 = 90 := by decide
theorem tz_86_4 : (0 ≤ ((86 : Nat) : Int) + 4) = True := by decide
theorem tg_86_29 : gTg 86 29 = 115 := by decide
theorem tz_86_29 : (0 ≤ ((86 : Nat) : Int) + 29) = True := by decide
theorem tg_87_m38 : gTg 87 (-38) = 49 := by decide
theorem tz_87_m38 : (0 ≤ ((87 : Nat) : Int) + (-38)) = True := by decide
theorem tg_87_7 : gTg 87 7 = 94 := by decide
theorem tz_87_7 : (0 ≤ ((87 : Nat) : Int) + 7) = True := by decide
theorem tg_88_19 : gTg 88 19 = 107 := by decide
theorem tz_88_19 : (0 ≤ ((88 : Nat) : Int) + 19) = True := by decide
theorem tg_88_41 : gTg 88 41 = 129 := by decide
theorem tz_88_41 : (0 ≤ ((88 : Nat) : Int) + 41) = True := by decide
theorem tg_89_10 : gTg 89 10 = 99 := by decide
theorem tz_89_10 : (0 ≤ ((89 : Nat) : Int) + 10) = True := by decide
theorem tg_89_22 : gTg 89 22 = 111 := by decide
theorem tz_89_22 : (0 ≤ ((89 : Nat) : Int) + 22) = True := by decide
theorem tg_89_63 : gTg 89 63 = 152 := by decide
theorem tz_89_63 : (0 ≤ ((89 : Nat) : Int) + 63) = True := by decide
theorem tg_90_m80 : gTg 90 (-80) = 10 := by decide
theorem tz_90_m80 : (0 ≤ ((90 : Nat) : Int) + (-80)) = True := by decide
theorem tg_90_8 : gTg 90 8 = 98 := by decide
theorem tz_90_8 : (0 ≤ ((90 : Nat) : Int) + 8) = True := by decide
theorem tg_91_m85 : gTg 91 (-85) = 6 := by decide
theorem tz_91_m85 : (0 ≤ ((91 : Nat) : Int) + (-85)) = True := by decide
theorem tg_91_m50 : gTg 91 (-50) = 41 := by decide
theorem tz_91_m50 : (0 ≤ ((91 : Nat) : Int) + (-50)) = True := by decide
theorem tg_91_4 : gTg 91 4 = 95 := by decide
theorem tz_91_4 : (0 ≤ ((91 : Nat) : Int) + 4) = True := by decide
theorem tg_91_5 : gTg 91 5 = 96 := by decide
theorem tz_91_5 : (0 ≤ ((91 : Nat) : Int) + 5) = True := by decide
theorem tg_91_8 : gTg 91 8 = 99 := by decide
theorem tz_91_8 : (0 ≤ ((91 : Nat) : Int) + 8) = True := by decide
theorem tg_92_74 : gTg 92 74 = 166 := by decide
theorem tz_92_74 : (0 ≤ ((92 : Nat) : Int) + 74) = True := by decide
theorem tg_93_13 : gTg 93 13 = 106 := by decide
theorem tz_93_13 : (0 ≤ ((93 : Nat) : Int) + 13) = True := by decide
theorem tg_93_50 : gTg 93 50 = 143 := by decide
theorem tz_93_50 : (0 ≤ ((93 : Nat) : Int) + 50) = True := by decide
theorem tg_95_15 : gTg 95 15 = 110 := by decide
theorem tz_95_15 : (0 ≤ ((95 : Nat) : Int) + 15) = True := by decide
theorem tg_95_19 : gTg 95 19 = 114 := by decide
theorem tz_95_19 : (0 ≤ ((95 : Nat) : Int) + 19) = True := by decide
theorem tg_95_20 : gTg 95 20 = 115 := by decide
theorem tz_95_20 : (0 ≤ ((95 : Nat) : Int) + 20) = True := by decide
theorem tg_96_m90 : gTg 96 (-90) = 6 := by decide
theorem tz_96_m90 : (0 ≤ ((96 : Nat) : Int) + (-90)) = True := by decide
theorem tg_96_5 : gTg 96 5 = 101 := by decide
theorem tz_96_5 : (0 ≤ ((96 : Nat) : Int) + 5) = True := by decide
theorem tg_96_7 : gTg 96 7 = 103 := by decide
theorem tz_96_7 : (0 ≤ ((96 : Nat) : Int) + 7) = True := by decide
theorem tg_96_13 : gTg 96 13 = 109 := by decide
theorem tz_96_13 : (0 ≤ ((96 : Nat) : Int) + 13) = True := by decide
theorem tg_96_33 : gTg 96 33 = 129 := by decide
theorem tz_96_33 : (0 ≤ ((96 : Nat) : Int) + 33) = True := by decide
theorem tg_96_46 : gTg 96 46 = 142 := by decide
theorem tz_96_46 : (0 ≤ ((96 : Nat) : Int) + 46) = True := by decide
theorem tg_97_14 : gTg 97 14 = 111 := by decide
theorem tz_97_14 : (0 ≤ ((97 : Nat) : Int) + 14) = True := by decide
theorem tg_97_24 : gTg 97 24 = 121 := by decide
theorem tz_97_24 : (0 ≤ ((97 : Nat) : Int) + 24) = True := by decide
theorem tg_97_47 : gTg 97 47 = 144 := by decide
theorem tz_97_47 : (0 ≤ ((97 : Nat) : Int) + 47) = True := by decide
theorem tg_98_27 : gTg 98 27 = 125 := by decide
theorem tz_98_27 : (0 ≤ ((98 : Nat) : Int) + 27) = True := by decide
theorem tg_99_m74 : gTg 99 (-74) = 25 := by decide
theorem tz_99_m74 : (0 ≤ ((99 : Nat) : Int) + (-74)) = True := by decide
theorem tg_99_m47 : gTg 99 (-47) = 52 := by decide
theorem tz_99_m47 : (0 ≤ ((99 : Nat) : Int) + (-47)) = True := by decide
theorem tg_99_11 : gTg 99 11 = 110 := by decide
theorem tz_99_11 : (0 ≤ ((99 : Nat) : Int) + 11) = True := by decide
theorem tg_99_24 : gTg 99 24 = 123 := by decide
theorem tz_99_24 : (0 ≤ ((99 : Nat) : Int) + 24) = True := by decide
theorem tg_100_4 : gTg 100 4 = 104 := by decide
theorem tz_100_4 : (0 ≤ ((100 : Nat) : Int) + 4) = True := by decide
theorem tg_103_7 : gTg 103 7 = 110 := by decide
theorem tz_103_7 : (0 ≤ ((103 : Nat) : Int) + 7) = True := by decide
theorem tg_103_12 : gTg 103 12 = 115 := by decide
theorem tz_103_12 : (0 ≤ ((103 : Nat) : Int) + 12) = True := by decide
theorem tg_104_m102 : gTg 104 (-102) = 2 := by decide
theorem tz_104_m102 : (0 ≤ ((104 : Nat) : Int) + (-102)) = True := by decide
theorem tg_104_m31 : gTg 104 (-31) = 73 := by decide
theorem tz_104_m31 : (0 ≤ ((104 : Nat) : Int) + (-31)) = True := by decide
theorem tg_104_5 : gTg 104 5 = 109 := by decide
theorem tz_104_5 : (0 ≤ ((104 : Nat) : Int) + 5) = True := by decide
theorem tg_104_7 : gTg 104 7 = 111 := by decide
theorem tz_104_7 : (0 ≤ ((104 : Nat) : Int) + 7) = True := by decide
theorem tg_104_8 : gTg 104 8 = 112 := by decide
theorem tz_104_8 : (0 ≤ ((104 : Nat) : Int) + 8) = True := by decide
theorem tg_105_m99 : gTg 105 (-99) = 6 := by decide
theorem tz_105_m99 : (0 ≤ ((105 : Nat) : Int) + (-99)) = True := by decide
theorem tg_105_m93 : gTg 105 (-93) = 12 := by decide
theorem tz_105_m93 : (0 ≤ ((105 : Nat) : Int) + (-93)) = True := by decide
theorem tg_105_8 : gTg 105 8 = 113 := by decide
theorem tz_105_8 : (0 ≤ ((105 : Nat) : Int) + 8) = True := by decide
theorem tg_105_24 : gTg 105 24 = 129 := by decide
theorem tz_105_24 : (0 ≤ ((105 : Nat) : Int) + 24) = True := by decide
theorem tg_105_33 : gTg 105 33 = 138 := by decide
theorem tz_105_33 : (0 ≤ ((105 : Nat) : Int) + 33) = True := by decide
theorem tg_106_5 : gTg 106 5 = 111 := by decide
theorem tz_106_5 : (0 ≤ ((106 : Nat) : Int) + 5) = True := by decide
theorem tg_106_6 : gTg 106 6 = 112 := by decide
theorem tz_106_6 : (0 ≤ ((106 : Nat) : Int) + 6) = True := by decide
theorem tg_107_4 : gTg 107 4 = 111 := by decide
theorem tz_107_4 : (0 ≤ ((107 : Nat) : Int) + 4) = True := by decide
theorem tg_107_5 : gTg 107 5 = 112 := by decide
theorem tz_107_5 : (0 ≤ ((107 : Nat) : Int) + 5) = True := by decide
theorem tg_107_23 : gTg 107 23 = 130 := by decide
theorem tz_107_23 : (0 ≤ ((107 : Nat) : Int) + 23) = True := by decide
theorem tg_107_53 : gTg 107 53 = 160 := by decide
theorem tz_107_53 : (0 ≤ ((107 : Nat) : Int) + 53) = True := by decide
theorem tg_108_40 : gTg 108 40 = 148 := by decide
theorem tz_108_40 : (0 ≤ ((108 : Nat) : Int) + 40) = True := by decide
theorem tg_109_m39 : gTg 109 (-39) = 70 := by decide
theorem tz_109_m39 : (0 ≤ ((109 : Nat) : Int) + (-39)) = True := by decide
theorem tg_109_7 : gTg 109 7 = 116 := by decide
theorem tz_109_7 : (0 ≤ ((109 : Nat) : Int) + 7) = True := by decide
theorem tg_109_10 : gTg 109 10 = 119 := by decide
theorem tz_109_10 : (0 ≤ ((109 : Nat) : Int) + 10) = True := by decide
theorem tg_109_25 : gTg 109 25 = 134 := by decide
theorem tz_109_25 : (0 ≤ ((109 : Nat) : Int) + 25) = True := by decide
theorem tg_109_28 : gTg 109 28 = 137 := by decide
theorem tz_109_28 : (0 ≤ ((109 : Nat) : Int) + 28) = True := by decide
theorem tg_109_37 : gTg 109 37 = 146 := by decide
theorem tz_109_37 : (0 ≤ ((109 : Nat) : Int) + 37) = True := by decide
theorem tg_110_m107 : gTg 110 (-107) = 3 := by decide
theorem tz_110_m107 : (0 ≤ ((110 : Nat) : Int) + (-107)) = True := by decide
theorem tg_110_4 : gTg 110 4 = 114 := by decide
theorem tz_110_4 : (0 ≤ ((110 : Nat) : Int) + 4) = True := by decide
theorem tg_110_11 : gTg 110 11 = 121 := by decide
theorem tz_110_11 : (0 ≤ ((110 : Nat) : Int) + 11) = True := by decide
theorem tg_110_13 : gTg 110 13 = 123 := by decide
theorem tz_110_13 : (0 ≤ ((110 : Nat) : Int) + 13) = True := by decide
theorem tg_111_85 : gTg 111 85 = 196 := by decide
theorem tz_111_85 : (0 ≤ ((111 : Nat) : Int) + 85) = True := by decide
theorem tg_112_m30 : gTg 112 (-30) = 82 := by decide
theorem tz_112_m30 : (0 ≤ ((112 : Nat) : Int) + (-30)) = True := by decide
theorem tg_112_7 : gTg 112 7 = 119 := by decide
theorem tz_112_7 : (0 ≤ ((112 : Nat) : Int) + 7) = True := by decide
theorem tg_113_m52 : gTg 113 (-52) = 61 := by decide
theorem tz_113_m52 : (0 ≤ ((113 : Nat) : Int) + (-52)) = True := by decide
theorem tg_113_4 : gTg 113 4 = 117 := by decide
theorem tz_113_4 : (0 ≤ ((113 : Nat) : Int) + 4) = True := by decide
theorem tg_113_17 : gTg 113 17 = 130 := by decide
theorem tz_113_17 : (0 ≤ ((113 : Nat) : Int) + 17) = True := by decide
theorem tg_114_m111 : gTg 114 (-111) = 3 := by decide
theorem tz_114_m111 : (0 ≤ ((114 : Nat) : Int) + (-111)) = True := by decide
theorem tg_114_24 : gTg 114 24 = 138 := by decide
theorem tz_114_24 : (0 ≤ ((114 : Nat) : Int) + 24) = True := by decide
theorem tg_115_m106 : gTg 115 (-106) = 9 := by decide
theorem tz_115_m106 : (0 ≤ ((115 : Nat) : Int) + (-106)) = True := by decide
theorem tg_115_m98 : gTg 115 (-98) = 17 := by decide
theorem tz_115_m98 : (0 ≤ ((115 : Nat) : Int) + (-98)) = True := by decide
theorem tg_115_11 : gTg 115 11 = 126 := by decide
theorem tz_115_11 : (0 ≤ ((115 : Nat) : Int) + 11) = True := by decide
theorem tg_115_192 : gTg 115 192 = 307 := by decide
theorem tz_115_192 : (0 ≤ ((115 : Nat) : Int) + 192) = True := by decide
theorem tg_116_4 : gTg 116 4 = 120 := by decide
theorem tz_116_4 : (0 ≤ ((116 : Nat) : Int) + 4) = True := by decide
theorem tg_116_7 : gTg 116 7 = 123 := by decide
theorem tz_116_7 : (0 ≤ ((116 : Nat) : Int) + 7) = True := by decide
theorem tg_118_7 : gTg 118 7 = 125 := by decide
theorem tz_118_7 : (0 ≤ ((118 : Nat) : Int) + 7) = True := by decide
theorem tg_119_m81 : gTg 119 (-81) = 38 := by decide
theorem tz_119_m81 : (0 ≤ ((119 : Nat) : Int) + (-81)) = True := by decide
theorem tg_119_13 : gTg 119 13 = 132 := by decide
theorem tz_119_13 : (0 ≤ ((119 : Nat) : Int) + 13) = True := by decide
theorem tg_119_19 : gTg 119 19 = 138 := by decide
theorem tz_119_19 : (0 ≤ ((119 : Nat) : Int) + 19) = True := by decide
theorem tg_120_4 : gTg 120 4 = 124 := by decide
theorem tz_120_4 : (0 ≤ ((120 : Nat) : Int) + 4) = True := by decide
theorem tg_120_7 : gTg 120 7 = 127 := by decide
theorem tz_120_7 : (0 ≤ ((120 : Nat) : Int) + 7) = True := by decide
theorem tg_121_5 : gTg 121 5 = 126 := by decide
theorem tz_121_5 : (0 ≤ ((121 : Nat) : Int) + 5) = True := by decide
theorem tg_121_15 : gTg 121 15 = 136 := by decide
theorem tz_121_15 : (0 ≤ ((121 : Nat) : Int) + 15) = True := by decide
theorem tg_121_19 : gTg 121 19 = 140 := by decide
theorem tz_121_19 : (0 ≤ ((121 : Nat) : Int) + 19) = True := by decide
theorem tg_121_38 : gTg 121 38 = 159 := by decide
theorem tz_121_38 : (0 ≤ ((121 : Nat) : Int) + 38) = True := by decide
theorem tg_122_4 : gTg 122 4 = 126 := by decide
theorem tz_122_4 : (0 ≤ ((122 : Nat) : Int) + 4) = True := by decide
theorem tg_122_7 : gTg 122 7 = 129 := by decide
theorem tz_122_7 : (0 ≤ ((122 : Nat) : Int) + 7) = True := by decide
theorem tg_122_8 : gTg 122 8 = 130 := by decide
theorem tz_122_8 : (0 ≤ ((122 : Nat) : Int) + 8) = True := by decide
theorem tg_122_14 : gTg 122 14 = 136 := by decide
theorem tz_122_14 : (0 ≤ ((122 : Nat) : Int) + 14) = True := by decide
theorem tg_123_m69 : gTg 123 (-69) = 54 := by decide
theorem tz_123_m69 : (0 ≤ ((123 : Nat) : Int) + (-69)) = True := by decide
theorem tg_124_m68 : gTg 124 (-68) = 56 := by decide
theorem tz_124_m68 : (0 ≤ ((124 : Nat) : Int) + (-68)) = True := by decide
theorem tg_124_m45 : gTg 124 (-45) = 79 := by decide
theorem tz_124_m45 : (0 ≤ ((124 : Nat) : Int) + (-45)) = True := by decide
theorem tg_124_4 : gTg 124 4 = 128 := by decide
theorem tz_124_4 : (0 ≤ ((124 : Nat) : Int) + 4) = True := by decide
theorem tg_124_15 : gTg 124 15 = 139 := by decide
theorem tz_124_15 : (0 ≤ ((124 : Nat) : Int) + 15) = True := by decide
theorem tg_125_13 : gTg 125 13 = 138 := by decide
theorem tz_125_13 : (0 ≤ ((125 : Nat) : Int) + 13) = True := by decide
theorem tg_126_4 : gTg 126 4 = 130 := by decide
theorem tz_126_4 : (0 ≤ ((126 : Nat) : Int) + 4) = True := by decide
theorem tg_126_7 : gTg 126 7 = 133 := by decide
theorem tz_126_7 : (0 ≤ ((126 : Nat) : Int) + 7) = True := by decide
theorem tg_127_5 : gTg 127 5 = 132 := by decide
theorem tz_127_5 : (0 ≤ ((127 : Nat) : Int) + 5) = True := by decide
theorem tg_127_9 : gTg 127 9 = 136 := by decide
theorem tz_127_9 : (0 ≤ ((127 : Nat) : Int) + 9) = True := by decide
theorem tg_129_7 : gTg 129 7 = 136 := by decide
theorem tz_129_7 : (0 ≤ ((129 : Nat) : Int) + 7) = True := by decide
theorem tg_129_9 : gTg 129 9 = 138 := by decide
theorem tz_129_9 : (0 ≤ ((129 : Nat) : Int) + 9) = True := by decide
theorem tg_129_21 : gTg 129 21 = 150 := by decide
theorem tz_129_21 : (0 ≤ ((129 : Nat) : Int) + 21) = True := by decide
theorem tg_130_7 : gTg 130 7 = 137 := by decide
theorem tz_130_7 : (0 ≤ ((130 : Nat) : Int) + 7) = True := by decide
theorem tg_131_5 : gTg 131 5 = 136 := by decide
theorem tz_131_5 : (0 ≤ ((131 : Nat) : Int) + 5) = True := by decide
theorem tg_131_6 : gTg 131 6 = 137 := by decide
theorem tz_131_6 : (0 ≤ ((131 : Nat) : Int) + 6) = True := by decide
theorem tg_131_8 : gTg 131 8 = 139 := by decide
theorem tz_131_8 : (0 ≤ ((131 : Nat) : Int) + 8) = True := by decide
theorem tg_131_29 : gTg 131 29 = 160 := by decide
theorem tz_131_29 : (0 ≤ ((131 : Nat) : Int) + 29) = True := by decide
theorem tg_132_m104 : gTg 132 (-104) = 28 := by decide
theorem tz_132_m104 : (0 ≤ ((132 : Nat) : Int) + (-104)) = True := by decide
theorem tg_133_14 : gTg 133 14 = 147 := by decide
theorem tz_133_14 : (0 ≤ ((133 : Nat) : Int) + 14) = True := by decide
theorem tg_133_35 : gTg 133 35 = 168 := by decide
theorem tz_133_35 : (0 ≤ ((133 : Nat) : Int) + 35) = True := by decide
theorem tg_133_56 : gTg 133 56 = 189 := by decide
theorem tz_133_56 : (0 ≤ ((133 : Nat) : Int) + 56) = True := by decide
theorem tg_133_76 : gTg 133 76 = 209 := by decide
theorem tz_133_76 : (0 ≤ ((133 : Nat) : Int) + 76) = True := by decide
theorem tg_133_97 : gTg 133 97 = 230 := by decide
theorem tz_133_97 : (0 ≤ ((133 : Nat) : Int) + 97) = True := by decide
theorem tg_134_62 : gTg 134 62 = 196 := by decide
theorem tz_134_62 : (0 ≤ ((134 : Nat) : Int) + 62) = True := by decide
theorem tg_135_14 : gTg 135 14 = 149 := by decide
theorem tz_135_14 : (0 ≤ ((135 : Nat) : Int) + 14) = True := by decide
theorem tg_136_5 : gTg 136 5 = 141 := by decide
theorem tz_136_5 : (0 ≤ ((136 : Nat) : Int) + 5) = True := by decide
theorem tg_137_164 : gTg 137 164 = 301 := by decide
theorem tz_137_164 : (0 ≤ ((137 : Nat) : Int) + 164) = True := by decide
theorem tg_139_m47 : gTg 139 (-47) = 92 := by decide
theorem tz_139_m47 : (0 ≤ ((139 : Nat) : Int) + (-47)) = True := by decide
theorem tg_139_12 : gTg 139 12 = 151 := by decide
theorem tz_139_12 : (0 ≤ ((139 : Nat) : Int) + 12) = True := by decide
theorem tg_140_m49 : gTg 140 (-49) = 91 := by decide
theorem tz_140_m49 : (0 ≤ ((140 : Nat) : Int) + (-49)) = True := by decide
theorem tg_140_10 : gTg 140 10 = 150 := by decide
theorem tz_140_10 : (0 ≤ ((140 : Nat) : Int) + 10) = True := by decide
theorem tg_141_m58 : gTg 141 (-58) = 83 := by decide
theorem tz_141_m58 : (0 ≤ ((141 : Nat) : Int) + (-58)) = True := by decide
theorem tg_141_10 : gTg 141 10 = 151 := by decide
theorem tz_141_10 : (0 ≤ ((141 : Nat) : Int) + 10) = True := by decide
theorem tg_141_12 : gTg 141 12 = 153 := by decide
theorem tz_141_12 : (0 ≤ ((141 : Nat) : Int) + 12) = True := by decide
theorem tg_142_20 : gTg 142 20 = 162 := by decide
theorem tz_142_20 : (0 ≤ ((142 : Nat) : Int) + 20) = True := by decide
theorem tg_143_m40 : gTg 143 (-40) = 103 := by decide
theorem tz_143_m40 : (0 ≤ ((143 : Nat) : Int) + (-40)) = True := by decide
theorem tg_144_7 : gTg 144 7 = 151 := by decide
theorem tz_144_7 : (0 ≤ ((144 : Nat) : Int) + 7) = True := by decide
theorem tg_145_38 : gTg 145 38 = 183 := by decide
theorem tz_145_38 : (0 ≤ ((145 : Nat) : Int) + 38) = True := by decide
theorem tg_146_7 : gTg 146 7 = 153 := by decide
theorem tz_146_7 : (0 ≤ ((146 : Nat) : Int) + 7) = True := by decide
theorem tg_147_m90 : gTg 147 (-90) = 57 := by decide
theorem tz_147_m90 : (0 ≤ ((147 : Nat) : Int) + (-90)) = True := by decide
theorem tg_147_m22 : gTg 147 (-22) = 125 := by decide
theorem tz_147_m22 : (0 ≤ ((147 : Nat) : Int) + (-22)) = True := by decide
theorem tg_148_4 : gTg 148 4 = 152 := by decide
theorem tz_148_4 : (0 ≤ ((148 : Nat) : Int) + 4) = True := by decide
theorem tg_149_m66 : gTg 149 (-66) = 83 := by decide
theorem tz_149_m66 : (0 ≤ ((149 : Nat) : Int) + (-66)) = True := by decide
theorem tg_150_4 : gTg 150 4 = 154 := by decide
theorem tz_150_4 : (0 ≤ ((150 : Nat) : Int) + 4) = True := by decide
theorem tg_150_151 : gTg 150 151 = 301 := by decide
theorem tz_150_151 : (0 ≤ ((150 : Nat) : Int) + 151) = True := by decide
theorem tg_151_m112 : gTg 151 (-112) = 39 := by decide
theorem tz_151_m112 : (0 ≤ ((151 : Nat) : Int) + (-112)) = True := by decide
theorem tg_152_7 : gTg 152 7 = 159 := by decide
theorem tz_152_7 : (0 ≤ ((152 : Nat) : Int) + 7) = True := by decide
theorem tg_152_102 : gTg 152 102 = 254 := by decide
theorem tz_152_102 : (0 ≤ ((152 : Nat) : Int) + 102) = True := by decide
theorem tg_153_7 : gTg 153 7 = 160 := by decide
theorem tz_153_7 : (0 ≤ ((153 : Nat) : Int) + 7) = True := by decide
theorem tg_155_7 : gTg 155 7 = 162 := by decide
theorem tz_155_7 : (0 ≤ ((155 : Nat) : Int) + 7) = True := by decide
theorem tg_155_27 : gTg 155 27 = 182 := by decide
theorem tz_155_27 : (0 ≤ ((155 : Nat) : Int) + 27) = True := by decide
theorem tg_156_4 : gTg 156 4 = 160 := by decide
theorem tz_156_4 : (0 ≤ ((156 : Nat) : Int) + 4) = True := by decide
theorem tg_156_10 : gTg 156 10 = 166 := by decide
theorem tz_156_10 : (0 ≤ ((156 : Nat) : Int) + 10) = True := by decide
theorem tg_156_33 : gTg 156 33 = 189 := by decide
theorem tz_156_33 : (0 ≤ ((156 : Nat) : Int) + 33) = True := by decide
theorem tg_157_m52 : gTg 157 (-52) = 105 := by decide
theorem tz_157_m52 : (0 ≤ ((157 : Nat) : Int) + (-52)) = True := by decide
theorem tg_157_4 : gTg 157 4 = 161 := by decide
theorem tz_157_4 : (0 ≤ ((157 : Nat) : Int) + 4) = True := by decide
theorem tg_158_7 : gTg 158 7 = 165 := by decide
theorem tz_158_7 : (0 ≤ ((158 : Nat) : Int) + 7) = True := by decide
theorem tg_159_4 : gTg 159 4 = 163 := by decide
theorem tz_159_4 : (0 ≤ ((159 : Nat) : Int) + 4) = True := by decide
theorem tg_159_31 : gTg 159 31 = 190 := by decide
theorem tz_159_31 : (0 ≤ ((159 : Nat) : Int) + 31) = True := by decide
theorem tg_162_4 : gTg 162 4 = 166 := by decide
theorem tz_162_4 : (0 ≤ ((162 : Nat) : Int) + 4) = True := by decide
theorem tg_162_6 : gTg 162 6 = 168 := by decide
theorem tz_162_6 : (0 ≤ ((162 : Nat) : Int) + 6) = True := by decide
theorem tg_163_m72 : gTg 163 (-72) = 91 := by decide
theorem tz_163_m72 : (0 ≤ ((163 : Nat) : Int) + (-72)) = True := by decide
theorem tg_163_19 : gTg 163 19 = 182 := by decide
theorem tz_163_19 : (0 ≤ ((163 : Nat) : Int) + 19) = True := by decide
theorem tg_165_83 : gTg 165 83 = 248 := by decide
theorem tz_165_83 : (0 ≤ ((165 : Nat) : Int) + 83) = True := by decide
theorem tg_166_9 : gTg 166 9 = 175 := by decide
theorem tz_166_9 : (0 ≤ ((166 : Nat) : Int) + 9) = True := by decide
theorem tg_166_13 : gTg 166 13 = 179 := by decide
theorem tz_166_13 : (0 ≤ ((166 : Nat) : Int) + 13) = True := by decide
theorem tg_168_18 : gTg 168 18 = 186 := by decide
theorem tz_168_18 : (0 ≤ ((168 : Nat) : Int) + 18) = True := by decide
theorem tg_169_9 : gTg 169 9 = 178 := by decide
theorem tz_169_9 : (0 ≤ ((169 : Nat) : Int) + 9) = True := by decide
theorem tg_169_126 : gTg 169 126 = 295 := by decide
theorem tz_169_126 : (0 ≤ ((169 : Nat) : Int) + 126) = True := by decide
theorem tg_170_9 : gTg 170 9 = 179 := by decide
theorem tz_170_9 : (0 ≤ ((170 : Nat) : Int) + 9) = True := by decide
theorem tg_170_28 : gTg 170 28 = 198 := by decide
theorem tz_170_28 : (0 ≤ ((170 : Nat) : Int) + 28) = True := by decide
theorem tg_171_12 : gTg 171 12 = 183 := by decide
theorem tz_171_12 : (0 ≤ ((171 : Nat) : Int) + 12) = True := by decide
theorem tg_171_16 : gTg 171 16 = 187 := by decide
theorem tz_171_16 : (0 ≤ ((171 : Nat) : Int) + 16) = True := by decide
theorem tg_172_7 : gTg 172 7 = 179 := by decide
theorem tz_172_7 : (0 ≤ ((172 : Nat) : Int) + 7) = True := by decide
theorem tg_173_m158 : gTg 173 (-158) = 15 := by decide
theorem tz_173_m158 : (0 ≤ ((173 : Nat) : Int) + (-158)) = True := by decide
theorem tg_173_10 : gTg 173 10 = 183 := by decide
theorem tz_173_10 : (0 ≤ ((173 : Nat) : Int) + 10) = True := by decide
theorem tg_175_7 : gTg 175 7 = 182 := by decide
theorem tz_175_7 : (0 ≤ ((175 : Nat) : Int) + 7) = True := by decide
theorem tg_176_4 : gTg 176 4 = 180 := by decide
theorem tz_176_4 : (0 ≤ ((176 : Nat) : Int) + 4) = True := by decide
theorem tg_178_5 : gTg 178 5 = 183 := by decide
theorem tz_178_5 : (0 ≤ ((178 : Nat) : Int) + 5) = True := by decide
theorem tg_179_m177 : gTg 179 (-177) = 2 := by decide
theorem tz_179_m177 : (0 ≤ ((179 : Nat) : Int) + (-177)) = True := by decide
theorem tg_179_m27 : gTg 179 (-27) = 152 := by decide
theorem tz_179_m27 : (0 ≤ ((179 : Nat) : Int) + (-27)) = True := by decide
theorem tg_179_4 : gTg 179 4 = 183 := by decide
theorem tz_179_4 : (0 ≤ ((179 : Nat) : Int) + 4) = True := by decide
theorem tg_180_5 : gTg 180 5 = 185 := by decide
theorem tz_180_5 : (0 ≤ ((180 : Nat) : Int) + 5) = True := by decide
theorem tg_180_7 : gTg 180 7 = 187 := by decide
theorem tz_180_7 : (0 ≤ ((180 : Nat) : Int) + 7) = True := by decide
theorem tg_180_11 : gTg 180 11 = 191 := by decide
theorem tz_180_11 : (0 ≤ ((180 : Nat) : Int) + 11) = True := by decide
theorem tg_181_7 : gTg 181 7 = 188 := by decide
theorem tz_181_7 : (0 ≤ ((181 : Nat) : Int) + 7) = True := by decide
theorem tg_183_4 : gTg 183 4 = 187 := by decide
theorem tz_183_4 : (0 ≤ ((183 : Nat) : Int) + 4) = True := by decide
theorem tg_183_6 : gTg 183 6 = 189 := by decide
theorem tz_183_6 : (0 ≤ ((183 : Nat) : Int) + 6) = True := by decide
theorem tg_183_7 : gTg 183 7 = 190 := by decide
theorem tz_183_7 : (0 ≤ ((183 : Nat) : Int) + 7) = True := by decide
theorem tg_183_15 : gTg 183 15 = 198 := by decide
theorem tz_183_15 : (0 ≤ ((183 : Nat) : Int) + 15) = True := by decide
theorem tg_184_4 : gTg 184 4 = 188 := by decide
theorem tz_184_4 : (0 ≤ ((184 : Nat) : Int) + 4) = True := by decide
theorem tg_185_m169 : gTg 185 (-169) = 16 := by decide
theorem tz_185_m169 : (0 ≤ ((185 : Nat) : Int) + (-169)) = True := by decide
theorem tg_185_4 : gTg 185 4 = 189 := by decide
theorem tz_185_4 : (0 ≤ ((185 : Nat) : Int) + 4) = True := by decide
theorem tg_186_m176 : gTg 186 (-176) = 10 := by decide
theorem tz_186_m176 : (0 ≤ ((186 : Nat) : Int) + (-176)) = True := by decide
theorem tg_186_7 : gTg 186 7 = 193 := by decide
theorem tz_186_7 : (0 ≤ ((186 : Nat) : Int) + 7) = True := by decide
theorem tg_186_109 : gTg 186 109 = 295 := by decide
theorem tz_186_109 : (0 ≤ ((186 : Nat) : Int) + 109) = True := by decide
theorem tg_187_4 : gTg 187 4 = 191 := by decide
theorem tz_187_4 : (0 ≤ ((187 : Nat) : Int) + 4) = True := by decide
theorem tg_190_4 : gTg 190 4 = 194 := by decide
theorem tz_190_4 : (0 ≤ ((190 : Nat) : Int) + 4) = True := by decide
theorem tg_191_m184 : gTg 191 (-184) = 7 := by decide
theorem tz_191_m184 : (0 ≤ ((191 : Nat) : Int) + (-184)) = True := by decide
theorem tg_191_16 : gTg 191 16 = 207 := by decide
theorem tz_191_16 : (0 ≤ ((191 : Nat) : Int) + 16) = True := by decide
theorem tg_191_49 : gTg 191 49 = 240 := by decide
theorem tz_191_49 : (0 ≤ ((191 : Nat) : Int) + 49) = True := by decide
theorem tg_191_57 : gTg 191 57 = 248 := by decide
theorem tz_191_57 : (0 ≤ ((191 : Nat) : Int) + 57) = True := by decide
theorem tg_191_72 : gTg 191 72 = 263 := by decide
theorem tz_191_72 : (0 ≤ ((191 : Nat) : Int) + 72) = True := by decide
theorem tg_191_94 : gTg 191 94 = 285 := by decide
theorem tz_191_94 : (0 ≤ ((191 : Nat) : Int) + 94) = True := by decide
theorem tg_191_116 : gTg 191 116 = 307 := by decide
theorem tz_191_116 : (0 ≤ ((191 : Nat) : Int) + 116) = True := by decide
theorem tg_191_137 : gTg 191 137 = 328 := by decide
theorem tz_191_137 : (0 ≤ ((191 : Nat) : Int) + 137) = True := by decide
theorem tg_191_164 : gTg 191 164 = 355 := by decide
theorem tz_191_164 : (0 ≤ ((191 : Nat) : Int) + 164) = True := by decide
theorem tg_191_180 : gTg 191 180 = 371 := by decide
theorem tz_191_180 : (0 ≤ ((191 : Nat) : Int) + 180) = True := by decide
theorem tg_191_200 : gTg 191 200 = 391 := by decide
theorem tz_191_200 : (0 ≤ ((191 : Nat) : Int) + 200) = True := by decide
theorem tg_191_227 : gTg 191 227 = 418 := by decide
theorem tz_191_227 : (0 ≤ ((191 : Nat) : Int) + 227) = True := by decide
theorem tg_193_m85 : gTg 193 (-85) = 108 := by decide
theorem tz_193_m85 : (0 ≤ ((193 : Nat) : Int) + (-85)) = True := by decide
theorem tg_193_34 : gTg 193 34 = 227 := by decide
theorem tz_193_34 : (0 ≤ ((193 : Nat) : Int) + 34) = True := by decide
theorem tg_194_7 : gTg 194 7 = 201 := by decide
theorem tz_194_7 : (0 ≤ ((194 : Nat) : Int) + 7) = True := by decide
theorem tg_195_5 : gTg 195 5 = 200 := by decide
theorem tz_195_5 : (0 ≤ ((195 : Nat) : Int) + 5) = True := by decide
theorem tg_195_63 : gTg 195 63 = 258 := by decide
theorem tz_195_63 : (0 ≤ ((195 : Nat) : Int) + 63) = True := by decide
theorem tg_196_10 : gTg 196 10 = 206 := by decide
theorem tz_196_10 : (0 ≤ ((196 : Nat) : Int) + 10) = True := by decide
theorem tg_197_7 : gTg 197 7 = 204 := by decide
theorem tz_197_7 : (0 ≤ ((197 : Nat) : Int) + 7) = True := by decide
theorem tg_198_4 : gTg 198 4 = 202 := by decide
theorem tz_198_4 : (0 ≤ ((198 : Nat) : Int) + 4) = True := by decide
theorem tg_200_7 : gTg 200 7 = 207 := by decide
theorem tz_200_7 : (0 ≤ ((200 : Nat) : Int) + 7) = True := by decide
theorem tg_201_4 : gTg 201 4 = 205 := by decide
theorem tz_201_4 : (0 ≤ ((201 : Nat) : Int) + 4) = True := by decide
theorem tg_201_7 : gTg 201 7 = 208 := by decide
theorem tz_201_7 : (0 ≤ ((201 : Nat) : Int) + 7) = True := by decide
theorem tg_202_7 : gTg 202 7 = 209 := by decide
theorem tz_202_7 : (0 ≤ ((202 : Nat) : Int) + 7) = True := by decide
theorem tg_204_4 : gTg 204 4 = 208 := by decide
theorem tz_204_4 : (0 ≤ ((204 : Nat) : Int) + 4) = True := by decide
theorem tg_205_7 : gTg 205 7 = 212 := by decide
theorem tz_205_7 : (0 ≤ ((205 : Nat) : Int) + 7) = True := by decide
theorem tg_206_4 : gTg 206 4 = 210 := by decide
theorem tz_206_4 : (0 ≤ ((206 : Nat) : Int) + 4) = True := by decide
theorem tg_208_87 : gTg 208 87 = 295 := by decide
theorem tz_208_87 : (0 ≤ ((208 : Nat) : Int) + 87) = True := by decide
theorem tg_209_4 : gTg 209 4 = 213 := by decide
theorem tz_209_4 : (0 ≤ ((209 : Nat) : Int) + 4) = True := by decide
theorem tg_211_37 : gTg 211 37 = 248 := by decide
theorem tz_211_37 : (0 ≤ ((211 : Nat) : Int) + 37) = True := by decide
theorem tg_212_4 : gTg 212 4 = 216 := by decide
theorem tz_212_4 : (0 ≤ ((212 : Nat) : Int) + 4) = True := by decide
theorem tg_212_16 : gTg 212 16 = 228 := by decide
theorem tz_212_16 : (0 ≤ ((212 : Nat) : Int) + 16) = True := by decide
theorem tg_213_7 : gTg 213 7 = 220 := by decide
theorem tz_213_7 : (0 ≤ ((213 : Nat) : Int) + 7) = True := by decide
theorem tg_214_47 : gTg 214 47 = 261 := by decide
theorem tz_214_47 : (0 ≤ ((214 : Nat) : Int) + 47) = True := by decide
theorem tg_217_4 : gTg 217 4 = 221 := by decide
theorem tz_217_4 : (0 ≤ ((217 : Nat) : Int) + 4) = True := by decide
theorem tg_221_7 : gTg 221 7 = 228 := by decide
theorem tz_221_7 : (0 ≤ ((221 : Nat) : Int) + 7) = True := by decide
theorem tg_221_21 : gTg 221 21 = 242 := by decide
theorem tz_221_21 : (0 ≤ ((221 : Nat) : Int) + 21) = True := by decide
theorem tg_224_4 : gTg 224 4 = 228 := by decide
theorem tz_224_4 : (0 ≤ ((224 : Nat) : Int) + 4) = True := by decide
theorem tg_225_4 : gTg 225 4 = 229 := by decide
theorem tz_225_4 : (0 ≤ ((225 : Nat) : Int) + 4) = True := by decide
theorem tg_225_13 : gTg 225 13 = 238 := by decide
theorem tz_225_13 : (0 ≤ ((225 : Nat) : Int) + 13) = True := by decide
theorem tg_227_62 : gTg 227 62 = 289 := by decide
theorem tz_227_62 : (0 ≤ ((227 : Nat) : Int) + 62) = True := by decide
theorem tg_228_7 : gTg 228 7 = 235 := by decide
theorem tz_228_7 : (0 ≤ ((228 : Nat) : Int) + 7) = True := by decide
theorem tg_228_27 : gTg 228 27 = 255 := by decide
theorem tz_228_27 : (0 ≤ ((228 : Nat) : Int) + 27) = True := by decide
theorem tg_230_7 : gTg 230 7 = 237 := by decide
theorem tz_230_7 : (0 ≤ ((230 : Nat) : Int) + 7) = True := by decide
theorem tg_232_4 : gTg 232 4 = 236 := by decide
theorem tz_232_4 : (0 ≤ ((232 : Nat) : Int) + 4) = True := by decide
theorem tg_232_7 : gTg 232 7 = 239 := by decide
theorem tz_232_7 : (0 ≤ ((232 : Nat) : Int) + 7) = True := by decide
theorem tg_234_4 : gTg 234 4 = 238 := by decide
theorem tz_234_4 : (0 ≤ ((234 : Nat) : Int) + 4) = True := by decide
theorem tg_236_4 : gTg 236 4 = 240 := by decide
theorem tz_236_4 : (0 ≤ ((236 : Nat) : Int) + 4) = True := by decide
theorem tg_236_19 : gTg 236 19 = 255 := by decide
theorem tz_236_19 : (0 ≤ ((236 : Nat) : Int) + 19) = True := by decide
theorem tg_237_5 : gTg 237 5 = 242 := by decide
theorem tz_237_5 : (0 ≤ ((237 : Nat) : Int) + 5) = True := by decide
theorem tg_241_48 : gTg 241 48 = 289 := by decide
theorem tz_241_48 : (0 ≤ ((241 : Nat) : Int) + 48) = True := by decide
theorem tg_243_7 : gTg 243 7 = 250 := by decide
theorem tz_243_7 : (0 ≤ ((243 : Nat) : Int) + 7) = True := by decide
theorem tg_245_m40 : gTg 245 (-40) = 205 := by decide
theorem tz_245_m40 : (0 ≤ ((245 : Nat) : Int) + (-40)) = True := by decide
theorem tg_245_198 : gTg 245 198 = 443 := by decide
theorem tz_245_198 : (0 ≤ ((245 : Nat) : Int) + 198) = True := by decide
theorem tg_246_9 : gTg 246 9 = 255 := by decide
theorem tz_246_9 : (0 ≤ ((246 : Nat) : Int) + 9) = True := by decide
theorem tg_247_13 : gTg 247 13 = 260 := by decide
theorem tz_247_13 : (0 ≤ ((247 : Nat) : Int) + 13) = True := by decide
theorem tg_251_m105 : gTg 251 (-105) = 146 := by decide
theorem tz_251_m105 : (0 ≤ ((251 : Nat) : Int) + (-105)) = True := by decide
theorem tg_252_7 : gTg 252 7 = 259 := by decide
theorem tz_252_7 : (0 ≤ ((252 : Nat) : Int) + 7) = True := by decide
theorem tg_255_m65 : gTg 255 (-65) = 190 := by decide
theorem tz_255_m65 : (0 ≤ ((255 : Nat) : Int) + (-65)) = True := by decide
theorem tg_255_6 : gTg 255 6 = 261 := by decide
theorem tz_255_6 : (0 ≤ ((255 : Nat) : Int) + 6) = True := by decide
theorem tg_256_4 : gTg 256 4 = 260 := by decide
theorem tz_256_4 : (0 ≤ ((256 : Nat) : Int) + 4) = True := by decide
theorem tg_257_m194 : gTg 257 (-194) = 63 := by decide
theorem tz_257_m194 : (0 ≤ ((257 : Nat) : Int) + (-194)) = True := by decide
theorem tg_258_31 : gTg 258 31 = 289 := by decide
theorem tz_258_31 : (0 ≤ ((258 : Nat) : Int) + 31) = True := by decide
theorem tg_260_10 : gTg 260 10 = 270 := by decide
theorem tz_260_10 : (0 ≤ ((260 : Nat) : Int) + 10) = True := by decide
theorem tg_260_183 : gTg 260 183 = 443 := by decide
theorem tz_260_183 : (0 ≤ ((260 : Nat) : Int) + 183) = True := by decide
theorem tg_263_4 : gTg 263 4 = 267 := by decide
theorem tz_263_4 : (0 ≤ ((263 : Nat) : Int) + 4) = True := by decide
theorem tg_267_12 : gTg 267 12 = 279 := by decide
theorem tz_267_12 : (0 ≤ ((267 : Nat) : Int) + 12) = True := by decide
theorem tg_272_7 : gTg 272 7 = 279 := by decide
theorem tz_272_7 : (0 ≤ ((272 : Nat) : Int) + 7) = True := by decide
theorem tg_275_22 : gTg 275 22 = 297 := by decide
theorem tz_275_22 : (0 ≤ ((275 : Nat) : Int) + 22) = True := by decide
theorem tg_276_4 : gTg 276 4 = 280 := by decide
theorem tz_276_4 : (0 ≤ ((276 : Nat) : Int) + 4) = True := by decide
theorem tg_276_19 : gTg 276 19 = 295 := by decide
theorem tz_276_19 : (0 ≤ ((276 : Nat) : Int) + 19) = True := by decide
theorem tg_282_161 : gTg 282 161 = 443 := by decide
theorem tz_282_161 : (0 ≤ ((282 : Nat) : Int) + 161) = True := by decide
theorem tg_283_8 : gTg 283 8 = 291 := by decide
theorem tz_283_8 : (0 ≤ ((283 : Nat) : Int) + 8) = True := by decide
theorem tg_284_5 : gTg 284 5 = 289 := by decide
theorem tz_284_5 : (0 ≤ ((284 : Nat) : Int) + 5) = True := by decide
theorem tg_285_10 : gTg 285 10 = 295 := by decide
theorem tz_285_10 : (0 ≤ ((285 : Nat) : Int) + 10) = True := by decide
theorem tg_292_m100 : gTg 292 (-100) = 192 := by decide
theorem tz_292_m100 : (0 ≤ ((292 : Nat) : Int) + (-100)) = True := by decide
theorem tg_294_m20 : gTg 294 (-20) = 274 := by decide
theorem tz_294_m20 : (0 ≤ ((294 : Nat) : Int) + (-20)) = True := by decide
theorem tg_295_18 : gTg 295 18 = 313 := by decide
theorem tz_295_18 : (0 ≤ ((295 : Nat) : Int) + 18) = True := by decide
theorem tg_298_m177 : gTg 298 (-177) = 121 := by decide
theorem tz_298_m177 : (0 ≤ ((298 : Nat) : Int) + (-177)) = True := by decide
theorem tg_300_21 : gTg 300 21 = 321 := by decide
theorem tz_300_21 : (0 ≤ ((300 : Nat) : Int) + 21) = True := by decide
theorem tg_304_m195 : gTg 304 (-195) = 109 := by decide
theorem tz_304_m195 : (0 ≤ ((304 : Nat) : Int) + (-195)) = True := by decide
theorem tg_304_139 : gTg 304 139 = 443 := by decide
theorem tz_304_139 : (0 ≤ ((304 : Nat) : Int) + 139) = True := by decide
theorem tg_309_12 : gTg 309 12 = 321 := by decide
theorem tz_309_12 : (0 ≤ ((309 : Nat) : Int) + 12) = True := by decide
theorem tg_310_m21 : gTg 310 (-21) = 289 := by decide
theorem tz_310_m21 : (0 ≤ ((310 : Nat) : Int) + (-21)) = True := by decide
theorem tg_318_11 : gTg 318 11 = 329 := by decide
theorem tz_318_11 : (0 ≤ ((318 : Nat) : Int) + 11) = True := by decide
theorem tg_320_135 : gTg 320 135 = 455 := by decide
theorem tz_320_135 : (0 ≤ ((320 : Nat) : Int) + 135) = True := by decide
theorem tg_325_118 : gTg 325 118 = 443 := by decide
theorem tz_325_118 : (0 ≤ ((325 : Nat) : Int) + 118) = True := by decide
theorem tg_335_18 : gTg 335 18 = 353 := by decide
theorem tz_335_18 : (0 ≤ ((335 : Nat) : Int) + 18) = True := by decide
theorem tg_339_32 : gTg 339 32 = 371 := by decide
theorem tz_339_32 : (0 ≤ ((339 : Nat) : Int) + 32) = True := by decide
theorem tg_352_91 : gTg 352 91 = 443 := by decide
theorem tz_352_91 : (0 ≤ ((352 : Nat) : Int) + 91) = True := by decide
theorem tg_368_m35 : gTg 368 (-35) = 333 := by decide
theorem tz_368_m35 : (0 ≤ ((368 : Nat) : Int) + (-35)) = True := by decide
theorem tg_368_75 : gTg 368 75 = 443 := by decide
theorem tz_368_75 : (0 ≤ ((368 : Nat) : Int) + 75) = True := by decide
theorem tg_381_6 : gTg 381 6 = 387 := by decide
theorem tz_381_6 : (0 ≤ ((381 : Nat) : Int) + 6) = True := by decide
theorem tg_384_65 : gTg 384 65 = 449 := by decide
theorem tz_384_65 : (0 ≤ ((384 : Nat) : Int) + 65) = True := by decide
theorem tg_388_55 : gTg 388 55 = 443 := by decide
theorem tz_388_55 : (0 ≤ ((388 : Nat) : Int) + 55) = True := by decide
theorem tg_400_39 : gTg 400 39 = 439 := by decide
theorem tz_400_39 : (0 ≤ ((400 : Nat) : Int) + 39) = True := by decide
theorem tg_415_28 : gTg 415 28 = 443 := by decide
theorem tz_415_28 : (0 ≤ ((415 : Nat) : Int) + 28) = True := by decide
theorem tg_436_m42 : gTg 436 (-42) = 394 := by decide
theorem tz_436_m42 : (0 ≤ ((436 : Nat) : Int) + (-42)) = True := by decide
theorem tg_452_m136 : gTg 452 (-136) = 316 := by decide
theorem tz_452_m136 : (0 ≤ ((452 : Nat) : Int) + (-136)) = True := by decide
