section
set_option maxRecDepth 100000 in
theorem lRX0_3 : Cond.methodLink RX0 3 Lib.objectInit ∈ q_tb := q_mt_1 203 rfl rfl
set_option maxRecDepth 100000 in
theorem uacI : Cond.arrayClass .int ∈ q_tb := q_mt_1 119 rfl rfl
set_option maxRecDepth 100000 in
theorem vRX0_9 : q_pff RX0 9 0 0 (tyX0 0) := ⟨_, _, _, tyX0, rfl, by decide, q_inT0, q_mt_1 204 rfl rfl, tyX0_ok, nmX0, rfl, rfl, tyX0_ok 0 (by decide)⟩
set_option maxRecDepth 100000 in
theorem vRX0_15 : q_pff RX0 15 0 2 (tyX0 2) := ⟨_, _, _, tyX0, rfl, by decide, q_inT0, q_mt_1 208 rfl rfl, tyX0_ok, nmX0, rfl, rfl, tyX0_ok 2 (by decide)⟩
set_option maxRecDepth 100000 in
theorem vRX0_18 : q_pff RX0 18 0 3 (tyX0 3) := ⟨_, _, _, tyX0, rfl, by decide, q_inT0, q_mt_1 209 rfl rfl, tyX0_ok, nmX0, rfl, rfl, tyX0_ok 3 (by decide)⟩
set_option maxRecDepth 100000 in
theorem vRX0_21 : q_pff RX0 21 0 4 (tyX0 4) := ⟨_, _, _, tyX0, rfl, by decide, q_inT0, q_mt_1 210 rfl rfl, tyX0_ok, nmX0, rfl, rfl, tyX0_ok 4 (by decide)⟩
set_option maxRecDepth 100000 in
theorem lRX1_3 : Cond.methodLink RX1 3 Lib.objectInit ∈ q_tb := q_mt_1 159 rfl rfl
set_option maxRecDepth 100000 in
theorem uclRX1_9 : Cond.classLink RX1 9 "[[I" ∈ q_tb := q_mt_1 160 rfl rfl
set_option maxRecDepth 100000 in
theorem uaoI : Cond.arrayOver (.array .int) ∈ q_nt := q_mn1 161 rfl rfl
set_option maxRecDepth 100000 in
theorem vRX1_11 : q_pff RX1 11 1 3 (tyX1 3) := ⟨_, _, _, tyX1, rfl, by decide, q_inT1, q_mt_1 170 rfl rfl, tyX1_ok, nmX1, rfl, rfl, tyX1_ok 3 (by decide)⟩
set_option maxRecDepth 100000 in
theorem vRX1_16 : q_pff RX1 16 1 4 (tyX1 4) := ⟨_, _, _, tyX1, rfl, by decide, q_inT1, q_mt_1 171 rfl rfl, tyX1_ok, nmX1, rfl, rfl, tyX1_ok 4 (by decide)⟩
set_option maxRecDepth 100000 in
theorem vRX1_19 : q_pff RX1 19 1 5 (tyX1 5) := ⟨_, _, _, tyX1, rfl, by decide, q_inT1, q_mt_1 172 rfl rfl, tyX1_ok, nmX1, rfl, rfl, tyX1_ok 5 (by decide)⟩
set_option maxRecDepth 100000 in
theorem vRX1_22 : q_pff RX1 22 1 6 (tyX1 6) := ⟨_, _, _, tyX1, rfl, by decide, q_inT1, q_mt_1 173 rfl rfl, tyX1_ok, nmX1, rfl, rfl, tyX1_ok 6 (by decide)⟩
set_option maxRecDepth 100000 in
theorem vRX1_26 : q_pff RX1 26 1 7 (tyX1 7) := ⟨_, _, _, tyX1, rfl, by decide, q_inT1, q_mt_1 174 rfl rfl, tyX1_ok, nmX1, rfl, rfl, tyX1_ok 7 (by decide)⟩
set_option maxRecDepth 100000 in
theorem kRX1_29 : Jvm.Cond.constant RX1 29 (40804) ∈ q_tb := q_mt_1 162 rfl rfl
set_option maxRecDepth 100000 in
theorem vRX1_30 : q_pff RX1 30 1 8 (tyX1 8) := ⟨_, _, _, tyX1, rfl, by decide, q_inT1, q_mt_1 175 rfl rfl, tyX1_ok, nmX1, rfl, rfl, tyX1_ok 8 (by decide)⟩
set_option maxRecDepth 100000 in
theorem kRX1_33 : Jvm.Cond.constant RX1 33 (40401) ∈ q_tb := q_mt_1 163 rfl rfl
set_option maxRecDepth 100000 in
theorem vRX1_34 : q_pff RX1 34 1 9 (tyX1 9) := ⟨_, _, _, tyX1, rfl, by decide, q_inT1, q_mt_1 176 rfl rfl, tyX1_ok, nmX1, rfl, rfl, tyX1_ok 9 (by decide)⟩
set_option maxRecDepth 100000 in
theorem lRX2_3 : Cond.methodLink RX2 3 Lib.objectInit ∈ q_tb := q_mt_1 227 rfl rfl
set_option maxRecDepth 100000 in
theorem vRX2_11 : q_pff RX2 11 2 3 (tyX2 3) := ⟨_, _, _, tyX2, rfl, by decide, q_inT2, q_mt_1 232 rfl rfl, tyX2_ok, nmX2, rfl, rfl, tyX2_ok 3 (by decide)⟩
set_option maxRecDepth 100000 in
theorem vRX2_15 : q_pff RX2 15 2 4 (tyX2 4) := ⟨_, _, _, tyX2, rfl, by decide, q_inT2, q_mt_1 233 rfl rfl, tyX2_ok, nmX2, rfl, rfl, tyX2_ok 4 (by decide)⟩
set_option maxRecDepth 100000 in
theorem vRX2_18 : q_pff RX2 18 2 5 (tyX2 5) := ⟨_, _, _, tyX2, rfl, by decide, q_inT2, q_mt_1 234 rfl rfl, tyX2_ok, nmX2, rfl, rfl, tyX2_ok 5 (by decide)⟩
set_option maxRecDepth 100000 in
theorem vRX2_21 : q_pff RX2 21 2 6 (tyX2 6) := ⟨_, _, _, tyX2, rfl, by decide, q_inT2, q_mt_1 235 rfl rfl, tyX2_ok, nmX2, rfl, rfl, tyX2_ok 6 (by decide)⟩
set_option maxRecDepth 100000 in
theorem vRX2_24 : q_pff RX2 24 2 7 (tyX2 7) := ⟨_, _, _, tyX2, rfl, by decide, q_inT2, q_mt_1 236 rfl rfl, tyX2_ok, nmX2, rfl, rfl, tyX2_ok 7 (by decide)⟩
set_option maxRecDepth 100000 in
theorem vRX2_27 : q_pff RX2 27 2 8 (tyX2 8) := ⟨_, _, _, tyX2, rfl, by decide, q_inT2, q_mt_1 237 rfl rfl, tyX2_ok, nmX2, rfl, rfl, tyX2_ok 8 (by decide)⟩
set_option maxRecDepth 100000 in
theorem vRX2_30 : q_pff RX2 30 2 9 (tyX2 9) := ⟨_, _, _, tyX2, rfl, by decide, q_inT2, q_mt_1 238 rfl rfl, tyX2_ok, nmX2, rfl, rfl, tyX2_ok 9 (by decide)⟩
set_option maxRecDepth 100000 in
theorem lRX3_5 : Cond.methodLink RX3 5 Lib.objectInit ∈ q_tb := q_mt_2 202 rfl rfl
set_option maxRecDepth 100000 in
theorem vRX3_11 : q_pff RX3 11 3 2 (tyX3 2) := ⟨_, _, _, tyX3, rfl, by decide, q_inT3, q_mt_2 205 rfl rfl, tyX3_ok, nmX3, rfl, rfl, tyX3_ok 2 (by decide)⟩
set_option maxRecDepth 100000 in
theorem vRX3_15 : q_pff RX3 15 3 3 (tyX3 3) := ⟨_, _, _, tyX3, rfl, by decide, q_inT3, q_mt_2 206 rfl rfl, tyX3_ok, nmX3, rfl, rfl, tyX3_ok 3 (by decide)⟩
set_option maxRecDepth 100000 in
theorem vRX3_18 : q_pff RX3 18 3 4 (tyX3 4) := ⟨_, _, _, tyX3, rfl, by decide, q_inT3, q_mt_2 207 rfl rfl, tyX3_ok, nmX3, rfl, rfl, tyX3_ok 4 (by decide)⟩
set_option maxRecDepth 100000 in
theorem vRX3_21 : q_pff RX3 21 3 5 (tyX3 5) := ⟨_, _, _, tyX3, rfl, by decide, q_inT3, q_mt_2 208 rfl rfl, tyX3_ok, nmX3, rfl, rfl, tyX3_ok 5 (by decide)⟩
set_option maxRecDepth 100000 in
theorem vRX3_24 : q_pff RX3 24 3 6 (tyX3 6) := ⟨_, _, _, tyX3, rfl, by decide, q_inT3, q_mt_2 209 rfl rfl, tyX3_ok, nmX3, rfl, rfl, tyX3_ok 6 (by decide)⟩
set_option maxRecDepth 100000 in
theorem vRX3_27 : q_pff RX3 27 3 7 (tyX3 7) := ⟨_, _, _, tyX3, rfl, by decide, q_inT3, q_mt_2 210 rfl rfl, tyX3_ok, nmX3, rfl, rfl, tyX3_ok 7 (by decide)⟩
set_option maxRecDepth 100000 in
theorem lRX4_3 : Cond.methodLink RX4 3 Lib.objectInit ∈ q_tb := q_mt_1 127 rfl rfl
set_option maxRecDepth 100000 in
theorem vRX4_11 : q_pff RX4 11 4 3 (tyX4 3) := ⟨_, _, _, tyX4, rfl, by decide, q_inT4, q_mt_1 132 rfl rfl, tyX4_ok, nmX4, rfl, rfl, tyX4_ok 3 (by decide)⟩
set_option maxRecDepth 100000 in
theorem vRX4_15 : q_pff RX4 15 4 4 (tyX4 4) := ⟨_, _, _, tyX4, rfl, by decide, q_inT4, q_mt_1 133 rfl rfl, tyX4_ok, nmX4, rfl, rfl, tyX4_ok 4 (by decide)⟩
set_option maxRecDepth 100000 in
theorem vRX4_18 : q_pff RX4 18 4 5 (tyX4 5) := ⟨_, _, _, tyX4, rfl, by decide, q_inT4, q_mt_1 134 rfl rfl, tyX4_ok, nmX4, rfl, rfl, tyX4_ok 5 (by decide)⟩
set_option maxRecDepth 100000 in
theorem vRX4_21 : q_pff RX4 21 4 6 (tyX4 6) := ⟨_, _, _, tyX4, rfl, by decide, q_inT4, q_mt_1 135 rfl rfl, tyX4_ok, nmX4, rfl, rfl, tyX4_ok 6 (by decide)⟩
set_option maxRecDepth 100000 in
theorem vRX4_24 : q_pff RX4 24 4 7 (tyX4 7) := ⟨_, _, _, tyX4, rfl, by decide, q_inT4, q_mt_1 136 rfl rfl, tyX4_ok, nmX4, rfl, rfl, tyX4_ok 7 (by decide)⟩
set_option maxRecDepth 100000 in
theorem lRX5_3 : Cond.methodLink RX5 3 Lib.objectInit ∈ q_tb := q_mt_3 62 rfl rfl
set_option maxRecDepth 100000 in
theorem vRX5_9 : q_pff RX5 9 5 5 (tyX5 5) := ⟨_, _, _, tyX5, rfl, by decide, q_inT5, q_mt_3 70 rfl rfl, tyX5_ok, nmX5, rfl, rfl, tyX5_ok 5 (by decide)⟩
set_option maxRecDepth 100000 in
theorem vRX5_15 : q_pff RX5 15 5 6 (tyX5 6) := ⟨_, _, _, tyX5, rfl, by decide, q_inT5, q_mt_3 71 rfl rfl, tyX5_ok, nmX5, rfl, rfl, tyX5_ok 6 (by decide)⟩
set_option maxRecDepth 100000 in
theorem uacZ : Cond.arrayClass .boolean ∈ q_tb := q_mt_2 88 rfl rfl
set_option maxRecDepth 100000 in
theorem vRX5_18 : q_pff RX5 18 5 7 (tyX5 7) := ⟨_, _, _, tyX5, rfl, by decide, q_inT5, q_mt_3 72 rfl rfl, tyX5_ok, nmX5, rfl, rfl, tyX5_ok 7 (by decide)⟩
set_option maxRecDepth 100000 in
theorem lRX6_3 : Cond.methodLink RX6 3 Lib.objectInit ∈ q_tb := q_mt_2 233 rfl rfl
set_option maxRecDepth 100000 in
theorem vRX6_9 : q_pff RX6 9 6 0 (tyX6 0) := ⟨_, _, _, tyX6, rfl, by decide, q_inT6, q_mt_2 234 rfl rfl, tyX6_ok, nmX6, rfl, rfl, tyX6_ok 0 (by decide)⟩
set_option maxRecDepth 100000 in
theorem vRX6_15 : q_pff RX6 15 6 2 (tyX6 2) := ⟨_, _, _, tyX6, rfl, by decide, q_inT6, q_mt_2 238 rfl rfl, tyX6_ok, nmX6, rfl, rfl, tyX6_ok 2 (by decide)⟩
set_option maxRecDepth 100000 in
theorem vRX6_18 : q_pff RX6 18 6 3 (tyX6 3) := ⟨_, _, _, tyX6, rfl, by decide, q_inT6, q_mt_3 0 rfl rfl, tyX6_ok, nmX6, rfl, rfl, tyX6_ok 3 (by decide)⟩
set_option maxRecDepth 100000 in
theorem vRX6_21 : q_pff RX6 21 6 9 (tyX6 9) := ⟨_, _, _, tyX6, rfl, by decide, q_inT6, q_mt_3 11 rfl rfl, tyX6_ok, nmX6, rfl, rfl, tyX6_ok 9 (by decide)⟩
set_option maxRecDepth 100000 in
theorem vRX6_24 : q_pff RX6 24 6 10 (tyX6 10) := ⟨_, _, _, tyX6, rfl, by decide, q_inT6, q_mt_3 12 rfl rfl, tyX6_ok, nmX6, rfl, rfl, tyX6_ok 10 (by decide)⟩
set_option maxRecDepth 100000 in
theorem vRX6_27 : q_pff RX6 27 6 11 (tyX6 11) := ⟨_, _, _, tyX6, rfl, by decide, q_inT6, q_mt_3 13 rfl rfl, tyX6_ok, nmX6, rfl, rfl, tyX6_ok 11 (by decide)⟩
set_option maxRecDepth 100000 in
theorem lRX7_3 : Cond.methodLink RX7 3 Lib.objectInit ∈ q_tb := q_mt_2 178 rfl rfl
set_option maxRecDepth 100000 in
theorem vRX7_9 : q_pff RX7 9 7 3 (tyX7 3) := ⟨_, _, _, tyX7, rfl, by decide, q_inT7, q_mt_2 185 rfl rfl, tyX7_ok, nmX7, rfl, rfl, tyX7_ok 3 (by decide)⟩
set_option maxRecDepth 100000 in
theorem lRX8_3 : Cond.methodLink RX8 3 Lib.objectInit ∈ q_tb := q_mt_2 93 rfl rfl
set_option maxRecDepth 100000 in
theorem gRX8_9 : q_gf RX8 9 8 0 := ⟨_, _, _, rfl, by decide, q_inT8, q_mt_2 97 rfl rfl⟩
set_option maxRecDepth 100000 in
theorem vRX8_9 : q_pff RX8 9 8 0 (tyX8 0) := ⟨_, _, _, tyX8, rfl, by decide, q_inT8, q_mt_2 97 rfl rfl, tyX8_ok, nmX8, rfl, rfl, tyX8_ok 0 (by decide)⟩
set_option maxRecDepth 100000 in
theorem vRX8_15 : q_pff RX8 15 8 2 (tyX8 2) := ⟨_, _, _, tyX8, rfl, by decide, q_inT8, q_mt_2 104 rfl rfl, tyX8_ok, nmX8, rfl, rfl, tyX8_ok 2 (by decide)⟩
set_option maxRecDepth 100000 in
theorem vRX8_18 : q_pff RX8 18 8 3 (tyX8 3) := ⟨_, _, _, tyX8, rfl, by decide, q_inT8, q_mt_2 109 rfl rfl, tyX8_ok, nmX8, rfl, rfl, tyX8_ok 3 (by decide)⟩
set_option maxRecDepth 100000 in
theorem vRX8_21 : q_pff RX8 21 8 4 (tyX8 4) := ⟨_, _, _, tyX8, rfl, by decide, q_inT8, q_mt_2 114 rfl rfl, tyX8_ok, nmX8, rfl, rfl, tyX8_ok 4 (by decide)⟩
set_option maxRecDepth 100000 in
theorem vRX8_24 : q_pff RX8 24 8 5 (tyX8 5) := ⟨_, _, _, tyX8, rfl, by decide, q_inT8, q_mt_2 119 rfl rfl, tyX8_ok, nmX8, rfl, rfl, tyX8_ok 5 (by decide)⟩
set_option maxRecDepth 100000 in
theorem vRX8_27 : q_pff RX8 27 8 6 (tyX8 6) := ⟨_, _, _, tyX8, rfl, by decide, q_inT8, q_mt_2 124 rfl rfl, tyX8_ok, nmX8, rfl, rfl, tyX8_ok 6 (by decide)⟩
set_option maxRecDepth 100000 in
theorem vRX8_30 : q_pff RX8 30 8 7 (tyX8 7) := ⟨_, _, _, tyX8, rfl, by decide, q_inT8, q_mt_2 126 rfl rfl, tyX8_ok, nmX8, rfl, rfl, tyX8_ok 7 (by decide)⟩
set_option maxRecDepth 100000 in
theorem vRX8_33 : q_pff RX8 33 8 8 (tyX8 8) := ⟨_, _, _, tyX8, rfl, by decide, q_inT8, q_mt_2 129 rfl rfl, tyX8_ok, nmX8, rfl, rfl, tyX8_ok 8 (by decide)⟩
set_option maxRecDepth 100000 in
theorem vRX8_36 : q_pff RX8 36 8 9 (tyX8 9) := ⟨_, _, _, tyX8, rfl, by decide, q_inT8, q_mt_2 132 rfl rfl, tyX8_ok, nmX8, rfl, rfl, tyX8_ok 9 (by decide)⟩
set_option maxRecDepth 100000 in
theorem vRX8_39 : q_pff RX8 39 8 10 (tyX8 10) := ⟨_, _, _, tyX8, rfl, by decide, q_inT8, q_mt_2 135 rfl rfl, tyX8_ok, nmX8, rfl, rfl, tyX8_ok 10 (by decide)⟩
set_option maxRecDepth 100000 in
theorem vRX8_43 : q_pff RX8 43 8 11 (tyX8 11) := ⟨_, _, _, tyX8, rfl, by decide, q_inT8, q_mt_2 138 rfl rfl, tyX8_ok, nmX8, rfl, rfl, tyX8_ok 11 (by decide)⟩
set_option maxRecDepth 100000 in
theorem vRX8_46 : q_pff RX8 46 8 12 (tyX8 12) := ⟨_, _, _, tyX8, rfl, by decide, q_inT8, q_mt_2 141 rfl rfl, tyX8_ok, nmX8, rfl, rfl, tyX8_ok 12 (by decide)⟩
set_option maxRecDepth 100000 in
theorem vRX8_49 : q_pff RX8 49 8 13 (tyX8 13) := ⟨_, _, _, tyX8, rfl, by decide, q_inT8, q_mt_2 143 rfl rfl, tyX8_ok, nmX8, rfl, rfl, tyX8_ok 13 (by decide)⟩
set_option maxRecDepth 100000 in
theorem lRX8_52 : Cond.methodLink RX8 52 yJ7_fill_53178 ∈ q_tb := q_mt_2 94 rfl rfl
set_option maxRecDepth 100000 in
theorem lRX9_3 : Cond.methodLink RX9 3 Lib.objectInit ∈ q_tb := q_mt_1 34 rfl rfl
set_option maxRecDepth 100000 in
theorem vRX9_9 : q_pff RX9 9 9 5 (tyX9 5) := ⟨_, _, _, tyX9, rfl, by decide, q_inT9, q_mt_1 54 rfl rfl, tyX9_ok, nmX9, rfl, rfl, tyX9_ok 5 (by decide)⟩
set_option maxRecDepth 100000 in
theorem vRX9_15 : q_pff RX9 15 9 6 (tyX9 6) := ⟨_, _, _, tyX9, rfl, by decide, q_inT9, q_mt_1 62 rfl rfl, tyX9_ok, nmX9, rfl, rfl, tyX9_ok 6 (by decide)⟩
set_option maxRecDepth 100000 in
theorem vRX9_18 : q_pff RX9 18 9 7 (tyX9 7) := ⟨_, _, _, tyX9, rfl, by decide, q_inT9, q_mt_1 67 rfl rfl, tyX9_ok, nmX9, rfl, rfl, tyX9_ok 7 (by decide)⟩
set_option maxRecDepth 100000 in
theorem vRX9_21 : q_pff RX9 21 9 8 (tyX9 8) := ⟨_, _, _, tyX9, rfl, by decide, q_inT9, q_mt_1 71 rfl rfl, tyX9_ok, nmX9, rfl, rfl, tyX9_ok 8 (by decide)⟩
set_option maxRecDepth 100000 in
theorem vRX9_24 : q_pff RX9 24 9 9 (tyX9 9) := ⟨_, _, _, tyX9, rfl, by decide, q_inT9, q_mt_1 74 rfl rfl, tyX9_ok, nmX9, rfl, rfl, tyX9_ok 9 (by decide)⟩
set_option maxRecDepth 100000 in
theorem vRX9_27 : q_pff RX9 27 9 10 (tyX9 10) := ⟨_, _, _, tyX9, rfl, by decide, q_inT9, q_mt_1 75 rfl rfl, tyX9_ok, nmX9, rfl, rfl, tyX9_ok 10 (by decide)⟩
set_option maxRecDepth 100000 in
theorem vRX9_30 : q_pff RX9 30 9 11 (tyX9 11) := ⟨_, _, _, tyX9, rfl, by decide, q_inT9, q_mt_1 78 rfl rfl, tyX9_ok, nmX9, rfl, rfl, tyX9_ok 11 (by decide)⟩
set_option maxRecDepth 100000 in
theorem vRX9_33 : q_pff RX9 33 9 12 (tyX9 12) := ⟨_, _, _, tyX9, rfl, by decide, q_inT9, q_mt_1 83 rfl rfl, tyX9_ok, nmX9, rfl, rfl, tyX9_ok 12 (by decide)⟩
set_option maxRecDepth 100000 in
theorem vRX9_36 : q_pff RX9 36 9 13 (tyX9 13) := ⟨_, _, _, tyX9, rfl, by decide, q_inT9, q_mt_1 87 rfl rfl, tyX9_ok, nmX9, rfl, rfl, tyX9_ok 13 (by decide)⟩
set_option maxRecDepth 100000 in
theorem lRX10_3 : Cond.methodLink RX10 3 Lib.objectInit ∈ q_tb := q_mt_2 25 rfl rfl
set_option maxRecDepth 100000 in
theorem vRX10_9 : q_pff RX10 9 10 2 (tyX10 2) := ⟨_, _, _, tyX10, rfl, by decide, q_inT10, q_mt_2 33 rfl rfl, tyX10_ok, nmX10, rfl, rfl, tyX10_ok 2 (by decide)⟩
set_option maxRecDepth 100000 in
theorem vRX10_15 : q_pff RX10 15 10 3 (tyX10 3) := ⟨_, _, _, tyX10, rfl, by decide, q_inT10, q_mt_2 35 rfl rfl, tyX10_ok, nmX10, rfl, rfl, tyX10_ok 3 (by decide)⟩
set_option maxRecDepth 100000 in
theorem uclRX10_18 : Cond.classLink RX10 18 "GrammarTools$Tree" ∈ q_tb := q_mt_2 26 rfl rfl
set_option maxRecDepth 100000 in
theorem uaoGrammarTools_Tree : Cond.arrayOver (.object "GrammarTools$Tree") ∈ q_nt := q_mn1 29 rfl rfl
set_option maxRecDepth 100000 in
theorem vRX10_20 : q_pff RX10 20 10 4 (tyX10 4) := ⟨_, _, _, tyX10, rfl, by decide, q_inT10, q_mt_2 37 rfl rfl, tyX10_ok, nmX10, rfl, rfl, tyX10_ok 4 (by decide)⟩
set_option maxRecDepth 100000 in
theorem vRX10_24 : q_pff RX10 24 10 5 (tyX10 5) := ⟨_, _, _, tyX10, rfl, by decide, q_inT10, q_mt_2 38 rfl rfl, tyX10_ok, nmX10, rfl, rfl, tyX10_ok 5 (by decide)⟩
set_option maxRecDepth 100000 in
theorem vRX10_27 : q_pff RX10 27 10 6 (tyX10 6) := ⟨_, _, _, tyX10, rfl, by decide, q_inT10, q_mt_2 39 rfl rfl, tyX10_ok, nmX10, rfl, rfl, tyX10_ok 6 (by decide)⟩
set_option maxRecDepth 100000 in
theorem vRX10_31 : q_pff RX10 31 10 7 (tyX10 7) := ⟨_, _, _, tyX10, rfl, by decide, q_inT10, q_mt_2 40 rfl rfl, tyX10_ok, nmX10, rfl, rfl, tyX10_ok 7 (by decide)⟩
set_option maxRecDepth 100000 in
theorem vRX10_34 : q_pff RX10 34 10 9 (tyX10 9) := ⟨_, _, _, tyX10, rfl, by decide, q_inT10, q_mt_2 42 rfl rfl, tyX10_ok, nmX10, rfl, rfl, tyX10_ok 9 (by decide)⟩
set_option maxRecDepth 100000 in
theorem nRX10_18 : q_nwf RX10 18 9 14 tyX9 := ⟨_, _, rfl, q_inT9, tyX9_ok, q_mt_2 26 rfl rfl, q_mt_1 30 rfl rfl, q_mt_1 2 rfl rfl⟩
set_option maxRecDepth 100000 in
theorem lRX10_37 : Cond.methodLinkNest RX10 37 yX9_init "GrammarTools" ∈ q_nt := q_mn2 27 rfl rfl
set_option maxRecDepth 100000 in
theorem mX9_init : q_mt yX9_init cX9_init 1 none 0 := ⟨q_mt_1 33 rfl rfl, q_mt_1 2 rfl rfl, ⟨q_ncRX9.1, q_ncRX9.2.1, by decide +kernel⟩, by decide⟩
set_option maxRecDepth 100000 in
theorem iX9_init : Cond.instanceMethod yX9_init ∈ q_tb := q_mt_1 32 rfl rfl
set_option maxRecDepth 100000 in
theorem vRX10_38 : q_pff RX10 38 10 10 (tyX10 10) := ⟨_, _, _, tyX10, rfl, by decide, q_inT10, q_mt_2 43 rfl rfl, tyX10_ok, nmX10, rfl, rfl, tyX10_ok 10 (by decide)⟩
set_option maxRecDepth 100000 in
theorem vRX10_42 : q_pff RX10 42 10 11 (tyX10 11) := ⟨_, _, _, tyX10, rfl, by decide, q_inT10, q_mt_2 44 rfl rfl, tyX10_ok, nmX10, rfl, rfl, tyX10_ok 11 (by decide)⟩
set_option maxRecDepth 100000 in
theorem uclRX10_45 : Cond.classLink RX10 45 "[[I" ∈ q_tb := q_mt_2 28 rfl rfl
set_option maxRecDepth 100000 in
theorem vRX10_47 : q_pff RX10 47 10 12 (tyX10 12) := ⟨_, _, _, tyX10, rfl, by decide, q_inT10, q_mt_2 45 rfl rfl, tyX10_ok, nmX10, rfl, rfl, tyX10_ok 12 (by decide)⟩
set_option maxRecDepth 100000 in
theorem vRX10_50 : q_pff RX10 50 10 13 (tyX10 13) := ⟨_, _, _, tyX10, rfl, by decide, q_inT10, q_mt_2 46 rfl rfl, tyX10_ok, nmX10, rfl, rfl, tyX10_ok 13 (by decide)⟩
set_option maxRecDepth 100000 in
theorem vRX10_53 : q_pff RX10 53 10 14 (tyX10 14) := ⟨_, _, _, tyX10, rfl, by decide, q_inT10, q_mt_2 47 rfl rfl, tyX10_ok, nmX10, rfl, rfl, tyX10_ok 14 (by decide)⟩
set_option maxRecDepth 100000 in
theorem vRX10_56 : q_pff RX10 56 10 16 (tyX10 16) := ⟨_, _, _, tyX10, rfl, by decide, q_inT10, q_mt_2 49 rfl rfl, tyX10_ok, nmX10, rfl, rfl, tyX10_ok 16 (by decide)⟩
set_option maxRecDepth 100000 in
theorem vRX10_59 : q_pff RX10 59 10 17 (tyX10 17) := ⟨_, _, _, tyX10, rfl, by decide, q_inT10, q_mt_2 50 rfl rfl, tyX10_ok, nmX10, rfl, rfl, tyX10_ok 17 (by decide)⟩
set_option maxRecDepth 100000 in
theorem lRX11_3 : Cond.methodLink RX11 3 Lib.objectInit ∈ q_tb := q_mt_1 23 rfl rfl
set_option maxRecDepth 100000 in
theorem uclRX11_9 : Cond.classLink RX11 9 "GrammarTools$Telling" ∈ q_tb := q_mt_1 26 rfl rfl
set_option maxRecDepth 100000 in
theorem uaoGrammarTools_Telling : Cond.arrayOver (.object "GrammarTools$Telling") ∈ q_nt := q_mn1 27 rfl rfl
set_option maxRecDepth 100000 in
theorem vRX11_11 : q_pff RX11 11 11 0 (tyX11 0) := ⟨_, _, _, tyX11, rfl, by decide, q_inT11, q_mt_3 90 rfl rfl, tyX11_ok, nmX11, rfl, rfl, tyX11_ok 0 (by decide)⟩
set_option maxRecDepth 100000 in
theorem vRX11_15 : q_pff RX11 15 11 1 (tyX11 1) := ⟨_, _, _, tyX11, rfl, by decide, q_inT11, q_mt_3 91 rfl rfl, tyX11_ok, nmX11, rfl, rfl, tyX11_ok 1 (by decide)⟩
set_option maxRecDepth 100000 in
theorem vRX11_19 : q_pff RX11 19 11 2 (tyX11 2) := ⟨_, _, _, tyX11, rfl, by decide, q_inT11, q_mt_3 92 rfl rfl, tyX11_ok, nmX11, rfl, rfl, tyX11_ok 2 (by decide)⟩
set_option maxRecDepth 100000 in
theorem uclRX11_22 : Cond.classLink RX11 22 "GrammarTools$Tree" ∈ q_tb := q_mt_1 28 rfl rfl
set_option maxRecDepth 100000 in
theorem vRX11_24 : q_pff RX11 24 11 3 (tyX11 3) := ⟨_, _, _, tyX11, rfl, by decide, q_inT11, q_mt_3 93 rfl rfl, tyX11_ok, nmX11, rfl, rfl, tyX11_ok 3 (by decide)⟩
set_option maxRecDepth 100000 in
theorem nRX11_22 : q_nwf RX11 22 9 14 tyX9 := ⟨_, _, rfl, q_inT9, tyX9_ok, q_mt_1 28 rfl rfl, q_mt_1 30 rfl rfl, q_mt_1 2 rfl rfl⟩
set_option maxRecDepth 100000 in
theorem lRX11_28 : Cond.methodLinkNest RX11 28 yX9_init "GrammarTools" ∈ q_nt := q_mn1 31 rfl rfl
set_option maxRecDepth 100000 in
theorem vRX11_29 : q_pff RX11 29 11 4 (tyX11 4) := ⟨_, _, _, tyX11, rfl, by decide, q_inT11, q_mt_3 94 rfl rfl, tyX11_ok, nmX11, rfl, rfl, tyX11_ok 4 (by decide)⟩
set_option maxRecDepth 100000 in
theorem vRX11_33 : q_pff RX11 33 11 5 (tyX11 5) := ⟨_, _, _, tyX11, rfl, by decide, q_inT11, q_mt_3 95 rfl rfl, tyX11_ok, nmX11, rfl, rfl, tyX11_ok 5 (by decide)⟩
set_option maxRecDepth 100000 in
theorem vRX11_36 : q_pff RX11 36 11 6 (tyX11 6) := ⟨_, _, _, tyX11, rfl, by decide, q_inT11, q_mt_3 96 rfl rfl, tyX11_ok, nmX11, rfl, rfl, tyX11_ok 6 (by decide)⟩
set_option maxRecDepth 100000 in
theorem vRX11_39 : q_pff RX11 39 11 7 (tyX11 7) := ⟨_, _, _, tyX11, rfl, by decide, q_inT11, q_mt_3 97 rfl rfl, tyX11_ok, nmX11, rfl, rfl, tyX11_ok 7 (by decide)⟩
set_option maxRecDepth 100000 in
theorem vRX11_42 : q_pff RX11 42 11 8 (tyX11 8) := ⟨_, _, _, tyX11, rfl, by decide, q_inT11, q_mt_3 98 rfl rfl, tyX11_ok, nmX11, rfl, rfl, tyX11_ok 8 (by decide)⟩
set_option maxRecDepth 100000 in
theorem uclRX11_45 : Cond.classLink RX11 45 "GrammarTools$Sheet" ∈ q_tb := q_mt_1 120 rfl rfl
set_option maxRecDepth 100000 in
theorem uaoGrammarTools_Sheet : Cond.arrayOver (.object "GrammarTools$Sheet") ∈ q_nt := q_mn1 121 rfl rfl
set_option maxRecDepth 100000 in
theorem vRX11_47 : q_pff RX11 47 11 9 (tyX11 9) := ⟨_, _, _, tyX11, rfl, by decide, q_inT11, q_mt_3 99 rfl rfl, tyX11_ok, nmX11, rfl, rfl, tyX11_ok 9 (by decide)⟩
set_option maxRecDepth 100000 in
theorem nRX11_51 : q_nwf RX11 51 4 8 tyX4 := ⟨_, _, rfl, q_inT4, tyX4_ok, q_mt_1 122 rfl rfl, q_mt_1 123 rfl rfl, q_mt_1 3 rfl rfl⟩
set_option maxRecDepth 100000 in
theorem lRX11_53 : Cond.methodLinkNest RX11 53 yX4_init "GrammarTools" ∈ q_nt := q_mn1 124 rfl rfl
set_option maxRecDepth 100000 in
theorem mX4_init : q_mt yX4_init cX4_init 1 none 0 := ⟨q_mt_1 126 rfl rfl, q_mt_1 3 rfl rfl, ⟨q_ncRX4.1, q_ncRX4.2.1, by decide +kernel⟩, by decide⟩
set_option maxRecDepth 100000 in
theorem iX4_init : Cond.instanceMethod yX4_init ∈ q_tb := q_mt_1 125 rfl rfl
set_option maxRecDepth 100000 in
theorem vRX11_54 : q_pff RX11 54 11 11 (tyX11 11) := ⟨_, _, _, tyX11, rfl, by decide, q_inT11, q_mt_3 101 rfl rfl, tyX11_ok, nmX11, rfl, rfl, tyX11_ok 11 (by decide)⟩
set_option maxRecDepth 100000 in
theorem nRX11_58 : q_nwf RX11 58 1 10 tyX1 := ⟨_, _, rfl, q_inT1, tyX1_ok, q_mt_1 154 rfl rfl, q_mt_1 155 rfl rfl, q_mt_1 4 rfl rfl⟩
set_option maxRecDepth 100000 in
theorem lRX11_60 : Cond.methodLinkNest RX11 60 yX1_init "GrammarTools" ∈ q_nt := q_mn1 156 rfl rfl
set_option maxRecDepth 100000 in
theorem mX1_init : q_mt yX1_init cX1_init 1 none 0 := ⟨q_mt_1 158 rfl rfl, q_mt_1 4 rfl rfl, ⟨q_ncRX1.1, q_ncRX1.2.1, by decide +kernel⟩, by decide⟩
set_option maxRecDepth 100000 in
theorem iX1_init : Cond.instanceMethod yX1_init ∈ q_tb := q_mt_1 157 rfl rfl
set_option maxRecDepth 100000 in
theorem vRX11_61 : q_pff RX11 61 11 13 (tyX11 13) := ⟨_, _, _, tyX11, rfl, by decide, q_inT11, q_mt_3 103 rfl rfl, tyX11_ok, nmX11, rfl, rfl, tyX11_ok 13 (by decide)⟩
set_option maxRecDepth 100000 in
theorem nRX11_65 : q_nwf RX11 65 0 5 tyX0 := ⟨_, _, rfl, q_inT0, tyX0_ok, q_mt_1 198 rfl rfl, q_mt_1 199 rfl rfl, q_mt_1 5 rfl rfl⟩
set_option maxRecDepth 100000 in
theorem lRX11_67 : Cond.methodLinkNest RX11 67 yX0_init "GrammarTools" ∈ q_nt := q_mn1 200 rfl rfl
set_option maxRecDepth 100000 in
theorem mX0_init : q_mt yX0_init cX0_init 1 none 0 := ⟨q_mt_1 202 rfl rfl, q_mt_1 5 rfl rfl, ⟨q_ncRX0.1, q_ncRX0.2.1, by decide +kernel⟩, by decide⟩
set_option maxRecDepth 100000 in
theorem iX0_init : Cond.instanceMethod yX0_init ∈ q_tb := q_mt_1 201 rfl rfl
set_option maxRecDepth 100000 in
theorem vRX11_68 : q_pff RX11 68 11 14 (tyX11 14) := ⟨_, _, _, tyX11, rfl, by decide, q_inT11, q_mt_3 104 rfl rfl, tyX11_ok, nmX11, rfl, rfl, tyX11_ok 14 (by decide)⟩
set_option maxRecDepth 100000 in
theorem nRX11_72 : q_nwf RX11 72 2 10 tyX2 := ⟨_, _, rfl, q_inT2, tyX2_ok, q_mt_1 222 rfl rfl, q_mt_1 223 rfl rfl, q_mt_1 6 rfl rfl⟩
set_option maxRecDepth 100000 in
theorem lRX11_74 : Cond.methodLinkNest RX11 74 yX2_init "GrammarTools" ∈ q_nt := q_mn1 224 rfl rfl
set_option maxRecDepth 100000 in
theorem mX2_init : q_mt yX2_init cX2_init 1 none 0 := ⟨q_mt_1 226 rfl rfl, q_mt_1 6 rfl rfl, ⟨q_ncRX2.1, q_ncRX2.2.1, by decide +kernel⟩, by decide⟩
set_option maxRecDepth 100000 in
theorem iX2_init : Cond.instanceMethod yX2_init ∈ q_tb := q_mt_1 225 rfl rfl
set_option maxRecDepth 100000 in
theorem vRX11_75 : q_pff RX11 75 11 15 (tyX11 15) := ⟨_, _, _, tyX11, rfl, by decide, q_inT11, q_mt_3 105 rfl rfl, tyX11_ok, nmX11, rfl, rfl, tyX11_ok 15 (by decide)⟩
set_option maxRecDepth 100000 in
theorem nRX11_79 : q_nwf RX11 79 10 18 tyX10 := ⟨_, _, rfl, q_inT10, tyX10_ok, q_mt_2 20 rfl rfl, q_mt_2 21 rfl rfl, q_mt_1 7 rfl rfl⟩
set_option maxRecDepth 100000 in
theorem lRX11_81 : Cond.methodLink RX11 81 yX10_init ∈ q_tb := q_mt_2 22 rfl rfl
set_option maxRecDepth 100000 in
theorem mX10_init : q_mt yX10_init cX10_init 2 none 0 := ⟨q_mt_2 24 rfl rfl, q_mt_1 7 rfl rfl, ⟨q_ncRX10.1, q_ncRX10.2.1, by decide +kernel⟩, by decide⟩
set_option maxRecDepth 100000 in
theorem iX10_init : Cond.instanceMethod yX10_init ∈ q_tb := q_mt_2 23 rfl rfl
set_option maxRecDepth 100000 in
theorem vRX11_82 : q_pff RX11 82 11 17 (tyX11 17) := ⟨_, _, _, tyX11, rfl, by decide, q_inT11, q_mt_3 107 rfl rfl, tyX11_ok, nmX11, rfl, rfl, tyX11_ok 17 (by decide)⟩
set_option maxRecDepth 100000 in
theorem nRX11_9 : q_nwf RX11 9 8 14 tyX8 := ⟨_, _, rfl, q_inT8, tyX8_ok, q_mt_1 26 rfl rfl, q_mt_2 89 rfl rfl, q_mt_1 8 rfl rfl⟩
set_option maxRecDepth 100000 in
theorem lRX11_86 : Cond.methodLink RX11 86 yX8_init ∈ q_tb := q_mt_2 90 rfl rfl
set_option maxRecDepth 100000 in
theorem mX8_init : q_mt yX8_init cX8_init 1 none 0 := ⟨q_mt_2 92 rfl rfl, q_mt_1 8 rfl rfl, ⟨q_ncRX8.1, q_ncRX8.2.1, by decide +kernel⟩, by decide⟩
set_option maxRecDepth 100000 in
theorem iX8_init : Cond.instanceMethod yX8_init ∈ q_tb := q_mt_2 91 rfl rfl
set_option maxRecDepth 100000 in
theorem nRX11_45 : q_nwf RX11 45 7 4 tyX7 := ⟨_, _, rfl, q_inT7, tyX7_ok, q_mt_1 120 rfl rfl, q_mt_2 174 rfl rfl, q_mt_1 10 rfl rfl⟩
set_option maxRecDepth 100000 in
theorem lRX11_87 : Cond.methodLinkNest RX11 87 yX7_init "GrammarTools" ∈ q_nt := q_mn2 175 rfl rfl
set_option maxRecDepth 100000 in
theorem mX7_init : q_mt yX7_init cX7_init 1 none 0 := ⟨q_mt_2 177 rfl rfl, q_mt_1 10 rfl rfl, ⟨q_ncRX7.1, q_ncRX7.2.1, by decide +kernel⟩, by decide⟩
set_option maxRecDepth 100000 in
theorem iX7_init : Cond.instanceMethod yX7_init ∈ q_tb := q_mt_2 176 rfl rfl
set_option maxRecDepth 100000 in
theorem nRX11_94 : q_nwf RX11 94 3 8 tyX3 := ⟨_, _, rfl, q_inT3, tyX3_ok, q_mt_2 197 rfl rfl, q_mt_2 198 rfl rfl, q_mt_1 11 rfl rfl⟩
set_option maxRecDepth 100000 in
theorem lRX11_96 : Cond.methodLink RX11 96 yX3_init ∈ q_tb := q_mt_2 199 rfl rfl
set_option maxRecDepth 100000 in
theorem mX3_init : q_mt yX3_init cX3_init 2 none 1 := ⟨q_mt_2 201 rfl rfl, q_mt_1 11 rfl rfl, ⟨q_ncRX3.1, q_ncRX3.2.1, by decide +kernel⟩, by decide⟩
set_option maxRecDepth 100000 in
theorem iX3_init : Cond.instanceMethod yX3_init ∈ q_tb := q_mt_2 200 rfl rfl
set_option maxRecDepth 100000 in
theorem vRX11_99 : q_pff RX11 99 11 10 (tyX11 10) := ⟨_, _, _, tyX11, rfl, by decide, q_inT11, q_mt_3 100 rfl rfl, tyX11_ok, nmX11, rfl, rfl, tyX11_ok 10 (by decide)⟩
set_option maxRecDepth 100000 in
theorem nRX11_103 : q_nwf RX11 103 6 18 tyX6 := ⟨_, _, rfl, q_inT6, tyX6_ok, q_mt_2 228 rfl rfl, q_mt_2 229 rfl rfl, q_mt_1 12 rfl rfl⟩
set_option maxRecDepth 100000 in
theorem lRX11_105 : Cond.methodLink RX11 105 yX6_init ∈ q_tb := q_mt_2 230 rfl rfl
set_option maxRecDepth 100000 in
theorem mX6_init : q_mt yX6_init cX6_init 2 none 1 := ⟨q_mt_2 232 rfl rfl, q_mt_1 12 rfl rfl, ⟨q_ncRX6.1, q_ncRX6.2.1, by decide +kernel⟩, by decide⟩
set_option maxRecDepth 100000 in
theorem iX6_init : Cond.instanceMethod yX6_init ∈ q_tb := q_mt_2 231 rfl rfl
set_option maxRecDepth 100000 in
theorem vRX11_106 : q_pff RX11 106 11 12 (tyX11 12) := ⟨_, _, _, tyX11, rfl, by decide, q_inT11, q_mt_3 102 rfl rfl, tyX11_ok, nmX11, rfl, rfl, tyX11_ok 12 (by decide)⟩
set_option maxRecDepth 100000 in
theorem nRX11_110 : q_nwf RX11 110 5 8 tyX5 := ⟨_, _, rfl, q_inT5, tyX5_ok, q_mt_3 57 rfl rfl, q_mt_3 58 rfl rfl, q_mt_1 13 rfl rfl⟩
set_option maxRecDepth 100000 in
theorem lRX11_112 : Cond.methodLink RX11 112 yX5_init ∈ q_tb := q_mt_3 59 rfl rfl
set_option maxRecDepth 100000 in
theorem mX5_init : q_mt yX5_init cX5_init 3 none 2 := ⟨q_mt_3 61 rfl rfl, q_mt_1 13 rfl rfl, ⟨q_ncRX5.1, q_ncRX5.2.1, by decide +kernel⟩, by decide⟩
set_option maxRecDepth 100000 in
theorem iX5_init : Cond.instanceMethod yX5_init ∈ q_tb := q_mt_3 60 rfl rfl
set_option maxRecDepth 100000 in
theorem vRX11_115 : q_pff RX11 115 11 16 (tyX11 16) := ⟨_, _, _, tyX11, rfl, by decide, q_inT11, q_mt_3 106 rfl rfl, tyX11_ok, nmX11, rfl, rfl, tyX11_ok 16 (by decide)⟩
set_option maxRecDepth 100000 in
theorem lRX12_1 : Cond.methodLink RX12 1 Lib.objectInit ∈ q_tb := q_mt_7 117 rfl rfl
set_option maxRecDepth 100000 in
theorem vRX12_7 : q_pff RX12 7 12 0 (tyX12 0) := ⟨_, _, _, tyX12, rfl, by decide, q_inT12, q_mt_7 120 rfl rfl, tyX12_ok, nmX12, rfl, rfl, tyX12_ok 0 (by decide)⟩
set_option maxRecDepth 100000 in
theorem vRX12_13 : q_pff RX12 13 12 1 (tyX12 1) := ⟨_, _, _, tyX12, rfl, by decide, q_inT12, q_mt_7 121 rfl rfl, tyX12_ok, nmX12, rfl, rfl, tyX12_ok 1 (by decide)⟩
set_option maxRecDepth 100000 in
theorem vRX12_16 : q_pff RX12 16 12 2 (tyX12 2) := ⟨_, _, _, tyX12, rfl, by decide, q_inT12, q_mt_7 122 rfl rfl, tyX12_ok, nmX12, rfl, rfl, tyX12_ok 2 (by decide)⟩
set_option maxRecDepth 100000 in
theorem vRX12_19 : q_pff RX12 19 12 3 (tyX12 3) := ⟨_, _, _, tyX12, rfl, by decide, q_inT12, q_mt_7 123 rfl rfl, tyX12_ok, nmX12, rfl, rfl, tyX12_ok 3 (by decide)⟩
set_option maxRecDepth 100000 in
theorem vRX12_22 : q_pff RX12 22 12 4 (tyX12 4) := ⟨_, _, _, tyX12, rfl, by decide, q_inT12, q_mt_7 124 rfl rfl, tyX12_ok, nmX12, rfl, rfl, tyX12_ok 4 (by decide)⟩
set_option maxRecDepth 100000 in
theorem vRX12_25 : q_pff RX12 25 12 5 (tyX12 5) := ⟨_, _, _, tyX12, rfl, by decide, q_inT12, q_mt_7 125 rfl rfl, tyX12_ok, nmX12, rfl, rfl, tyX12_ok 5 (by decide)⟩
set_option maxRecDepth 100000 in
theorem vRX12_28 : q_pff RX12 28 12 6 (tyX12 6) := ⟨_, _, _, tyX12, rfl, by decide, q_inT12, q_mt_7 126 rfl rfl, tyX12_ok, nmX12, rfl, rfl, tyX12_ok 6 (by decide)⟩
set_option maxRecDepth 100000 in
theorem vRX12_31 : q_pff RX12 31 12 7 (tyX12 7) := ⟨_, _, _, tyX12, rfl, by decide, q_inT12, q_mt_7 127 rfl rfl, tyX12_ok, nmX12, rfl, rfl, tyX12_ok 7 (by decide)⟩
set_option maxRecDepth 100000 in
theorem vRX12_35 : q_pff RX12 35 12 8 (tyX12 8) := ⟨_, _, _, tyX12, rfl, by decide, q_inT12, q_mt_7 128 rfl rfl, tyX12_ok, nmX12, rfl, rfl, tyX12_ok 8 (by decide)⟩
set_option maxRecDepth 100000 in
theorem vRX12_38 : q_pff RX12 38 12 9 (tyX12 9) := ⟨_, _, _, tyX12, rfl, by decide, q_inT12, q_mt_7 129 rfl rfl, tyX12_ok, nmX12, rfl, rfl, tyX12_ok 9 (by decide)⟩
set_option maxRecDepth 100000 in
theorem vRX12_41 : q_pff RX12 41 12 10 (tyX12 10) := ⟨_, _, _, tyX12, rfl, by decide, q_inT12, q_mt_7 130 rfl rfl, tyX12_ok, nmX12, rfl, rfl, tyX12_ok 10 (by decide)⟩
set_option maxRecDepth 100000 in
theorem vRX12_44 : q_pff RX12 44 12 11 (tyX12 11) := ⟨_, _, _, tyX12, rfl, by decide, q_inT12, q_mt_7 131 rfl rfl, tyX12_ok, nmX12, rfl, rfl, tyX12_ok 11 (by decide)⟩
set_option maxRecDepth 100000 in
theorem vRX12_47 : q_pff RX12 47 12 12 (tyX12 12) := ⟨_, _, _, tyX12, rfl, by decide, q_inT12, q_mt_7 132 rfl rfl, tyX12_ok, nmX12, rfl, rfl, tyX12_ok 12 (by decide)⟩
set_option maxRecDepth 100000 in
theorem vRX12_50 : q_pff RX12 50 12 13 (tyX12 13) := ⟨_, _, _, tyX12, rfl, by decide, q_inT12, q_mt_7 133 rfl rfl, tyX12_ok, nmX12, rfl, rfl, tyX12_ok 13 (by decide)⟩
set_option maxRecDepth 100000 in
theorem vRX12_53 : q_pff RX12 53 12 14 (tyX12 14) := ⟨_, _, _, tyX12, rfl, by decide, q_inT12, q_mt_7 134 rfl rfl, tyX12_ok, nmX12, rfl, rfl, tyX12_ok 14 (by decide)⟩
set_option maxRecDepth 100000 in
theorem vRX12_56 : q_pff RX12 56 12 15 (tyX12 15) := ⟨_, _, _, tyX12, rfl, by decide, q_inT12, q_mt_7 135 rfl rfl, tyX12_ok, nmX12, rfl, rfl, tyX12_ok 15 (by decide)⟩
set_option maxRecDepth 100000 in
theorem vRX12_59 : q_pff RX12 59 12 16 (tyX12 16) := ⟨_, _, _, tyX12, rfl, by decide, q_inT12, q_mt_7 136 rfl rfl, tyX12_ok, nmX12, rfl, rfl, tyX12_ok 16 (by decide)⟩
set_option maxRecDepth 100000 in
theorem vRX12_62 : q_pff RX12 62 12 17 (tyX12 17) := ⟨_, _, _, tyX12, rfl, by decide, q_inT12, q_mt_7 137 rfl rfl, tyX12_ok, nmX12, rfl, rfl, tyX12_ok 17 (by decide)⟩
set_option maxRecDepth 100000 in
theorem vRX12_65 : q_pff RX12 65 12 18 (tyX12 18) := ⟨_, _, _, tyX12, rfl, by decide, q_inT12, q_mt_7 138 rfl rfl, tyX12_ok, nmX12, rfl, rfl, tyX12_ok 18 (by decide)⟩
set_option maxRecDepth 100000 in
theorem vRX12_68 : q_pff RX12 68 12 19 (tyX12 19) := ⟨_, _, _, tyX12, rfl, by decide, q_inT12, q_mt_7 139 rfl rfl, tyX12_ok, nmX12, rfl, rfl, tyX12_ok 19 (by decide)⟩
set_option maxRecDepth 100000 in
theorem vRX12_71 : q_pff RX12 71 12 20 (tyX12 20) := ⟨_, _, _, tyX12, rfl, by decide, q_inT12, q_mt_7 140 rfl rfl, tyX12_ok, nmX12, rfl, rfl, tyX12_ok 20 (by decide)⟩
set_option maxRecDepth 100000 in
theorem vRX12_74 : q_pff RX12 74 12 21 (tyX12 21) := ⟨_, _, _, tyX12, rfl, by decide, q_inT12, q_mt_7 141 rfl rfl, tyX12_ok, nmX12, rfl, rfl, tyX12_ok 21 (by decide)⟩
set_option maxRecDepth 100000 in
theorem vRX12_77 : q_pff RX12 77 12 24 (tyX12 24) := ⟨_, _, _, tyX12, rfl, by decide, q_inT12, q_mt_7 144 rfl rfl, tyX12_ok, nmX12, rfl, rfl, tyX12_ok 24 (by decide)⟩
set_option maxRecDepth 100000 in
theorem vRX12_80 : q_pff RX12 80 12 25 (tyX12 25) := ⟨_, _, _, tyX12, rfl, by decide, q_inT12, q_mt_7 145 rfl rfl, tyX12_ok, nmX12, rfl, rfl, tyX12_ok 25 (by decide)⟩
set_option maxRecDepth 100000 in
theorem vRX12_83 : q_pff RX12 83 12 26 (tyX12 26) := ⟨_, _, _, tyX12, rfl, by decide, q_inT12, q_mt_7 146 rfl rfl, tyX12_ok, nmX12, rfl, rfl, tyX12_ok 26 (by decide)⟩
set_option maxRecDepth 100000 in
theorem vRX12_86 : q_pff RX12 86 12 27 (tyX12 27) := ⟨_, _, _, tyX12, rfl, by decide, q_inT12, q_mt_7 147 rfl rfl, tyX12_ok, nmX12, rfl, rfl, tyX12_ok 27 (by decide)⟩
set_option maxRecDepth 100000 in
theorem vRX12_89 : q_pff RX12 89 12 28 (tyX12 28) := ⟨_, _, _, tyX12, rfl, by decide, q_inT12, q_mt_7 148 rfl rfl, tyX12_ok, nmX12, rfl, rfl, tyX12_ok 28 (by decide)⟩
set_option maxRecDepth 100000 in
theorem vRX12_92 : q_pff RX12 92 12 29 (tyX12 29) := ⟨_, _, _, tyX12, rfl, by decide, q_inT12, q_mt_7 149 rfl rfl, tyX12_ok, nmX12, rfl, rfl, tyX12_ok 29 (by decide)⟩
set_option maxRecDepth 100000 in
theorem vRX12_95 : q_pff RX12 95 12 30 (tyX12 30) := ⟨_, _, _, tyX12, rfl, by decide, q_inT12, q_mt_7 150 rfl rfl, tyX12_ok, nmX12, rfl, rfl, tyX12_ok 30 (by decide)⟩
set_option maxRecDepth 100000 in
theorem vRX12_98 : q_pff RX12 98 12 36 (tyX12 36) := ⟨_, _, _, tyX12, rfl, by decide, q_inT12, q_mt_7 156 rfl rfl, tyX12_ok, nmX12, rfl, rfl, tyX12_ok 36 (by decide)⟩
set_option maxRecDepth 100000 in
theorem vRX12_101 : q_pff RX12 101 12 37 (tyX12 37) := ⟨_, _, _, tyX12, rfl, by decide, q_inT12, q_mt_7 157 rfl rfl, tyX12_ok, nmX12, rfl, rfl, tyX12_ok 37 (by decide)⟩
set_option maxRecDepth 100000 in
theorem vRX12_104 : q_pff RX12 104 12 38 (tyX12 38) := ⟨_, _, _, tyX12, rfl, by decide, q_inT12, q_mt_7 158 rfl rfl, tyX12_ok, nmX12, rfl, rfl, tyX12_ok 38 (by decide)⟩
set_option maxRecDepth 100000 in
theorem vRX12_107 : q_pff RX12 107 12 40 (tyX12 40) := ⟨_, _, _, tyX12, rfl, by decide, q_inT12, q_mt_7 160 rfl rfl, tyX12_ok, nmX12, rfl, rfl, tyX12_ok 40 (by decide)⟩
set_option maxRecDepth 100000 in
theorem vRX12_110 : q_pff RX12 110 12 41 (tyX12 41) := ⟨_, _, _, tyX12, rfl, by decide, q_inT12, q_mt_7 161 rfl rfl, tyX12_ok, nmX12, rfl, rfl, tyX12_ok 41 (by decide)⟩
set_option maxRecDepth 100000 in
theorem vRX12_113 : q_pff RX12 113 12 42 (tyX12 42) := ⟨_, _, _, tyX12, rfl, by decide, q_inT12, q_mt_7 162 rfl rfl, tyX12_ok, nmX12, rfl, rfl, tyX12_ok 42 (by decide)⟩
set_option maxRecDepth 100000 in
theorem vRX12_116 : q_pff RX12 116 12 43 (tyX12 43) := ⟨_, _, _, tyX12, rfl, by decide, q_inT12, q_mt_7 163 rfl rfl, tyX12_ok, nmX12, rfl, rfl, tyX12_ok 43 (by decide)⟩
set_option maxRecDepth 100000 in
theorem vRX12_119 : q_pff RX12 119 12 44 (tyX12 44) := ⟨_, _, _, tyX12, rfl, by decide, q_inT12, q_mt_7 164 rfl rfl, tyX12_ok, nmX12, rfl, rfl, tyX12_ok 44 (by decide)⟩
set_option maxRecDepth 100000 in
theorem vRX12_122 : q_pff RX12 122 12 45 (tyX12 45) := ⟨_, _, _, tyX12, rfl, by decide, q_inT12, q_mt_7 165 rfl rfl, tyX12_ok, nmX12, rfl, rfl, tyX12_ok 45 (by decide)⟩
set_option maxRecDepth 100000 in
theorem vRX12_125 : q_pff RX12 125 12 46 (tyX12 46) := ⟨_, _, _, tyX12, rfl, by decide, q_inT12, q_mt_7 166 rfl rfl, tyX12_ok, nmX12, rfl, rfl, tyX12_ok 46 (by decide)⟩
set_option maxRecDepth 100000 in
theorem vRX12_128 : q_pff RX12 128 12 48 (tyX12 48) := ⟨_, _, _, tyX12, rfl, by decide, q_inT12, q_mt_7 168 rfl rfl, tyX12_ok, nmX12, rfl, rfl, tyX12_ok 48 (by decide)⟩
set_option maxRecDepth 100000 in
theorem vRX12_131 : q_pff RX12 131 12 49 (tyX12 49) := ⟨_, _, _, tyX12, rfl, by decide, q_inT12, q_mt_7 169 rfl rfl, tyX12_ok, nmX12, rfl, rfl, tyX12_ok 49 (by decide)⟩
set_option maxRecDepth 100000 in
theorem vRX12_134 : q_pff RX12 134 12 51 (tyX12 51) := ⟨_, _, _, tyX12, rfl, by decide, q_inT12, q_mt_7 171 rfl rfl, tyX12_ok, nmX12, rfl, rfl, tyX12_ok 51 (by decide)⟩
set_option maxRecDepth 100000 in
theorem vRX12_137 : q_pff RX12 137 12 52 (tyX12 52) := ⟨_, _, _, tyX12, rfl, by decide, q_inT12, q_mt_7 172 rfl rfl, tyX12_ok, nmX12, rfl, rfl, tyX12_ok 52 (by decide)⟩
set_option maxRecDepth 100000 in
theorem vRX12_140 : q_pff RX12 140 12 53 (tyX12 53) := ⟨_, _, _, tyX12, rfl, by decide, q_inT12, q_mt_7 173 rfl rfl, tyX12_ok, nmX12, rfl, rfl, tyX12_ok 53 (by decide)⟩
set_option maxRecDepth 100000 in
theorem vRX12_143 : q_pff RX12 143 12 54 (tyX12 54) := ⟨_, _, _, tyX12, rfl, by decide, q_inT12, q_mt_7 174 rfl rfl, tyX12_ok, nmX12, rfl, rfl, tyX12_ok 54 (by decide)⟩
set_option maxRecDepth 100000 in
theorem vRX12_146 : q_pff RX12 146 12 55 (tyX12 55) := ⟨_, _, _, tyX12, rfl, by decide, q_inT12, q_mt_7 175 rfl rfl, tyX12_ok, nmX12, rfl, rfl, tyX12_ok 55 (by decide)⟩
set_option maxRecDepth 100000 in
theorem vRX12_149 : q_pff RX12 149 12 56 (tyX12 56) := ⟨_, _, _, tyX12, rfl, by decide, q_inT12, q_mt_7 176 rfl rfl, tyX12_ok, nmX12, rfl, rfl, tyX12_ok 56 (by decide)⟩
set_option maxRecDepth 100000 in
theorem vRX12_152 : q_pff RX12 152 12 57 (tyX12 57) := ⟨_, _, _, tyX12, rfl, by decide, q_inT12, q_mt_7 177 rfl rfl, tyX12_ok, nmX12, rfl, rfl, tyX12_ok 57 (by decide)⟩
set_option maxRecDepth 100000 in
theorem vRX12_155 : q_pff RX12 155 12 59 (tyX12 59) := ⟨_, _, _, tyX12, rfl, by decide, q_inT12, q_mt_7 179 rfl rfl, tyX12_ok, nmX12, rfl, rfl, tyX12_ok 59 (by decide)⟩
set_option maxRecDepth 100000 in
theorem vRX12_158 : q_pff RX12 158 12 60 (tyX12 60) := ⟨_, _, _, tyX12, rfl, by decide, q_inT12, q_mt_7 180 rfl rfl, tyX12_ok, nmX12, rfl, rfl, tyX12_ok 60 (by decide)⟩
set_option maxRecDepth 100000 in
theorem vRX12_161 : q_pff RX12 161 12 61 (tyX12 61) := ⟨_, _, _, tyX12, rfl, by decide, q_inT12, q_mt_7 181 rfl rfl, tyX12_ok, nmX12, rfl, rfl, tyX12_ok 61 (by decide)⟩
set_option maxRecDepth 100000 in
theorem vRX12_164 : q_pff RX12 164 12 62 (tyX12 62) := ⟨_, _, _, tyX12, rfl, by decide, q_inT12, q_mt_7 182 rfl rfl, tyX12_ok, nmX12, rfl, rfl, tyX12_ok 62 (by decide)⟩
set_option maxRecDepth 100000 in
theorem vRX12_167 : q_pff RX12 167 12 63 (tyX12 63) := ⟨_, _, _, tyX12, rfl, by decide, q_inT12, q_mt_7 183 rfl rfl, tyX12_ok, nmX12, rfl, rfl, tyX12_ok 63 (by decide)⟩
set_option maxRecDepth 100000 in
theorem vRX12_170 : q_pff RX12 170 12 64 (tyX12 64) := ⟨_, _, _, tyX12, rfl, by decide, q_inT12, q_mt_7 184 rfl rfl, tyX12_ok, nmX12, rfl, rfl, tyX12_ok 64 (by decide)⟩
set_option maxRecDepth 100000 in
theorem vRX12_173 : q_pff RX12 173 12 65 (tyX12 65) := ⟨_, _, _, tyX12, rfl, by decide, q_inT12, q_mt_7 185 rfl rfl, tyX12_ok, nmX12, rfl, rfl, tyX12_ok 65 (by decide)⟩
set_option maxRecDepth 100000 in
theorem vRX12_176 : q_pff RX12 176 12 70 (tyX12 70) := ⟨_, _, _, tyX12, rfl, by decide, q_inT12, q_mt_7 190 rfl rfl, tyX12_ok, nmX12, rfl, rfl, tyX12_ok 70 (by decide)⟩
set_option maxRecDepth 100000 in
theorem vRX12_179 : q_pff RX12 179 12 71 (tyX12 71) := ⟨_, _, _, tyX12, rfl, by decide, q_inT12, q_mt_7 191 rfl rfl, tyX12_ok, nmX12, rfl, rfl, tyX12_ok 71 (by decide)⟩
set_option maxRecDepth 100000 in
theorem vRX12_182 : q_pff RX12 182 12 72 (tyX12 72) := ⟨_, _, _, tyX12, rfl, by decide, q_inT12, q_mt_7 192 rfl rfl, tyX12_ok, nmX12, rfl, rfl, tyX12_ok 72 (by decide)⟩
set_option maxRecDepth 100000 in
theorem vRX12_185 : q_pff RX12 185 12 73 (tyX12 73) := ⟨_, _, _, tyX12, rfl, by decide, q_inT12, q_mt_7 193 rfl rfl, tyX12_ok, nmX12, rfl, rfl, tyX12_ok 73 (by decide)⟩
set_option maxRecDepth 100000 in
theorem vRX12_188 : q_pff RX12 188 12 74 (tyX12 74) := ⟨_, _, _, tyX12, rfl, by decide, q_inT12, q_mt_7 194 rfl rfl, tyX12_ok, nmX12, rfl, rfl, tyX12_ok 74 (by decide)⟩
set_option maxRecDepth 100000 in
theorem kRX12_191 : Jvm.Cond.constant RX12 191 (44100) ∈ q_tb := q_mt_7 118 rfl rfl
set_option maxRecDepth 100000 in
theorem vRX12_192 : q_pff RX12 192 12 75 (tyX12 75) := ⟨_, _, _, tyX12, rfl, by decide, q_inT12, q_mt_7 195 rfl rfl, tyX12_ok, nmX12, rfl, rfl, tyX12_ok 75 (by decide)⟩
set_option maxRecDepth 100000 in
theorem kRX12_195 : Jvm.Cond.constant RX12 195 (44521) ∈ q_tb := q_mt_7 119 rfl rfl
set_option maxRecDepth 100000 in
theorem vRX12_196 : q_pff RX12 196 12 76 (tyX12 76) := ⟨_, _, _, tyX12, rfl, by decide, q_inT12, q_mt_7 196 rfl rfl, tyX12_ok, nmX12, rfl, rfl, tyX12_ok 76 (by decide)⟩
set_option maxRecDepth 100000 in
theorem vRX12_199 : q_pff RX12 199 12 78 (tyX12 78) := ⟨_, _, _, tyX12, rfl, by decide, q_inT12, q_mt_7 198 rfl rfl, tyX12_ok, nmX12, rfl, rfl, tyX12_ok 78 (by decide)⟩
set_option maxRecDepth 100000 in
theorem vRX12_202 : q_pff RX12 202 12 79 (tyX12 79) := ⟨_, _, _, tyX12, rfl, by decide, q_inT12, q_mt_7 199 rfl rfl, tyX12_ok, nmX12, rfl, rfl, tyX12_ok 79 (by decide)⟩
set_option maxRecDepth 100000 in
theorem vRX12_205 : q_pff RX12 205 12 80 (tyX12 80) := ⟨_, _, _, tyX12, rfl, by decide, q_inT12, q_mt_7 200 rfl rfl, tyX12_ok, nmX12, rfl, rfl, tyX12_ok 80 (by decide)⟩
set_option maxRecDepth 100000 in
theorem vRX12_208 : q_pff RX12 208 12 81 (tyX12 81) := ⟨_, _, _, tyX12, rfl, by decide, q_inT12, q_mt_7 201 rfl rfl, tyX12_ok, nmX12, rfl, rfl, tyX12_ok 81 (by decide)⟩
set_option maxRecDepth 100000 in
theorem vRX12_211 : q_pff RX12 211 12 82 (tyX12 82) := ⟨_, _, _, tyX12, rfl, by decide, q_inT12, q_mt_7 202 rfl rfl, tyX12_ok, nmX12, rfl, rfl, tyX12_ok 82 (by decide)⟩
set_option maxRecDepth 100000 in
theorem vRX12_214 : q_pff RX12 214 12 83 (tyX12 83) := ⟨_, _, _, tyX12, rfl, by decide, q_inT12, q_mt_7 203 rfl rfl, tyX12_ok, nmX12, rfl, rfl, tyX12_ok 83 (by decide)⟩
set_option maxRecDepth 100000 in
theorem vRX12_217 : q_pff RX12 217 12 85 (tyX12 85) := ⟨_, _, _, tyX12, rfl, by decide, q_inT12, q_mt_7 205 rfl rfl, tyX12_ok, nmX12, rfl, rfl, tyX12_ok 85 (by decide)⟩
set_option maxRecDepth 100000 in
theorem vRX12_220 : q_pff RX12 220 12 86 (tyX12 86) := ⟨_, _, _, tyX12, rfl, by decide, q_inT12, q_mt_7 206 rfl rfl, tyX12_ok, nmX12, rfl, rfl, tyX12_ok 86 (by decide)⟩
set_option maxRecDepth 100000 in
theorem vRX12_223 : q_pff RX12 223 12 87 (tyX12 87) := ⟨_, _, _, tyX12, rfl, by decide, q_inT12, q_mt_7 207 rfl rfl, tyX12_ok, nmX12, rfl, rfl, tyX12_ok 87 (by decide)⟩
set_option maxRecDepth 100000 in
theorem vRX12_226 : q_pff RX12 226 12 88 (tyX12 88) := ⟨_, _, _, tyX12, rfl, by decide, q_inT12, q_mt_7 208 rfl rfl, tyX12_ok, nmX12, rfl, rfl, tyX12_ok 88 (by decide)⟩
set_option maxRecDepth 100000 in
theorem vRX12_229 : q_pff RX12 229 12 89 (tyX12 89) := ⟨_, _, _, tyX12, rfl, by decide, q_inT12, q_mt_7 209 rfl rfl, tyX12_ok, nmX12, rfl, rfl, tyX12_ok 89 (by decide)⟩
set_option maxRecDepth 100000 in
theorem vRX12_232 : q_pff RX12 232 12 90 (tyX12 90) := ⟨_, _, _, tyX12, rfl, by decide, q_inT12, q_mt_7 210 rfl rfl, tyX12_ok, nmX12, rfl, rfl, tyX12_ok 90 (by decide)⟩
set_option maxRecDepth 100000 in
theorem vRX12_235 : q_pff RX12 235 12 91 (tyX12 91) := ⟨_, _, _, tyX12, rfl, by decide, q_inT12, q_mt_7 211 rfl rfl, tyX12_ok, nmX12, rfl, rfl, tyX12_ok 91 (by decide)⟩
set_option maxRecDepth 100000 in
theorem vRX12_238 : q_pff RX12 238 12 92 (tyX12 92) := ⟨_, _, _, tyX12, rfl, by decide, q_inT12, q_mt_7 212 rfl rfl, tyX12_ok, nmX12, rfl, rfl, tyX12_ok 92 (by decide)⟩
set_option maxRecDepth 100000 in
theorem vRX12_241 : q_pff RX12 241 12 95 (tyX12 95) := ⟨_, _, _, tyX12, rfl, by decide, q_inT12, q_mt_7 215 rfl rfl, tyX12_ok, nmX12, rfl, rfl, tyX12_ok 95 (by decide)⟩
set_option maxRecDepth 100000 in
theorem vRX12_244 : q_pff RX12 244 12 96 (tyX12 96) := ⟨_, _, _, tyX12, rfl, by decide, q_inT12, q_mt_7 216 rfl rfl, tyX12_ok, nmX12, rfl, rfl, tyX12_ok 96 (by decide)⟩
set_option maxRecDepth 100000 in
theorem vRX12_247 : q_pff RX12 247 12 97 (tyX12 97) := ⟨_, _, _, tyX12, rfl, by decide, q_inT12, q_mt_7 217 rfl rfl, tyX12_ok, nmX12, rfl, rfl, tyX12_ok 97 (by decide)⟩
set_option maxRecDepth 100000 in
theorem vRX12_250 : q_pff RX12 250 12 99 (tyX12 99) := ⟨_, _, _, tyX12, rfl, by decide, q_inT12, q_mt_7 219 rfl rfl, tyX12_ok, nmX12, rfl, rfl, tyX12_ok 99 (by decide)⟩
set_option maxRecDepth 100000 in
theorem vRX12_253 : q_pff RX12 253 12 100 (tyX12 100) := ⟨_, _, _, tyX12, rfl, by decide, q_inT12, q_mt_7 220 rfl rfl, tyX12_ok, nmX12, rfl, rfl, tyX12_ok 100 (by decide)⟩
set_option maxRecDepth 100000 in
theorem vRX12_256 : q_pff RX12 256 12 104 (tyX12 104) := ⟨_, _, _, tyX12, rfl, by decide, q_inT12, q_mt_7 224 rfl rfl, tyX12_ok, nmX12, rfl, rfl, tyX12_ok 104 (by decide)⟩
set_option maxRecDepth 100000 in
theorem vRX12_259 : q_pff RX12 259 12 105 (tyX12 105) := ⟨_, _, _, tyX12, rfl, by decide, q_inT12, q_mt_7 225 rfl rfl, tyX12_ok, nmX12, rfl, rfl, tyX12_ok 105 (by decide)⟩
set_option maxRecDepth 100000 in
theorem vRX12_262 : q_pff RX12 262 12 106 (tyX12 106) := ⟨_, _, _, tyX12, rfl, by decide, q_inT12, q_mt_7 226 rfl rfl, tyX12_ok, nmX12, rfl, rfl, tyX12_ok 106 (by decide)⟩
set_option maxRecDepth 100000 in
theorem vRX12_265 : q_pff RX12 265 12 108 (tyX12 108) := ⟨_, _, _, tyX12, rfl, by decide, q_inT12, q_mt_7 228 rfl rfl, tyX12_ok, nmX12, rfl, rfl, tyX12_ok 108 (by decide)⟩
set_option maxRecDepth 100000 in
theorem vRX12_268 : q_pff RX12 268 12 109 (tyX12 109) := ⟨_, _, _, tyX12, rfl, by decide, q_inT12, q_mt_7 229 rfl rfl, tyX12_ok, nmX12, rfl, rfl, tyX12_ok 109 (by decide)⟩
set_option maxRecDepth 100000 in
theorem vRX12_271 : q_pff RX12 271 12 110 (tyX12 110) := ⟨_, _, _, tyX12, rfl, by decide, q_inT12, q_mt_7 230 rfl rfl, tyX12_ok, nmX12, rfl, rfl, tyX12_ok 110 (by decide)⟩
set_option maxRecDepth 100000 in
theorem vRX12_274 : q_pff RX12 274 12 112 (tyX12 112) := ⟨_, _, _, tyX12, rfl, by decide, q_inT12, q_mt_7 232 rfl rfl, tyX12_ok, nmX12, rfl, rfl, tyX12_ok 112 (by decide)⟩
set_option maxRecDepth 100000 in
theorem vRX12_277 : q_pff RX12 277 12 113 (tyX12 113) := ⟨_, _, _, tyX12, rfl, by decide, q_inT12, q_mt_7 233 rfl rfl, tyX12_ok, nmX12, rfl, rfl, tyX12_ok 113 (by decide)⟩
set_option maxRecDepth 100000 in
theorem vRX12_280 : q_pff RX12 280 12 115 (tyX12 115) := ⟨_, _, _, tyX12, rfl, by decide, q_inT12, q_mt_7 235 rfl rfl, tyX12_ok, nmX12, rfl, rfl, tyX12_ok 115 (by decide)⟩
set_option maxRecDepth 100000 in
theorem vRX12_283 : q_pff RX12 283 12 116 (tyX12 116) := ⟨_, _, _, tyX12, rfl, by decide, q_inT12, q_mt_7 236 rfl rfl, tyX12_ok, nmX12, rfl, rfl, tyX12_ok 116 (by decide)⟩
set_option maxRecDepth 100000 in
theorem vRX12_286 : q_pff RX12 286 12 117 (tyX12 117) := ⟨_, _, _, tyX12, rfl, by decide, q_inT12, q_mt_7 237 rfl rfl, tyX12_ok, nmX12, rfl, rfl, tyX12_ok 117 (by decide)⟩
set_option maxRecDepth 100000 in
theorem vRX12_289 : q_pff RX12 289 12 118 (tyX12 118) := ⟨_, _, _, tyX12, rfl, by decide, q_inT12, q_mt_7 238 rfl rfl, tyX12_ok, nmX12, rfl, rfl, tyX12_ok 118 (by decide)⟩
set_option maxRecDepth 100000 in
theorem vRX12_292 : q_pff RX12 292 12 119 (tyX12 119) := ⟨_, _, _, tyX12, rfl, by decide, q_inT12, q_mt_7 239 rfl rfl, tyX12_ok, nmX12, rfl, rfl, tyX12_ok 119 (by decide)⟩
set_option maxRecDepth 100000 in
theorem vRX12_295 : q_pff RX12 295 12 122 (tyX12 122) := ⟨_, _, _, tyX12, rfl, by decide, q_inT12, q_mt_8 2 rfl rfl, tyX12_ok, nmX12, rfl, rfl, tyX12_ok 122 (by decide)⟩
set_option maxRecDepth 100000 in
theorem vRX12_298 : q_pff RX12 298 12 123 (tyX12 123) := ⟨_, _, _, tyX12, rfl, by decide, q_inT12, q_mt_8 3 rfl rfl, tyX12_ok, nmX12, rfl, rfl, tyX12_ok 123 (by decide)⟩
set_option maxRecDepth 100000 in
theorem vRX12_301 : q_pff RX12 301 12 124 (tyX12 124) := ⟨_, _, _, tyX12, rfl, by decide, q_inT12, q_mt_8 4 rfl rfl, tyX12_ok, nmX12, rfl, rfl, tyX12_ok 124 (by decide)⟩
set_option maxRecDepth 100000 in
theorem vRX12_304 : q_pff RX12 304 12 125 (tyX12 125) := ⟨_, _, _, tyX12, rfl, by decide, q_inT12, q_mt_8 5 rfl rfl, tyX12_ok, nmX12, rfl, rfl, tyX12_ok 125 (by decide)⟩
set_option maxRecDepth 100000 in
theorem nLAW_7 : q_nwf "GrammarToolsLaw" 7 11 19 tyX11 := ⟨_, _, rfl, q_inT11, tyX11_ok, q_mt_1 18 rfl rfl, q_mt_1 19 rfl rfl, q_mt_1 1 rfl rfl⟩
set_option maxRecDepth 100000 in
theorem lLAW_9 : Cond.methodLink "GrammarToolsLaw" 9 yX11_init ∈ q_tb := q_mt_1 20 rfl rfl
set_option maxRecDepth 100000 in
theorem mX11_init : q_mt yX11_init cX11_init 2 none 0 := ⟨q_mt_1 22 rfl rfl, q_mt_1 1 rfl rfl, ⟨q_ncRX11.1, q_ncRX11.2.1, by decide +kernel⟩, by decide⟩
set_option maxRecDepth 100000 in
theorem iX11_init : Cond.instanceMethod yX11_init ∈ q_tb := q_mt_1 21 rfl rfl
set_option maxRecDepth 100000 in
theorem nLAW_10 : q_nwf "GrammarToolsLaw" 10 12 126 tyX12 := ⟨_, _, rfl, q_inT12, tyX12_ok, q_mt_7 112 rfl rfl, q_mt_7 113 rfl rfl, q_mt_1 14 rfl rfl⟩
set_option maxRecDepth 100000 in
theorem lLAW_12 : Cond.methodLink "GrammarToolsLaw" 12 yX12_init ∈ q_tb := q_mt_7 114 rfl rfl
set_option maxRecDepth 100000 in
theorem mX12_init : q_mt yX12_init cX12_init 2 none 0 := ⟨q_mt_7 116 rfl rfl, q_mt_1 14 rfl rfl, ⟨q_ncRX12.1, q_ncRX12.2.1, by decide +kernel⟩, by decide⟩
set_option maxRecDepth 100000 in
theorem iX12_init : Cond.instanceMethod yX12_init ∈ q_tb := q_mt_7 115 rfl rfl
set_option maxRecDepth 100000 in
theorem lLAW_13 : Cond.methodLink "GrammarToolsLaw" 13 yX11_length ∈ q_tb := q_mt_3 148 rfl rfl
set_option maxRecDepth 100000 in
theorem iX11_length : Cond.instanceMethod yX11_length ∈ q_tb := q_mt_3 149 rfl rfl
set_option maxRecDepth 100000 in
theorem eX11_length : Cond.selects (yX11_length).cls yX11_length yX11_length ∈ q_tb := q_mt_3 150 rfl rfl
set_option maxRecDepth 100000 in
theorem lLAW_17 : Cond.methodLink "GrammarToolsLaw" 17 yX12_length ∈ q_tb := q_mt_9 19 rfl rfl
set_option maxRecDepth 100000 in
theorem iX12_length : Cond.instanceMethod yX12_length ∈ q_tb := q_mt_9 20 rfl rfl
set_option maxRecDepth 100000 in
theorem eX12_length : Cond.selects (yX12_length).cls yX12_length yX12_length ∈ q_tb := q_mt_9 21 rfl rfl
set_option maxRecDepth 100000 in
theorem lLAW_18 : Cond.methodLink "GrammarToolsLaw" 18 yX11_form ∈ q_tb := q_mt_3 166 rfl rfl
set_option maxRecDepth 100000 in
theorem iX11_form : Cond.instanceMethod yX11_form ∈ q_tb := q_mt_3 167 rfl rfl
set_option maxRecDepth 100000 in
theorem eX11_form : Cond.selects (yX11_form).cls yX11_form yX11_form ∈ q_tb := q_mt_3 168 rfl rfl
set_option maxRecDepth 100000 in
theorem lLAW_22 : Cond.methodLink "GrammarToolsLaw" 22 yX12_form ∈ q_tb := q_mt_9 33 rfl rfl
set_option maxRecDepth 100000 in
theorem iX12_form : Cond.instanceMethod yX12_form ∈ q_tb := q_mt_9 34 rfl rfl
set_option maxRecDepth 100000 in
theorem eX12_form : Cond.selects (yX12_form).cls yX12_form yX12_form ∈ q_tb := q_mt_9 35 rfl rfl
set_option maxRecDepth 100000 in
theorem lLAW_23 : Cond.methodLink "GrammarToolsLaw" 23 yX11_clear ∈ q_tb := q_mt_3 194 rfl rfl
set_option maxRecDepth 100000 in
theorem iX11_clear : Cond.instanceMethod yX11_clear ∈ q_tb := q_mt_3 195 rfl rfl
set_option maxRecDepth 100000 in
theorem eX11_clear : Cond.selects (yX11_clear).cls yX11_clear yX11_clear ∈ q_tb := q_mt_3 196 rfl rfl
set_option maxRecDepth 100000 in
theorem lLAW_27 : Cond.methodLink "GrammarToolsLaw" 27 yX12_clear ∈ q_tb := q_mt_9 50 rfl rfl
set_option maxRecDepth 100000 in
theorem iX12_clear : Cond.instanceMethod yX12_clear ∈ q_tb := q_mt_9 51 rfl rfl
set_option maxRecDepth 100000 in
theorem eX12_clear : Cond.selects (yX12_clear).cls yX12_clear yX12_clear ∈ q_tb := q_mt_9 52 rfl rfl
set_option maxRecDepth 100000 in
theorem lLAW_28 : Cond.methodLink "GrammarToolsLaw" 28 yX11_forms ∈ q_tb := q_mt_3 206 rfl rfl
set_option maxRecDepth 100000 in
theorem iX11_forms : Cond.instanceMethod yX11_forms ∈ q_tb := q_mt_3 207 rfl rfl
set_option maxRecDepth 100000 in
theorem eX11_forms : Cond.selects (yX11_forms).cls yX11_forms yX11_forms ∈ q_tb := q_mt_3 208 rfl rfl
set_option maxRecDepth 100000 in
theorem lLAW_31 : Cond.methodLink "GrammarToolsLaw" 31 yX12_forms ∈ q_tb := q_mt_9 54 rfl rfl
set_option maxRecDepth 100000 in
theorem iX12_forms : Cond.instanceMethod yX12_forms ∈ q_tb := q_mt_9 55 rfl rfl
set_option maxRecDepth 100000 in
theorem eX12_forms : Cond.selects (yX12_forms).cls yX12_forms yX12_forms ∈ q_tb := q_mt_9 56 rfl rfl
set_option maxRecDepth 100000 in
theorem lLAW_32 : Cond.methodLink "GrammarToolsLaw" 32 yX11_gap ∈ q_tb := q_mt_3 214 rfl rfl
set_option maxRecDepth 100000 in
theorem iX11_gap : Cond.instanceMethod yX11_gap ∈ q_tb := q_mt_3 215 rfl rfl
set_option maxRecDepth 100000 in
theorem eX11_gap : Cond.selects (yX11_gap).cls yX11_gap yX11_gap ∈ q_tb := q_mt_3 216 rfl rfl
set_option maxRecDepth 100000 in
theorem lLAW_36 : Cond.methodLink "GrammarToolsLaw" 36 yX12_gap ∈ q_tb := q_mt_9 66 rfl rfl
set_option maxRecDepth 100000 in
theorem iX12_gap : Cond.instanceMethod yX12_gap ∈ q_tb := q_mt_9 67 rfl rfl
set_option maxRecDepth 100000 in
theorem eX12_gap : Cond.selects (yX12_gap).cls yX12_gap yX12_gap ∈ q_tb := q_mt_9 68 rfl rfl
set_option maxRecDepth 100000 in
theorem lLAW_37 : Cond.methodLink "GrammarToolsLaw" 37 yX11_name ∈ q_tb := q_mt_3 218 rfl rfl
set_option maxRecDepth 100000 in
theorem iX11_name : Cond.instanceMethod yX11_name ∈ q_tb := q_mt_3 219 rfl rfl
set_option maxRecDepth 100000 in
theorem eX11_name : Cond.selects (yX11_name).cls yX11_name yX11_name ∈ q_tb := q_mt_3 220 rfl rfl
set_option maxRecDepth 100000 in
theorem lLAW_40 : Cond.methodLink "GrammarToolsLaw" 40 yX12_name ∈ q_tb := q_mt_9 71 rfl rfl
set_option maxRecDepth 100000 in
theorem iX12_name : Cond.instanceMethod yX12_name ∈ q_tb := q_mt_9 72 rfl rfl
set_option maxRecDepth 100000 in
theorem eX12_name : Cond.selects (yX12_name).cls yX12_name yX12_name ∈ q_tb := q_mt_9 73 rfl rfl
set_option maxRecDepth 100000 in
theorem lLAW_41 : Cond.methodLink "GrammarToolsLaw" 41 yX11_scope ∈ q_tb := q_mt_3 223 rfl rfl
set_option maxRecDepth 100000 in
theorem iX11_scope : Cond.instanceMethod yX11_scope ∈ q_tb := q_mt_3 224 rfl rfl
set_option maxRecDepth 100000 in
theorem eX11_scope : Cond.selects (yX11_scope).cls yX11_scope yX11_scope ∈ q_tb := q_mt_3 225 rfl rfl
set_option maxRecDepth 100000 in
theorem lLAW_45 : Cond.methodLink "GrammarToolsLaw" 45 yX12_scope ∈ q_tb := q_mt_9 80 rfl rfl
set_option maxRecDepth 100000 in
theorem iX12_scope : Cond.instanceMethod yX12_scope ∈ q_tb := q_mt_9 81 rfl rfl
set_option maxRecDepth 100000 in
theorem eX12_scope : Cond.selects (yX12_scope).cls yX12_scope yX12_scope ∈ q_tb := q_mt_9 82 rfl rfl
set_option maxRecDepth 100000 in
theorem lLAW_46 : Cond.methodLink "GrammarToolsLaw" 46 yX11_rule ∈ q_tb := q_mt_3 227 rfl rfl
set_option maxRecDepth 100000 in
theorem iX11_rule : Cond.instanceMethod yX11_rule ∈ q_tb := q_mt_3 228 rfl rfl
set_option maxRecDepth 100000 in
theorem eX11_rule : Cond.selects (yX11_rule).cls yX11_rule yX11_rule ∈ q_tb := q_mt_3 229 rfl rfl
set_option maxRecDepth 100000 in
theorem lLAW_49 : Cond.methodLink "GrammarToolsLaw" 49 yX12_rule ∈ q_tb := q_mt_9 84 rfl rfl
set_option maxRecDepth 100000 in
theorem iX12_rule : Cond.instanceMethod yX12_rule ∈ q_tb := q_mt_9 85 rfl rfl
set_option maxRecDepth 100000 in
theorem eX12_rule : Cond.selects (yX12_rule).cls yX12_rule yX12_rule ∈ q_tb := q_mt_9 86 rfl rfl
set_option maxRecDepth 100000 in
theorem lLAW_50 : Cond.methodLink "GrammarToolsLaw" 50 yX11_unrule ∈ q_tb := q_mt_3 235 rfl rfl
set_option maxRecDepth 100000 in
theorem iX11_unrule : Cond.instanceMethod yX11_unrule ∈ q_tb := q_mt_3 236 rfl rfl
set_option maxRecDepth 100000 in
theorem eX11_unrule : Cond.selects (yX11_unrule).cls yX11_unrule yX11_unrule ∈ q_tb := q_mt_3 237 rfl rfl
set_option maxRecDepth 100000 in
theorem lLAW_54 : Cond.methodLink "GrammarToolsLaw" 54 yX12_unrule ∈ q_tb := q_mt_9 90 rfl rfl
set_option maxRecDepth 100000 in
theorem iX12_unrule : Cond.instanceMethod yX12_unrule ∈ q_tb := q_mt_9 91 rfl rfl
set_option maxRecDepth 100000 in
theorem eX12_unrule : Cond.selects (yX12_unrule).cls yX12_unrule yX12_unrule ∈ q_tb := q_mt_9 92 rfl rfl
set_option maxRecDepth 100000 in
theorem lLAW_55 : Cond.methodLink "GrammarToolsLaw" 55 yX11_mean ∈ q_tb := q_mt_3 239 rfl rfl
set_option maxRecDepth 100000 in
theorem iX11_mean : Cond.instanceMethod yX11_mean ∈ q_tb := q_mt_4 0 rfl rfl
set_option maxRecDepth 100000 in
theorem eX11_mean : Cond.selects (yX11_mean).cls yX11_mean yX11_mean ∈ q_tb := q_mt_4 1 rfl rfl
set_option maxRecDepth 100000 in
theorem lLAW_58 : Cond.methodLink "GrammarToolsLaw" 58 yX12_mean ∈ q_tb := q_mt_9 94 rfl rfl
set_option maxRecDepth 100000 in
theorem iX12_mean : Cond.instanceMethod yX12_mean ∈ q_tb := q_mt_9 95 rfl rfl
set_option maxRecDepth 100000 in
theorem eX12_mean : Cond.selects (yX12_mean).cls yX12_mean yX12_mean ∈ q_tb := q_mt_9 96 rfl rfl
set_option maxRecDepth 100000 in
theorem lLAW_59 : Cond.methodLink "GrammarToolsLaw" 59 yX11_count ∈ q_tb := q_mt_4 3 rfl rfl
set_option maxRecDepth 100000 in
theorem iX11_count : Cond.instanceMethod yX11_count ∈ q_tb := q_mt_4 4 rfl rfl
set_option maxRecDepth 100000 in
theorem eX11_count : Cond.selects (yX11_count).cls yX11_count yX11_count ∈ q_tb := q_mt_4 5 rfl rfl
set_option maxRecDepth 100000 in
theorem lLAW_62 : Cond.methodLink "GrammarToolsLaw" 62 yX12_count ∈ q_tb := q_mt_9 99 rfl rfl
set_option maxRecDepth 100000 in
theorem iX12_count : Cond.instanceMethod yX12_count ∈ q_tb := q_mt_9 100 rfl rfl
set_option maxRecDepth 100000 in
theorem eX12_count : Cond.selects (yX12_count).cls yX12_count yX12_count ∈ q_tb := q_mt_9 101 rfl rfl
set_option maxRecDepth 100000 in
theorem lLAW_63 : Cond.methodLink "GrammarToolsLaw" 63 yX11_cell ∈ q_tb := q_mt_4 23 rfl rfl
set_option maxRecDepth 100000 in
theorem iX11_cell : Cond.instanceMethod yX11_cell ∈ q_tb := q_mt_4 24 rfl rfl
set_option maxRecDepth 100000 in
theorem eX11_cell : Cond.selects (yX11_cell).cls yX11_cell yX11_cell ∈ q_tb := q_mt_4 25 rfl rfl
set_option maxRecDepth 100000 in
theorem lLAW_66 : Cond.methodLink "GrammarToolsLaw" 66 yX12_cell ∈ q_tb := q_mt_9 107 rfl rfl
set_option maxRecDepth 100000 in
theorem iX12_cell : Cond.instanceMethod yX12_cell ∈ q_tb := q_mt_9 108 rfl rfl
set_option maxRecDepth 100000 in
theorem eX12_cell : Cond.selects (yX12_cell).cls yX12_cell yX12_cell ∈ q_tb := q_mt_9 109 rfl rfl
set_option maxRecDepth 100000 in
theorem lLAW_67 : Cond.methodLink "GrammarToolsLaw" 67 yX11_put ∈ q_tb := q_mt_4 39 rfl rfl
set_option maxRecDepth 100000 in
theorem iX11_put : Cond.instanceMethod yX11_put ∈ q_tb := q_mt_4 40 rfl rfl
set_option maxRecDepth 100000 in
theorem eX11_put : Cond.selects (yX11_put).cls yX11_put yX11_put ∈ q_tb := q_mt_4 41 rfl rfl
set_option maxRecDepth 100000 in
theorem lLAW_70 : Cond.methodLink "GrammarToolsLaw" 70 yX12_put ∈ q_tb := q_mt_9 121 rfl rfl
set_option maxRecDepth 100000 in
theorem iX12_put : Cond.instanceMethod yX12_put ∈ q_tb := q_mt_9 122 rfl rfl
set_option maxRecDepth 100000 in
theorem eX12_put : Cond.selects (yX12_put).cls yX12_put yX12_put ∈ q_tb := q_mt_9 123 rfl rfl
set_option maxRecDepth 100000 in
theorem lLAW_71 : Cond.methodLink "GrammarToolsLaw" 71 yX11_wipe ∈ q_tb := q_mt_4 43 rfl rfl
set_option maxRecDepth 100000 in
theorem iX11_wipe : Cond.instanceMethod yX11_wipe ∈ q_tb := q_mt_4 44 rfl rfl
set_option maxRecDepth 100000 in
theorem eX11_wipe : Cond.selects (yX11_wipe).cls yX11_wipe yX11_wipe ∈ q_tb := q_mt_4 45 rfl rfl
set_option maxRecDepth 100000 in
theorem lLAW_74 : Cond.methodLink "GrammarToolsLaw" 74 yX12_wipe ∈ q_tb := q_mt_9 125 rfl rfl
set_option maxRecDepth 100000 in
theorem iX12_wipe : Cond.instanceMethod yX12_wipe ∈ q_tb := q_mt_9 126 rfl rfl
set_option maxRecDepth 100000 in
theorem eX12_wipe : Cond.selects (yX12_wipe).cls yX12_wipe yX12_wipe ∈ q_tb := q_mt_9 127 rfl rfl
set_option maxRecDepth 100000 in
theorem lLAW_75 : Cond.methodLink "GrammarToolsLaw" 75 yX11_at ∈ q_tb := q_mt_4 47 rfl rfl
set_option maxRecDepth 100000 in
theorem iX11_at : Cond.instanceMethod yX11_at ∈ q_tb := q_mt_4 48 rfl rfl
set_option maxRecDepth 100000 in
theorem eX11_at : Cond.selects (yX11_at).cls yX11_at yX11_at ∈ q_tb := q_mt_4 49 rfl rfl
set_option maxRecDepth 100000 in
theorem lLAW_78 : Cond.methodLink "GrammarToolsLaw" 78 yX12_at ∈ q_tb := q_mt_9 129 rfl rfl
set_option maxRecDepth 100000 in
theorem iX12_at : Cond.instanceMethod yX12_at ∈ q_tb := q_mt_9 130 rfl rfl
set_option maxRecDepth 100000 in
theorem eX12_at : Cond.selects (yX12_at).cls yX12_at yX12_at ∈ q_tb := q_mt_9 131 rfl rfl
set_option maxRecDepth 100000 in
theorem lLAW_79 : Cond.methodLink "GrammarToolsLaw" 79 yX11_readings ∈ q_tb := q_mt_4 51 rfl rfl
set_option maxRecDepth 100000 in
theorem iX11_readings : Cond.instanceMethod yX11_readings ∈ q_tb := q_mt_4 52 rfl rfl
set_option maxRecDepth 100000 in
theorem eX11_readings : Cond.selects (yX11_readings).cls yX11_readings yX11_readings ∈ q_tb := q_mt_4 53 rfl rfl
set_option maxRecDepth 100000 in
theorem lLAW_82 : Cond.methodLink "GrammarToolsLaw" 82 yX12_readings ∈ q_tb := q_mt_9 133 rfl rfl
set_option maxRecDepth 100000 in
theorem iX12_readings : Cond.instanceMethod yX12_readings ∈ q_tb := q_mt_9 134 rfl rfl
set_option maxRecDepth 100000 in
theorem eX12_readings : Cond.selects (yX12_readings).cls yX12_readings yX12_readings ∈ q_tb := q_mt_9 135 rfl rfl
set_option maxRecDepth 100000 in
theorem lLAW_83 : Cond.methodLink "GrammarToolsLaw" 83 yX11_read ∈ q_tb := q_mt_4 92 rfl rfl
set_option maxRecDepth 100000 in
theorem iX11_read : Cond.instanceMethod yX11_read ∈ q_tb := q_mt_4 93 rfl rfl
set_option maxRecDepth 100000 in
theorem eX11_read : Cond.selects (yX11_read).cls yX11_read yX11_read ∈ q_tb := q_mt_4 94 rfl rfl
set_option maxRecDepth 100000 in
theorem lLAW_86 : Cond.methodLink "GrammarToolsLaw" 86 yX12_read ∈ q_tb := q_mt_9 159 rfl rfl
set_option maxRecDepth 100000 in
theorem iX12_read : Cond.instanceMethod yX12_read ∈ q_tb := q_mt_9 160 rfl rfl
set_option maxRecDepth 100000 in
theorem eX12_read : Cond.selects (yX12_read).cls yX12_read yX12_read ∈ q_tb := q_mt_9 161 rfl rfl
set_option maxRecDepth 100000 in
theorem lLAW_87 : Cond.methodLink "GrammarToolsLaw" 87 yX11_idle ∈ q_tb := q_mt_4 189 rfl rfl
set_option maxRecDepth 100000 in
theorem iX11_idle : Cond.instanceMethod yX11_idle ∈ q_tb := q_mt_4 190 rfl rfl
set_option maxRecDepth 100000 in
theorem eX11_idle : Cond.selects (yX11_idle).cls yX11_idle yX11_idle ∈ q_tb := q_mt_4 191 rfl rfl
set_option maxRecDepth 100000 in
theorem lLAW_90 : Cond.methodLink "GrammarToolsLaw" 90 yX12_idle ∈ q_tb := q_mt_9 203 rfl rfl
set_option maxRecDepth 100000 in
theorem iX12_idle : Cond.instanceMethod yX12_idle ∈ q_tb := q_mt_9 204 rfl rfl
set_option maxRecDepth 100000 in
theorem eX12_idle : Cond.selects (yX12_idle).cls yX12_idle yX12_idle ∈ q_tb := q_mt_9 205 rfl rfl
set_option maxRecDepth 100000 in
theorem lLAW_91 : Cond.methodLink "GrammarToolsLaw" 91 yX11_rows ∈ q_tb := q_mt_4 214 rfl rfl
set_option maxRecDepth 100000 in
theorem iX11_rows : Cond.instanceMethod yX11_rows ∈ q_tb := q_mt_4 215 rfl rfl
set_option maxRecDepth 100000 in
theorem eX11_rows : Cond.selects (yX11_rows).cls yX11_rows yX11_rows ∈ q_tb := q_mt_4 216 rfl rfl
set_option maxRecDepth 100000 in
theorem lLAW_94 : Cond.methodLink "GrammarToolsLaw" 94 yX12_rows ∈ q_tb := q_mt_9 215 rfl rfl
set_option maxRecDepth 100000 in
theorem iX12_rows : Cond.instanceMethod yX12_rows ∈ q_tb := q_mt_9 216 rfl rfl
set_option maxRecDepth 100000 in
theorem eX12_rows : Cond.selects (yX12_rows).cls yX12_rows yX12_rows ∈ q_tb := q_mt_9 217 rfl rfl
set_option maxRecDepth 100000 in
theorem lLAW_95 : Cond.methodLink "GrammarToolsLaw" 95 yX11_two ∈ q_tb := q_mt_5 20 rfl rfl
set_option maxRecDepth 100000 in
theorem iX11_two : Cond.instanceMethod yX11_two ∈ q_tb := q_mt_5 21 rfl rfl
set_option maxRecDepth 100000 in
theorem eX11_two : Cond.selects (yX11_two).cls yX11_two yX11_two ∈ q_tb := q_mt_5 22 rfl rfl
set_option maxRecDepth 100000 in
theorem lLAW_98 : Cond.methodLink "GrammarToolsLaw" 98 yX12_two ∈ q_tb := q_mt_10 0 rfl rfl
set_option maxRecDepth 100000 in
theorem iX12_two : Cond.instanceMethod yX12_two ∈ q_tb := q_mt_10 1 rfl rfl
set_option maxRecDepth 100000 in
theorem eX12_two : Cond.selects (yX12_two).cls yX12_two yX12_two ∈ q_tb := q_mt_10 2 rfl rfl
set_option maxRecDepth 100000 in
theorem lLAW_99 : Cond.methodLink "GrammarToolsLaw" 99 yX11_price ∈ q_tb := q_mt_5 34 rfl rfl
set_option maxRecDepth 100000 in
theorem iX11_price : Cond.instanceMethod yX11_price ∈ q_tb := q_mt_5 35 rfl rfl
set_option maxRecDepth 100000 in
theorem eX11_price : Cond.selects (yX11_price).cls yX11_price yX11_price ∈ q_tb := q_mt_5 36 rfl rfl
set_option maxRecDepth 100000 in
theorem lLAW_102 : Cond.methodLink "GrammarToolsLaw" 102 yX12_price ∈ q_tb := q_mt_10 4 rfl rfl
set_option maxRecDepth 100000 in
theorem iX12_price : Cond.instanceMethod yX12_price ∈ q_tb := q_mt_10 5 rfl rfl
set_option maxRecDepth 100000 in
theorem eX12_price : Cond.selects (yX12_price).cls yX12_price yX12_price ∈ q_tb := q_mt_10 6 rfl rfl
set_option maxRecDepth 100000 in
theorem lLAW_103 : Cond.methodLink "GrammarToolsLaw" 103 yX11_mend ∈ q_tb := q_mt_5 39 rfl rfl
set_option maxRecDepth 100000 in
theorem iX11_mend : Cond.instanceMethod yX11_mend ∈ q_tb := q_mt_5 40 rfl rfl
set_option maxRecDepth 100000 in
theorem eX11_mend : Cond.selects (yX11_mend).cls yX11_mend yX11_mend ∈ q_tb := q_mt_5 41 rfl rfl
set_option maxRecDepth 100000 in
theorem lLAW_106 : Cond.methodLink "GrammarToolsLaw" 106 yX12_mend ∈ q_tb := q_mt_10 25 rfl rfl
set_option maxRecDepth 100000 in
theorem iX12_mend : Cond.instanceMethod yX12_mend ∈ q_tb := q_mt_10 26 rfl rfl
set_option maxRecDepth 100000 in
theorem eX12_mend : Cond.selects (yX12_mend).cls yX12_mend yX12_mend ∈ q_tb := q_mt_10 27 rfl rfl
set_option maxRecDepth 100000 in
theorem lLAW_107 : Cond.methodLink "GrammarToolsLaw" 107 yX11_size ∈ q_tb := q_mt_5 43 rfl rfl
set_option maxRecDepth 100000 in
theorem iX11_size : Cond.instanceMethod yX11_size ∈ q_tb := q_mt_5 44 rfl rfl
set_option maxRecDepth 100000 in
theorem eX11_size : Cond.selects (yX11_size).cls yX11_size yX11_size ∈ q_tb := q_mt_5 45 rfl rfl
set_option maxRecDepth 100000 in
theorem lLAW_110 : Cond.methodLink "GrammarToolsLaw" 110 yX12_size ∈ q_tb := q_mt_10 37 rfl rfl
set_option maxRecDepth 100000 in
theorem iX12_size : Cond.instanceMethod yX12_size ∈ q_tb := q_mt_10 38 rfl rfl
set_option maxRecDepth 100000 in
theorem eX12_size : Cond.selects (yX12_size).cls yX12_size yX12_size ∈ q_tb := q_mt_10 39 rfl rfl
set_option maxRecDepth 100000 in
theorem lLAW_111 : Cond.methodLink "GrammarToolsLaw" 111 yX11_node ∈ q_tb := q_mt_5 77 rfl rfl
set_option maxRecDepth 100000 in
theorem iX11_node : Cond.instanceMethod yX11_node ∈ q_tb := q_mt_5 78 rfl rfl
set_option maxRecDepth 100000 in
theorem eX11_node : Cond.selects (yX11_node).cls yX11_node yX11_node ∈ q_tb := q_mt_5 79 rfl rfl
set_option maxRecDepth 100000 in
theorem lLAW_114 : Cond.methodLink "GrammarToolsLaw" 114 yX12_node ∈ q_tb := q_mt_10 61 rfl rfl
set_option maxRecDepth 100000 in
theorem iX12_node : Cond.instanceMethod yX12_node ∈ q_tb := q_mt_10 62 rfl rfl
set_option maxRecDepth 100000 in
theorem eX12_node : Cond.selects (yX12_node).cls yX12_node yX12_node ∈ q_tb := q_mt_10 63 rfl rfl
set_option maxRecDepth 100000 in
theorem lLAW_115 : Cond.methodLink "GrammarToolsLaw" 115 yX11_slot ∈ q_tb := q_mt_5 89 rfl rfl
set_option maxRecDepth 100000 in
theorem iX11_slot : Cond.instanceMethod yX11_slot ∈ q_tb := q_mt_5 90 rfl rfl
set_option maxRecDepth 100000 in
theorem eX11_slot : Cond.selects (yX11_slot).cls yX11_slot yX11_slot ∈ q_tb := q_mt_5 91 rfl rfl
set_option maxRecDepth 100000 in
theorem lLAW_118 : Cond.methodLink "GrammarToolsLaw" 118 yX12_slot ∈ q_tb := q_mt_10 73 rfl rfl
set_option maxRecDepth 100000 in
theorem iX12_slot : Cond.instanceMethod yX12_slot ∈ q_tb := q_mt_10 74 rfl rfl
set_option maxRecDepth 100000 in
theorem eX12_slot : Cond.selects (yX12_slot).cls yX12_slot yX12_slot ∈ q_tb := q_mt_10 75 rfl rfl
set_option maxRecDepth 100000 in
theorem lLAW_119 : Cond.methodLink "GrammarToolsLaw" 119 yX11_leaf ∈ q_tb := q_mt_5 98 rfl rfl
set_option maxRecDepth 100000 in
theorem iX11_leaf : Cond.instanceMethod yX11_leaf ∈ q_tb := q_mt_5 99 rfl rfl
set_option maxRecDepth 100000 in
theorem eX11_leaf : Cond.selects (yX11_leaf).cls yX11_leaf yX11_leaf ∈ q_tb := q_mt_5 100 rfl rfl
set_option maxRecDepth 100000 in
theorem lLAW_122 : Cond.methodLink "GrammarToolsLaw" 122 yX12_leaf ∈ q_tb := q_mt_10 77 rfl rfl
set_option maxRecDepth 100000 in
theorem iX12_leaf : Cond.instanceMethod yX12_leaf ∈ q_tb := q_mt_10 78 rfl rfl
set_option maxRecDepth 100000 in
theorem eX12_leaf : Cond.selects (yX12_leaf).cls yX12_leaf yX12_leaf ∈ q_tb := q_mt_10 79 rfl rfl
set_option maxRecDepth 100000 in
theorem lLAW_123 : Cond.methodLink "GrammarToolsLaw" 123 yX11_spell ∈ q_tb := q_mt_5 106 rfl rfl
set_option maxRecDepth 100000 in
theorem iX11_spell : Cond.instanceMethod yX11_spell ∈ q_tb := q_mt_5 107 rfl rfl
set_option maxRecDepth 100000 in
theorem eX11_spell : Cond.selects (yX11_spell).cls yX11_spell yX11_spell ∈ q_tb := q_mt_5 108 rfl rfl
set_option maxRecDepth 100000 in
theorem lLAW_126 : Cond.methodLink "GrammarToolsLaw" 126 yX12_spell ∈ q_tb := q_mt_10 85 rfl rfl
set_option maxRecDepth 100000 in
theorem iX12_spell : Cond.instanceMethod yX12_spell ∈ q_tb := q_mt_10 86 rfl rfl
set_option maxRecDepth 100000 in
theorem eX12_spell : Cond.selects (yX12_spell).cls yX12_spell yX12_spell ∈ q_tb := q_mt_10 87 rfl rfl
set_option maxRecDepth 100000 in
theorem lLAW_127 : Cond.methodLink "GrammarToolsLaw" 127 yX11_write ∈ q_tb := q_mt_5 115 rfl rfl
set_option maxRecDepth 100000 in
theorem iX11_write : Cond.instanceMethod yX11_write ∈ q_tb := q_mt_5 116 rfl rfl
set_option maxRecDepth 100000 in
theorem eX11_write : Cond.selects (yX11_write).cls yX11_write yX11_write ∈ q_tb := q_mt_5 117 rfl rfl
set_option maxRecDepth 100000 in
theorem lLAW_130 : Cond.methodLink "GrammarToolsLaw" 130 yX12_write ∈ q_tb := q_mt_10 89 rfl rfl
set_option maxRecDepth 100000 in
theorem iX12_write : Cond.instanceMethod yX12_write ∈ q_tb := q_mt_10 90 rfl rfl
set_option maxRecDepth 100000 in
theorem eX12_write : Cond.selects (yX12_write).cls yX12_write yX12_write ∈ q_tb := q_mt_10 91 rfl rfl
set_option maxRecDepth 100000 in
theorem lLAW_131 : Cond.methodLink "GrammarToolsLaw" 131 yX11_keep ∈ q_tb := q_mt_5 120 rfl rfl
set_option maxRecDepth 100000 in
theorem iX11_keep : Cond.instanceMethod yX11_keep ∈ q_tb := q_mt_5 121 rfl rfl
set_option maxRecDepth 100000 in
theorem eX11_keep : Cond.selects (yX11_keep).cls yX11_keep yX11_keep ∈ q_tb := q_mt_5 122 rfl rfl
set_option maxRecDepth 100000 in
theorem lLAW_134 : Cond.methodLink "GrammarToolsLaw" 134 yX12_keep ∈ q_tb := q_mt_10 93 rfl rfl
set_option maxRecDepth 100000 in
theorem iX12_keep : Cond.instanceMethod yX12_keep ∈ q_tb := q_mt_10 94 rfl rfl
set_option maxRecDepth 100000 in
theorem eX12_keep : Cond.selects (yX12_keep).cls yX12_keep yX12_keep ∈ q_tb := q_mt_10 95 rfl rfl
set_option maxRecDepth 100000 in
theorem lLAW_135 : Cond.methodLink "GrammarToolsLaw" 135 yX11_strike ∈ q_tb := q_mt_5 124 rfl rfl
set_option maxRecDepth 100000 in
theorem iX11_strike : Cond.instanceMethod yX11_strike ∈ q_tb := q_mt_5 125 rfl rfl
set_option maxRecDepth 100000 in
theorem eX11_strike : Cond.selects (yX11_strike).cls yX11_strike yX11_strike ∈ q_tb := q_mt_5 126 rfl rfl
set_option maxRecDepth 100000 in
theorem lLAW_138 : Cond.methodLink "GrammarToolsLaw" 138 yX12_strike ∈ q_tb := q_mt_10 97 rfl rfl
set_option maxRecDepth 100000 in
theorem iX12_strike : Cond.instanceMethod yX12_strike ∈ q_tb := q_mt_10 98 rfl rfl
set_option maxRecDepth 100000 in
theorem eX12_strike : Cond.selects (yX12_strike).cls yX12_strike yX12_strike ∈ q_tb := q_mt_10 99 rfl rfl
set_option maxRecDepth 100000 in
theorem lLAW_139 : Cond.methodLink "GrammarToolsLaw" 139 yX11_like ∈ q_tb := q_mt_5 128 rfl rfl
set_option maxRecDepth 100000 in
theorem iX11_like : Cond.instanceMethod yX11_like ∈ q_tb := q_mt_5 129 rfl rfl
set_option maxRecDepth 100000 in
theorem eX11_like : Cond.selects (yX11_like).cls yX11_like yX11_like ∈ q_tb := q_mt_5 130 rfl rfl
set_option maxRecDepth 100000 in
theorem lLAW_142 : Cond.methodLink "GrammarToolsLaw" 142 yX12_like ∈ q_tb := q_mt_10 101 rfl rfl
set_option maxRecDepth 100000 in
theorem iX12_like : Cond.instanceMethod yX12_like ∈ q_tb := q_mt_10 102 rfl rfl
set_option maxRecDepth 100000 in
theorem eX12_like : Cond.selects (yX12_like).cls yX12_like yX12_like ∈ q_tb := q_mt_10 103 rfl rfl
set_option maxRecDepth 100000 in
theorem lLAW_143 : Cond.methodLink "GrammarToolsLaw" 143 yX11_pin ∈ q_tb := q_mt_5 135 rfl rfl
set_option maxRecDepth 100000 in
theorem iX11_pin : Cond.instanceMethod yX11_pin ∈ q_tb := q_mt_5 136 rfl rfl
set_option maxRecDepth 100000 in
theorem eX11_pin : Cond.selects (yX11_pin).cls yX11_pin yX11_pin ∈ q_tb := q_mt_5 137 rfl rfl
set_option maxRecDepth 100000 in
theorem lLAW_146 : Cond.methodLink "GrammarToolsLaw" 146 yX12_pin ∈ q_tb := q_mt_10 109 rfl rfl
set_option maxRecDepth 100000 in
theorem iX12_pin : Cond.instanceMethod yX12_pin ∈ q_tb := q_mt_10 110 rfl rfl
set_option maxRecDepth 100000 in
theorem eX12_pin : Cond.selects (yX12_pin).cls yX12_pin yX12_pin ∈ q_tb := q_mt_10 111 rfl rfl
set_option maxRecDepth 100000 in
theorem lLAW_147 : Cond.methodLink "GrammarToolsLaw" 147 yX11_lay ∈ q_tb := q_mt_5 139 rfl rfl
set_option maxRecDepth 100000 in
theorem iX11_lay : Cond.instanceMethod yX11_lay ∈ q_tb := q_mt_5 140 rfl rfl
set_option maxRecDepth 100000 in
theorem eX11_lay : Cond.selects (yX11_lay).cls yX11_lay yX11_lay ∈ q_tb := q_mt_5 141 rfl rfl
set_option maxRecDepth 100000 in
theorem lLAW_150 : Cond.methodLink "GrammarToolsLaw" 150 yX12_lay ∈ q_tb := q_mt_10 113 rfl rfl
set_option maxRecDepth 100000 in
theorem iX12_lay : Cond.instanceMethod yX12_lay ∈ q_tb := q_mt_10 114 rfl rfl
set_option maxRecDepth 100000 in
theorem eX12_lay : Cond.selects (yX12_lay).cls yX12_lay yX12_lay ∈ q_tb := q_mt_10 115 rfl rfl
set_option maxRecDepth 100000 in
theorem lLAW_151 : Cond.methodLink "GrammarToolsLaw" 151 yX11_laid ∈ q_tb := q_mt_5 161 rfl rfl
set_option maxRecDepth 100000 in
theorem iX11_laid : Cond.instanceMethod yX11_laid ∈ q_tb := q_mt_5 162 rfl rfl
set_option maxRecDepth 100000 in
theorem eX11_laid : Cond.selects (yX11_laid).cls yX11_laid yX11_laid ∈ q_tb := q_mt_5 163 rfl rfl
set_option maxRecDepth 100000 in
theorem lLAW_154 : Cond.methodLink "GrammarToolsLaw" 154 yX12_laid ∈ q_tb := q_mt_10 149 rfl rfl
set_option maxRecDepth 100000 in
theorem iX12_laid : Cond.instanceMethod yX12_laid ∈ q_tb := q_mt_10 150 rfl rfl
set_option maxRecDepth 100000 in
theorem eX12_laid : Cond.selects (yX12_laid).cls yX12_laid yX12_laid ∈ q_tb := q_mt_10 151 rfl rfl
set_option maxRecDepth 100000 in
theorem lLAW_155 : Cond.methodLink "GrammarToolsLaw" 155 yX11_distance ∈ q_tb := q_mt_5 165 rfl rfl
set_option maxRecDepth 100000 in
theorem iX11_distance : Cond.instanceMethod yX11_distance ∈ q_tb := q_mt_5 166 rfl rfl
set_option maxRecDepth 100000 in
theorem eX11_distance : Cond.selects (yX11_distance).cls yX11_distance yX11_distance ∈ q_tb := q_mt_5 167 rfl rfl
set_option maxRecDepth 100000 in
theorem lLAW_158 : Cond.methodLink "GrammarToolsLaw" 158 yX12_distance ∈ q_tb := q_mt_10 153 rfl rfl
set_option maxRecDepth 100000 in
theorem iX12_distance : Cond.instanceMethod yX12_distance ∈ q_tb := q_mt_10 154 rfl rfl
set_option maxRecDepth 100000 in
theorem eX12_distance : Cond.selects (yX12_distance).cls yX12_distance yX12_distance ∈ q_tb := q_mt_10 155 rfl rfl
set_option maxRecDepth 100000 in
theorem lLAW_159 : Cond.methodLink "GrammarToolsLaw" 159 yX11_move ∈ q_tb := q_mt_5 192 rfl rfl
set_option maxRecDepth 100000 in
theorem iX11_move : Cond.instanceMethod yX11_move ∈ q_tb := q_mt_5 193 rfl rfl
set_option maxRecDepth 100000 in
theorem eX11_move : Cond.selects (yX11_move).cls yX11_move yX11_move ∈ q_tb := q_mt_5 194 rfl rfl
set_option maxRecDepth 100000 in
theorem lLAW_162 : Cond.methodLink "GrammarToolsLaw" 162 yX12_move ∈ q_tb := q_mt_10 173 rfl rfl
set_option maxRecDepth 100000 in
theorem iX12_move : Cond.instanceMethod yX12_move ∈ q_tb := q_mt_10 174 rfl rfl
set_option maxRecDepth 100000 in
theorem eX12_move : Cond.selects (yX12_move).cls yX12_move yX12_move ∈ q_tb := q_mt_10 175 rfl rfl
set_option maxRecDepth 100000 in
theorem lLAW_163 : Cond.methodLink "GrammarToolsLaw" 163 yX11_join ∈ q_tb := q_mt_5 202 rfl rfl
set_option maxRecDepth 100000 in
theorem iX11_join : Cond.instanceMethod yX11_join ∈ q_tb := q_mt_5 203 rfl rfl
set_option maxRecDepth 100000 in
theorem eX11_join : Cond.selects (yX11_join).cls yX11_join yX11_join ∈ q_tb := q_mt_5 204 rfl rfl
set_option maxRecDepth 100000 in
theorem lLAW_166 : Cond.methodLink "GrammarToolsLaw" 166 yX12_join ∈ q_tb := q_mt_10 177 rfl rfl
set_option maxRecDepth 100000 in
theorem iX12_join : Cond.instanceMethod yX12_join ∈ q_tb := q_mt_10 178 rfl rfl
set_option maxRecDepth 100000 in
theorem eX12_join : Cond.selects (yX12_join).cls yX12_join yX12_join ∈ q_tb := q_mt_10 179 rfl rfl
set_option maxRecDepth 100000 in
theorem lLAW_167 : Cond.methodLink "GrammarToolsLaw" 167 yX11_bound ∈ q_tb := q_mt_5 221 rfl rfl
set_option maxRecDepth 100000 in
theorem iX11_bound : Cond.instanceMethod yX11_bound ∈ q_tb := q_mt_5 222 rfl rfl
set_option maxRecDepth 100000 in
theorem eX11_bound : Cond.selects (yX11_bound).cls yX11_bound yX11_bound ∈ q_tb := q_mt_5 223 rfl rfl
set_option maxRecDepth 100000 in
theorem lLAW_170 : Cond.methodLink "GrammarToolsLaw" 170 yX12_bound ∈ q_tb := q_mt_10 209 rfl rfl
set_option maxRecDepth 100000 in
theorem iX12_bound : Cond.instanceMethod yX12_bound ∈ q_tb := q_mt_10 210 rfl rfl
set_option maxRecDepth 100000 in
theorem eX12_bound : Cond.selects (yX12_bound).cls yX12_bound yX12_bound ∈ q_tb := q_mt_10 211 rfl rfl
set_option maxRecDepth 100000 in
theorem lLAW_171 : Cond.methodLink "GrammarToolsLaw" 171 yX11_uses ∈ q_tb := q_mt_6 14 rfl rfl
set_option maxRecDepth 100000 in
theorem iX11_uses : Cond.instanceMethod yX11_uses ∈ q_tb := q_mt_6 15 rfl rfl
set_option maxRecDepth 100000 in
theorem eX11_uses : Cond.selects (yX11_uses).cls yX11_uses yX11_uses ∈ q_tb := q_mt_6 16 rfl rfl
set_option maxRecDepth 100000 in
theorem lLAW_174 : Cond.methodLink "GrammarToolsLaw" 174 yX12_uses ∈ q_tb := q_mt_10 229 rfl rfl
set_option maxRecDepth 100000 in
theorem iX12_uses : Cond.instanceMethod yX12_uses ∈ q_tb := q_mt_10 230 rfl rfl
set_option maxRecDepth 100000 in
theorem eX12_uses : Cond.selects (yX12_uses).cls yX12_uses yX12_uses ∈ q_tb := q_mt_10 231 rfl rfl
set_option maxRecDepth 100000 in
theorem lLAW_175 : Cond.methodLink "GrammarToolsLaw" 175 yX11_rename ∈ q_tb := q_mt_6 23 rfl rfl
set_option maxRecDepth 100000 in
theorem iX11_rename : Cond.instanceMethod yX11_rename ∈ q_tb := q_mt_6 24 rfl rfl
set_option maxRecDepth 100000 in
theorem eX11_rename : Cond.selects (yX11_rename).cls yX11_rename yX11_rename ∈ q_tb := q_mt_6 25 rfl rfl
set_option maxRecDepth 100000 in
theorem lLAW_178 : Cond.methodLink "GrammarToolsLaw" 178 yX12_rename ∈ q_tb := q_mt_10 233 rfl rfl
set_option maxRecDepth 100000 in
theorem iX12_rename : Cond.instanceMethod yX12_rename ∈ q_tb := q_mt_10 234 rfl rfl
set_option maxRecDepth 100000 in
theorem eX12_rename : Cond.selects (yX12_rename).cls yX12_rename yX12_rename ∈ q_tb := q_mt_10 235 rfl rfl
set_option maxRecDepth 100000 in
theorem lLAW_179 : Cond.methodLink "GrammarToolsLaw" 179 yX11_kind ∈ q_tb := q_mt_6 40 rfl rfl
set_option maxRecDepth 100000 in
theorem iX11_kind : Cond.instanceMethod yX11_kind ∈ q_tb := q_mt_6 41 rfl rfl
set_option maxRecDepth 100000 in
theorem eX11_kind : Cond.selects (yX11_kind).cls yX11_kind yX11_kind ∈ q_tb := q_mt_6 42 rfl rfl
set_option maxRecDepth 100000 in
theorem lLAW_182 : Cond.methodLink "GrammarToolsLaw" 182 yX12_kind ∈ q_tb := q_mt_11 2 rfl rfl
set_option maxRecDepth 100000 in
theorem iX12_kind : Cond.instanceMethod yX12_kind ∈ q_tb := q_mt_11 3 rfl rfl
set_option maxRecDepth 100000 in
theorem eX12_kind : Cond.selects (yX12_kind).cls yX12_kind yX12_kind ∈ q_tb := q_mt_11 4 rfl rfl
set_option maxRecDepth 100000 in
theorem lLAW_183 : Cond.methodLink "GrammarToolsLaw" 183 yX11_blamed ∈ q_tb := q_mt_6 79 rfl rfl
set_option maxRecDepth 100000 in
theorem iX11_blamed : Cond.instanceMethod yX11_blamed ∈ q_tb := q_mt_6 80 rfl rfl
set_option maxRecDepth 100000 in
theorem eX11_blamed : Cond.selects (yX11_blamed).cls yX11_blamed yX11_blamed ∈ q_tb := q_mt_6 81 rfl rfl
set_option maxRecDepth 100000 in
theorem lLAW_186 : Cond.methodLink "GrammarToolsLaw" 186 yX12_blamed ∈ q_tb := q_mt_11 26 rfl rfl
set_option maxRecDepth 100000 in
theorem iX12_blamed : Cond.instanceMethod yX12_blamed ∈ q_tb := q_mt_11 27 rfl rfl
set_option maxRecDepth 100000 in
theorem eX12_blamed : Cond.selects (yX12_blamed).cls yX12_blamed yX12_blamed ∈ q_tb := q_mt_11 28 rfl rfl
set_option maxRecDepth 100000 in
theorem lLAW_187 : Cond.methodLink "GrammarToolsLaw" 187 yX11_world ∈ q_tb := q_mt_6 96 rfl rfl
set_option maxRecDepth 100000 in
theorem iX11_world : Cond.instanceMethod yX11_world ∈ q_tb := q_mt_6 97 rfl rfl
set_option maxRecDepth 100000 in
theorem eX11_world : Cond.selects (yX11_world).cls yX11_world yX11_world ∈ q_tb := q_mt_6 98 rfl rfl
set_option maxRecDepth 100000 in
theorem lLAW_190 : Cond.methodLink "GrammarToolsLaw" 190 yX12_world ∈ q_tb := q_mt_11 38 rfl rfl
set_option maxRecDepth 100000 in
theorem iX12_world : Cond.instanceMethod yX12_world ∈ q_tb := q_mt_11 39 rfl rfl
set_option maxRecDepth 100000 in
theorem eX12_world : Cond.selects (yX12_world).cls yX12_world yX12_world ∈ q_tb := q_mt_11 40 rfl rfl
set_option maxRecDepth 100000 in
theorem lLAW_191 : Cond.methodLink "GrammarToolsLaw" 191 yX11_run ∈ q_tb := q_mt_6 103 rfl rfl
set_option maxRecDepth 100000 in
theorem iX11_run : Cond.instanceMethod yX11_run ∈ q_tb := q_mt_6 104 rfl rfl
set_option maxRecDepth 100000 in
theorem eX11_run : Cond.selects (yX11_run).cls yX11_run yX11_run ∈ q_tb := q_mt_6 105 rfl rfl
set_option maxRecDepth 100000 in
theorem lLAW_194 : Cond.methodLink "GrammarToolsLaw" 194 yX12_run ∈ q_tb := q_mt_11 42 rfl rfl
set_option maxRecDepth 100000 in
theorem iX12_run : Cond.instanceMethod yX12_run ∈ q_tb := q_mt_11 43 rfl rfl
set_option maxRecDepth 100000 in
theorem eX12_run : Cond.selects (yX12_run).cls yX12_run yX12_run ∈ q_tb := q_mt_11 44 rfl rfl
set_option maxRecDepth 100000 in
theorem lLAW_195 : Cond.methodLink "GrammarToolsLaw" 195 yX11_value ∈ q_tb := q_mt_6 143 rfl rfl
set_option maxRecDepth 100000 in
theorem iX11_value : Cond.instanceMethod yX11_value ∈ q_tb := q_mt_6 144 rfl rfl
set_option maxRecDepth 100000 in
theorem eX11_value : Cond.selects (yX11_value).cls yX11_value yX11_value ∈ q_tb := q_mt_6 145 rfl rfl
set_option maxRecDepth 100000 in
theorem lLAW_199 : Cond.methodLink "GrammarToolsLaw" 199 yX12_value ∈ q_tb := q_mt_11 70 rfl rfl
set_option maxRecDepth 100000 in
theorem iX12_value : Cond.instanceMethod yX12_value ∈ q_tb := q_mt_11 71 rfl rfl
set_option maxRecDepth 100000 in
theorem eX12_value : Cond.selects (yX12_value).cls yX12_value yX12_value ∈ q_tb := q_mt_11 72 rfl rfl
set_option maxRecDepth 100000 in
theorem lLAW_200 : Cond.methodLink "GrammarToolsLaw" 200 yX11_show ∈ q_tb := q_mt_6 147 rfl rfl
set_option maxRecDepth 100000 in
theorem iX11_show : Cond.instanceMethod yX11_show ∈ q_tb := q_mt_6 148 rfl rfl
set_option maxRecDepth 100000 in
theorem eX11_show : Cond.selects (yX11_show).cls yX11_show yX11_show ∈ q_tb := q_mt_6 149 rfl rfl
set_option maxRecDepth 100000 in
theorem lLAW_203 : Cond.methodLink "GrammarToolsLaw" 203 yX12_show ∈ q_tb := q_mt_11 74 rfl rfl
set_option maxRecDepth 100000 in
theorem iX12_show : Cond.instanceMethod yX12_show ∈ q_tb := q_mt_11 75 rfl rfl
set_option maxRecDepth 100000 in
theorem eX12_show : Cond.selects (yX12_show).cls yX12_show yX12_show ∈ q_tb := q_mt_11 76 rfl rfl
set_option maxRecDepth 100000 in
theorem lLAW_204 : Cond.methodLink "GrammarToolsLaw" 204 yX11_hide ∈ q_tb := q_mt_6 156 rfl rfl
set_option maxRecDepth 100000 in
theorem iX11_hide : Cond.instanceMethod yX11_hide ∈ q_tb := q_mt_6 157 rfl rfl
set_option maxRecDepth 100000 in
theorem eX11_hide : Cond.selects (yX11_hide).cls yX11_hide yX11_hide ∈ q_tb := q_mt_6 158 rfl rfl
set_option maxRecDepth 100000 in
theorem lLAW_207 : Cond.methodLink "GrammarToolsLaw" 207 yX12_hide ∈ q_tb := q_mt_11 78 rfl rfl
set_option maxRecDepth 100000 in
theorem iX12_hide : Cond.instanceMethod yX12_hide ∈ q_tb := q_mt_11 79 rfl rfl
set_option maxRecDepth 100000 in
theorem eX12_hide : Cond.selects (yX12_hide).cls yX12_hide yX12_hide ∈ q_tb := q_mt_11 80 rfl rfl
set_option maxRecDepth 100000 in
theorem lLAW_208 : Cond.methodLink "GrammarToolsLaw" 208 yX11_find ∈ q_tb := q_mt_6 160 rfl rfl
set_option maxRecDepth 100000 in
theorem iX11_find : Cond.instanceMethod yX11_find ∈ q_tb := q_mt_6 161 rfl rfl
set_option maxRecDepth 100000 in
theorem eX11_find : Cond.selects (yX11_find).cls yX11_find yX11_find ∈ q_tb := q_mt_6 162 rfl rfl
set_option maxRecDepth 100000 in
theorem lLAW_211 : Cond.methodLink "GrammarToolsLaw" 211 yX12_find ∈ q_tb := q_mt_11 82 rfl rfl
set_option maxRecDepth 100000 in
theorem iX12_find : Cond.instanceMethod yX12_find ∈ q_tb := q_mt_11 83 rfl rfl
set_option maxRecDepth 100000 in
theorem eX12_find : Cond.selects (yX12_find).cls yX12_find yX12_find ∈ q_tb := q_mt_11 84 rfl rfl
set_option maxRecDepth 100000 in
theorem lLAW_212 : Cond.methodLink "GrammarToolsLaw" 212 yX11_turned ∈ q_tb := q_mt_6 199 rfl rfl
set_option maxRecDepth 100000 in
theorem iX11_turned : Cond.instanceMethod yX11_turned ∈ q_tb := q_mt_6 200 rfl rfl
set_option maxRecDepth 100000 in
theorem eX11_turned : Cond.selects (yX11_turned).cls yX11_turned yX11_turned ∈ q_tb := q_mt_6 201 rfl rfl
set_option maxRecDepth 100000 in
theorem lLAW_215 : Cond.methodLink "GrammarToolsLaw" 215 yX12_turned ∈ q_tb := q_mt_11 106 rfl rfl
set_option maxRecDepth 100000 in
theorem iX12_turned : Cond.instanceMethod yX12_turned ∈ q_tb := q_mt_11 107 rfl rfl
set_option maxRecDepth 100000 in
theorem eX12_turned : Cond.selects (yX12_turned).cls yX12_turned yX12_turned ∈ q_tb := q_mt_11 108 rfl rfl
set_option maxRecDepth 100000 in
theorem lLAW_216 : Cond.methodLink "GrammarToolsLaw" 216 yX11_fits ∈ q_tb := q_mt_6 208 rfl rfl
set_option maxRecDepth 100000 in
theorem iX11_fits : Cond.instanceMethod yX11_fits ∈ q_tb := q_mt_6 209 rfl rfl
set_option maxRecDepth 100000 in
theorem eX11_fits : Cond.selects (yX11_fits).cls yX11_fits yX11_fits ∈ q_tb := q_mt_6 210 rfl rfl
set_option maxRecDepth 100000 in
theorem lLAW_219 : Cond.methodLink "GrammarToolsLaw" 219 yX12_fits ∈ q_tb := q_mt_11 114 rfl rfl
set_option maxRecDepth 100000 in
theorem iX12_fits : Cond.instanceMethod yX12_fits ∈ q_tb := q_mt_11 115 rfl rfl
set_option maxRecDepth 100000 in
theorem eX12_fits : Cond.selects (yX12_fits).cls yX12_fits yX12_fits ∈ q_tb := q_mt_11 116 rfl rfl
set_option maxRecDepth 100000 in
theorem lLAW_220 : Cond.methodLink "GrammarToolsLaw" 220 yX11_apply ∈ q_tb := q_mt_6 221 rfl rfl
set_option maxRecDepth 100000 in
theorem iX11_apply : Cond.instanceMethod yX11_apply ∈ q_tb := q_mt_6 222 rfl rfl
set_option maxRecDepth 100000 in
theorem eX11_apply : Cond.selects (yX11_apply).cls yX11_apply yX11_apply ∈ q_tb := q_mt_6 223 rfl rfl
set_option maxRecDepth 100000 in
theorem lLAW_223 : Cond.methodLink "GrammarToolsLaw" 223 yX12_apply ∈ q_tb := q_mt_11 118 rfl rfl
set_option maxRecDepth 100000 in
theorem iX12_apply : Cond.instanceMethod yX12_apply ∈ q_tb := q_mt_11 119 rfl rfl
set_option maxRecDepth 100000 in
theorem eX12_apply : Cond.selects (yX12_apply).cls yX12_apply yX12_apply ∈ q_tb := q_mt_11 120 rfl rfl
set_option maxRecDepth 100000 in
theorem lLAW_224 : Cond.methodLink "GrammarToolsLaw" 224 yX11_law ∈ q_tb := q_mt_6 235 rfl rfl
set_option maxRecDepth 100000 in
theorem iX11_law : Cond.instanceMethod yX11_law ∈ q_tb := q_mt_6 236 rfl rfl
set_option maxRecDepth 100000 in
theorem eX11_law : Cond.selects (yX11_law).cls yX11_law yX11_law ∈ q_tb := q_mt_6 237 rfl rfl
set_option maxRecDepth 100000 in
theorem lLAW_228 : Cond.methodLink "GrammarToolsLaw" 228 yX12_law ∈ q_tb := q_mt_11 126 rfl rfl
set_option maxRecDepth 100000 in
theorem iX12_law : Cond.instanceMethod yX12_law ∈ q_tb := q_mt_11 127 rfl rfl
set_option maxRecDepth 100000 in
theorem eX12_law : Cond.selects (yX12_law).cls yX12_law yX12_law ∈ q_tb := q_mt_11 128 rfl rfl
set_option maxRecDepth 100000 in
theorem lLAW_229 : Cond.methodLink "GrammarToolsLaw" 229 yX11_kept ∈ q_tb := q_mt_6 239 rfl rfl
set_option maxRecDepth 100000 in
theorem iX11_kept : Cond.instanceMethod yX11_kept ∈ q_tb := q_mt_7 0 rfl rfl
set_option maxRecDepth 100000 in
theorem eX11_kept : Cond.selects (yX11_kept).cls yX11_kept yX11_kept ∈ q_tb := q_mt_7 1 rfl rfl
set_option maxRecDepth 100000 in
theorem lLAW_232 : Cond.methodLink "GrammarToolsLaw" 232 yX12_kept ∈ q_tb := q_mt_11 130 rfl rfl
set_option maxRecDepth 100000 in
theorem iX12_kept : Cond.instanceMethod yX12_kept ∈ q_tb := q_mt_11 131 rfl rfl
set_option maxRecDepth 100000 in
theorem eX12_kept : Cond.selects (yX12_kept).cls yX12_kept yX12_kept ∈ q_tb := q_mt_11 132 rfl rfl
set_option maxRecDepth 100000 in
theorem lLAW_233 : Cond.methodLink "GrammarToolsLaw" 233 yX11_tried ∈ q_tb := q_mt_7 38 rfl rfl
set_option maxRecDepth 100000 in
theorem iX11_tried : Cond.instanceMethod yX11_tried ∈ q_tb := q_mt_7 39 rfl rfl
set_option maxRecDepth 100000 in
theorem eX11_tried : Cond.selects (yX11_tried).cls yX11_tried yX11_tried ∈ q_tb := q_mt_7 40 rfl rfl
set_option maxRecDepth 100000 in
theorem lLAW_236 : Cond.methodLink "GrammarToolsLaw" 236 yX12_tried ∈ q_tb := q_mt_11 142 rfl rfl
set_option maxRecDepth 100000 in
theorem iX12_tried : Cond.instanceMethod yX12_tried ∈ q_tb := q_mt_11 143 rfl rfl
set_option maxRecDepth 100000 in
theorem eX12_tried : Cond.selects (yX12_tried).cls yX12_tried yX12_tried ∈ q_tb := q_mt_11 144 rfl rfl
set_option maxRecDepth 100000 in
theorem lLAW_237 : Cond.methodLink "GrammarToolsLaw" 237 yX11_map ∈ q_tb := q_mt_7 42 rfl rfl
set_option maxRecDepth 100000 in
theorem iX11_map : Cond.instanceMethod yX11_map ∈ q_tb := q_mt_7 43 rfl rfl
set_option maxRecDepth 100000 in
theorem eX11_map : Cond.selects (yX11_map).cls yX11_map yX11_map ∈ q_tb := q_mt_7 44 rfl rfl
set_option maxRecDepth 100000 in
theorem lLAW_240 : Cond.methodLink "GrammarToolsLaw" 240 yX12_map ∈ q_tb := q_mt_11 146 rfl rfl
set_option maxRecDepth 100000 in
theorem iX12_map : Cond.instanceMethod yX12_map ∈ q_tb := q_mt_11 147 rfl rfl
set_option maxRecDepth 100000 in
theorem eX12_map : Cond.selects (yX12_map).cls yX12_map yX12_map ∈ q_tb := q_mt_11 148 rfl rfl
set_option maxRecDepth 100000 in
theorem lLAW_241 : Cond.methodLink "GrammarToolsLaw" 241 yX11_unmap ∈ q_tb := q_mt_7 50 rfl rfl
set_option maxRecDepth 100000 in
theorem iX11_unmap : Cond.instanceMethod yX11_unmap ∈ q_tb := q_mt_7 51 rfl rfl
set_option maxRecDepth 100000 in
theorem eX11_unmap : Cond.selects (yX11_unmap).cls yX11_unmap yX11_unmap ∈ q_tb := q_mt_7 52 rfl rfl
set_option maxRecDepth 100000 in
theorem lLAW_244 : Cond.methodLink "GrammarToolsLaw" 244 yX12_unmap ∈ q_tb := q_mt_11 153 rfl rfl
set_option maxRecDepth 100000 in
theorem iX12_unmap : Cond.instanceMethod yX12_unmap ∈ q_tb := q_mt_11 154 rfl rfl
set_option maxRecDepth 100000 in
theorem eX12_unmap : Cond.selects (yX12_unmap).cls yX12_unmap yX12_unmap ∈ q_tb := q_mt_11 155 rfl rfl
set_option maxRecDepth 100000 in
theorem lLAW_245 : Cond.methodLink "GrammarToolsLaw" 245 yX11_carry ∈ q_tb := q_mt_7 54 rfl rfl
set_option maxRecDepth 100000 in
theorem iX11_carry : Cond.instanceMethod yX11_carry ∈ q_tb := q_mt_7 55 rfl rfl
set_option maxRecDepth 100000 in
theorem eX11_carry : Cond.selects (yX11_carry).cls yX11_carry yX11_carry ∈ q_tb := q_mt_7 56 rfl rfl
set_option maxRecDepth 100000 in
theorem lLAW_248 : Cond.methodLink "GrammarToolsLaw" 248 yX12_carry ∈ q_tb := q_mt_11 165 rfl rfl
set_option maxRecDepth 100000 in
theorem iX12_carry : Cond.instanceMethod yX12_carry ∈ q_tb := q_mt_11 166 rfl rfl
set_option maxRecDepth 100000 in
theorem eX12_carry : Cond.selects (yX12_carry).cls yX12_carry yX12_carry ∈ q_tb := q_mt_11 167 rfl rfl
set_option maxRecDepth 100000 in
theorem lLAW_249 : Cond.methodLink "GrammarToolsLaw" 249 yX11_left ∈ q_tb := q_mt_7 68 rfl rfl
set_option maxRecDepth 100000 in
theorem iX11_left : Cond.instanceMethod yX11_left ∈ q_tb := q_mt_7 69 rfl rfl
set_option maxRecDepth 100000 in
theorem eX11_left : Cond.selects (yX11_left).cls yX11_left yX11_left ∈ q_tb := q_mt_7 70 rfl rfl
set_option maxRecDepth 100000 in
theorem lLAW_252 : Cond.methodLink "GrammarToolsLaw" 252 yX12_left ∈ q_tb := q_mt_11 157 rfl rfl
set_option maxRecDepth 100000 in
theorem iX12_left : Cond.instanceMethod yX12_left ∈ q_tb := q_mt_11 158 rfl rfl
set_option maxRecDepth 100000 in
theorem eX12_left : Cond.selects (yX12_left).cls yX12_left yX12_left ∈ q_tb := q_mt_11 159 rfl rfl
set_option maxRecDepth 100000 in
theorem lLAW_253 : Cond.methodLink "GrammarToolsLaw" 253 yX11_hint ∈ q_tb := q_mt_7 72 rfl rfl
set_option maxRecDepth 100000 in
theorem iX11_hint : Cond.instanceMethod yX11_hint ∈ q_tb := q_mt_7 73 rfl rfl
set_option maxRecDepth 100000 in
theorem eX11_hint : Cond.selects (yX11_hint).cls yX11_hint yX11_hint ∈ q_tb := q_mt_7 74 rfl rfl
set_option maxRecDepth 100000 in
theorem lLAW_256 : Cond.methodLink "GrammarToolsLaw" 256 yX12_hint ∈ q_tb := q_mt_11 173 rfl rfl
set_option maxRecDepth 100000 in
theorem iX12_hint : Cond.instanceMethod yX12_hint ∈ q_tb := q_mt_11 174 rfl rfl
set_option maxRecDepth 100000 in
theorem eX12_hint : Cond.selects (yX12_hint).cls yX12_hint yX12_hint ∈ q_tb := q_mt_11 175 rfl rfl
set_option maxRecDepth 100000 in
theorem lLAW_257 : Cond.methodLink "GrammarToolsLaw" 257 yX11_forge ∈ q_tb := q_mt_7 80 rfl rfl
set_option maxRecDepth 100000 in
theorem iX11_forge : Cond.instanceMethod yX11_forge ∈ q_tb := q_mt_7 81 rfl rfl
set_option maxRecDepth 100000 in
theorem eX11_forge : Cond.selects (yX11_forge).cls yX11_forge yX11_forge ∈ q_tb := q_mt_7 82 rfl rfl
set_option maxRecDepth 100000 in
theorem lLAW_260 : Cond.methodLink "GrammarToolsLaw" 260 yX12_forge ∈ q_tb := q_mt_11 181 rfl rfl
set_option maxRecDepth 100000 in
theorem iX12_forge : Cond.instanceMethod yX12_forge ∈ q_tb := q_mt_11 182 rfl rfl
set_option maxRecDepth 100000 in
theorem eX12_forge : Cond.selects (yX12_forge).cls yX12_forge yX12_forge ∈ q_tb := q_mt_11 183 rfl rfl
set_option maxRecDepth 100000 in
theorem lLAW_261 : Cond.methodLink "GrammarToolsLaw" 261 yX11_set ∈ q_tb := q_mt_7 92 rfl rfl
set_option maxRecDepth 100000 in
theorem iX11_set : Cond.instanceMethod yX11_set ∈ q_tb := q_mt_7 93 rfl rfl
set_option maxRecDepth 100000 in
theorem eX11_set : Cond.selects (yX11_set).cls yX11_set yX11_set ∈ q_tb := q_mt_7 94 rfl rfl
set_option maxRecDepth 100000 in
theorem lLAW_264 : Cond.methodLink "GrammarToolsLaw" 264 yX12_set ∈ q_tb := q_mt_11 188 rfl rfl
set_option maxRecDepth 100000 in
theorem iX12_set : Cond.instanceMethod yX12_set ∈ q_tb := q_mt_11 189 rfl rfl
set_option maxRecDepth 100000 in
theorem eX12_set : Cond.selects (yX12_set).cls yX12_set yX12_set ∈ q_tb := q_mt_11 190 rfl rfl
set_option maxRecDepth 100000 in
theorem lLAW_265 : Cond.methodLink "GrammarToolsLaw" 265 yX11_get ∈ q_tb := q_mt_7 100 rfl rfl
set_option maxRecDepth 100000 in
theorem iX11_get : Cond.instanceMethod yX11_get ∈ q_tb := q_mt_7 101 rfl rfl
set_option maxRecDepth 100000 in
theorem eX11_get : Cond.selects (yX11_get).cls yX11_get yX11_get ∈ q_tb := q_mt_7 102 rfl rfl
set_option maxRecDepth 100000 in
theorem lLAW_268 : Cond.methodLink "GrammarToolsLaw" 268 yX12_get ∈ q_tb := q_mt_11 197 rfl rfl
set_option maxRecDepth 100000 in
theorem iX12_get : Cond.instanceMethod yX12_get ∈ q_tb := q_mt_11 198 rfl rfl
set_option maxRecDepth 100000 in
theorem eX12_get : Cond.selects (yX12_get).cls yX12_get yX12_get ∈ q_tb := q_mt_11 199 rfl rfl
set_option maxRecDepth 100000 in
theorem lLAW_269 : Cond.methodLink "GrammarToolsLaw" 269 yX11_copy ∈ q_tb := q_mt_7 104 rfl rfl
set_option maxRecDepth 100000 in
theorem iX11_copy : Cond.instanceMethod yX11_copy ∈ q_tb := q_mt_7 105 rfl rfl
set_option maxRecDepth 100000 in
theorem eX11_copy : Cond.selects (yX11_copy).cls yX11_copy yX11_copy ∈ q_tb := q_mt_7 106 rfl rfl
set_option maxRecDepth 100000 in
theorem lLAW_273 : Cond.methodLink "GrammarToolsLaw" 273 yX12_copy ∈ q_tb := q_mt_11 201 rfl rfl
set_option maxRecDepth 100000 in
theorem iX12_copy : Cond.instanceMethod yX12_copy ∈ q_tb := q_mt_11 202 rfl rfl
set_option maxRecDepth 100000 in
theorem eX12_copy : Cond.selects (yX12_copy).cls yX12_copy yX12_copy ∈ q_tb := q_mt_11 203 rfl rfl
set_option maxRecDepth 100000 in
theorem lLAW_274 : Cond.methodLink "GrammarToolsLaw" 274 yX11_take ∈ q_tb := q_mt_7 108 rfl rfl
set_option maxRecDepth 100000 in
theorem iX11_take : Cond.instanceMethod yX11_take ∈ q_tb := q_mt_7 109 rfl rfl
set_option maxRecDepth 100000 in
theorem eX11_take : Cond.selects (yX11_take).cls yX11_take yX11_take ∈ q_tb := q_mt_7 110 rfl rfl
set_option maxRecDepth 100000 in
theorem lLAW_277 : Cond.methodLink "GrammarToolsLaw" 277 yX12_take ∈ q_tb := q_mt_11 205 rfl rfl
set_option maxRecDepth 100000 in
theorem iX12_take : Cond.instanceMethod yX12_take ∈ q_tb := q_mt_11 206 rfl rfl
set_option maxRecDepth 100000 in
theorem eX12_take : Cond.selects (yX12_take).cls yX12_take yX12_take ∈ q_tb := q_mt_11 207 rfl rfl
end
