set_option maxRecDepth 100000 in
theorem fl_X3_40 : aw_fl RX3 40 3 0 := ⟨_, rfl, by decide, aw_in1 40 (by decide +kernel) rfl⟩
set_option maxRecDepth 100000 in
theorem fl_X1_31 : aw_fl RX1 31 3 0 := ⟨_, rfl, by decide, aw_in1 41 (by decide +kernel) rfl⟩
set_option maxRecDepth 100000 in
theorem fl_X4_55 : aw_fl RX4 55 3 0 := ⟨_, rfl, by decide, aw_in1 42 (by decide +kernel) rfl⟩
set_option maxRecDepth 100000 in
theorem fl_X6_39 : aw_fl RX6 39 3 0 := ⟨_, rfl, by decide, aw_in1 43 (by decide +kernel) rfl⟩
set_option maxRecDepth 100000 in
theorem fl_X8_48 : aw_fl RX8 48 3 0 := ⟨_, rfl, by decide, aw_in1 44 (by decide +kernel) rfl⟩
set_option maxRecDepth 100000 in
theorem fl_X9_99 : aw_fl RX9 99 3 0 := ⟨_, rfl, by decide, aw_in1 45 (by decide +kernel) rfl⟩
set_option maxRecDepth 100000 in
theorem fl_X3_9 : aw_fl RX3 9 3 1 := ⟨_, rfl, by decide, aw_in1 46 (by decide +kernel) rfl⟩
set_option maxRecDepth 100000 in
theorem fl_X1_50 : aw_fl RX1 50 3 1 := ⟨_, rfl, by decide, aw_in1 47 (by decide +kernel) rfl⟩
set_option maxRecDepth 100000 in
theorem fl_X9_106 : aw_fl RX9 106 3 1 := ⟨_, rfl, by decide, aw_in1 48 (by decide +kernel) rfl⟩
set_option maxRecDepth 100000 in
theorem fl_X8_67 : aw_fl RX8 67 3 1 := ⟨_, rfl, by decide, aw_in1 49 (by decide +kernel) rfl⟩
set_option maxRecDepth 100000 in
theorem fl_X4_116 : aw_fl RX4 116 3 1 := ⟨_, rfl, by decide, aw_in1 50 (by decide +kernel) rfl⟩
set_option maxRecDepth 100000 in
theorem fl_X0_75 : aw_fl RX0 75 3 1 := ⟨_, rfl, by decide, aw_in1 51 (by decide +kernel) rfl⟩
set_option maxRecDepth 100000 in
theorem fl_X5_106 : aw_fl RX5 106 3 1 := ⟨_, rfl, by decide, aw_in1 52 (by decide +kernel) rfl⟩
set_option maxRecDepth 100000 in
theorem fl_X3_15 : aw_fl RX3 15 3 2 := ⟨_, rfl, by decide, aw_in1 53 (by decide +kernel) rfl⟩
set_option maxRecDepth 100000 in
theorem fl_X9_110 : aw_fl RX9 110 3 2 := ⟨_, rfl, by decide, aw_in1 54 (by decide +kernel) rfl⟩
set_option maxRecDepth 100000 in
theorem fl_X4_119 : aw_fl RX4 119 3 2 := ⟨_, rfl, by decide, aw_in1 55 (by decide +kernel) rfl⟩
set_option maxRecDepth 100000 in
theorem fl_X3_18 : aw_fl RX3 18 3 3 := ⟨_, rfl, by decide, aw_in1 56 (by decide +kernel) rfl⟩
set_option maxRecDepth 100000 in
theorem fl_X9_113 : aw_fl RX9 113 3 3 := ⟨_, rfl, by decide, aw_in1 57 (by decide +kernel) rfl⟩
set_option maxRecDepth 100000 in
theorem fl_X4_122 : aw_fl RX4 122 3 3 := ⟨_, rfl, by decide, aw_in1 58 (by decide +kernel) rfl⟩
set_option maxRecDepth 100000 in
theorem fl_X3_43 : aw_fl RX3 43 3 4 := ⟨_, rfl, by decide, aw_in1 59 (by decide +kernel) rfl⟩
set_option maxRecDepth 100000 in
theorem fl_X6_60 : aw_fl RX6 60 3 4 := ⟨_, rfl, by decide, aw_in1 60 (by decide +kernel) rfl⟩
set_option maxRecDepth 100000 in
theorem fl_X4_128 : aw_fl RX4 128 3 4 := ⟨_, rfl, by decide, aw_in1 61 (by decide +kernel) rfl⟩
set_option maxRecDepth 100000 in
theorem fl_X9_269 : aw_fl RX9 269 3 4 := ⟨_, rfl, by decide, aw_in1 62 (by decide +kernel) rfl⟩
set_option maxRecDepth 100000 in
theorem fl_X3_21 : aw_fl RX3 21 3 5 := ⟨_, rfl, by decide, aw_in1 63 (by decide +kernel) rfl⟩
set_option maxRecDepth 100000 in
theorem fl_X4_131 : aw_fl RX4 131 3 5 := ⟨_, rfl, by decide, aw_in1 64 (by decide +kernel) rfl⟩
set_option maxRecDepth 100000 in
theorem fl_X3_24 : aw_fl RX3 24 3 6 := ⟨_, rfl, by decide, aw_in1 65 (by decide +kernel) rfl⟩
set_option maxRecDepth 100000 in
theorem fl_X4_134 : aw_fl RX4 134 3 6 := ⟨_, rfl, by decide, aw_in1 66 (by decide +kernel) rfl⟩
set_option maxRecDepth 100000 in
theorem fl_X3_27 : aw_fl RX3 27 3 7 := ⟨_, rfl, by decide, aw_in1 67 (by decide +kernel) rfl⟩
set_option maxRecDepth 100000 in
theorem fl_X4_137 : aw_fl RX4 137 3 7 := ⟨_, rfl, by decide, aw_in1 68 (by decide +kernel) rfl⟩
set_option maxRecDepth 100000 in
theorem fl_X3_30 : aw_fl RX3 30 3 8 := ⟨_, rfl, by decide, aw_in1 69 (by decide +kernel) rfl⟩
set_option maxRecDepth 100000 in
theorem fl_X4_140 : aw_fl RX4 140 3 8 := ⟨_, rfl, by decide, aw_in1 70 (by decide +kernel) rfl⟩
set_option maxRecDepth 100000 in
theorem fl_X3_68 : aw_fl RX3 68 3 9 := ⟨_, rfl, by decide, aw_in1 71 (by decide +kernel) rfl⟩
set_option maxRecDepth 100000 in
theorem fl_X4_143 : aw_fl RX4 143 3 9 := ⟨_, rfl, by decide, aw_in1 72 (by decide +kernel) rfl⟩
set_option maxRecDepth 100000 in
theorem fl_X3_71 : aw_fl RX3 71 3 10 := ⟨_, rfl, by decide, aw_in1 73 (by decide +kernel) rfl⟩
set_option maxRecDepth 100000 in
theorem fl_X4_146 : aw_fl RX4 146 3 10 := ⟨_, rfl, by decide, aw_in1 74 (by decide +kernel) rfl⟩
set_option maxRecDepth 100000 in
theorem fl_X3_33 : aw_fl RX3 33 3 11 := ⟨_, rfl, by decide, aw_in1 75 (by decide +kernel) rfl⟩
set_option maxRecDepth 100000 in
theorem fl_X4_149 : aw_fl RX4 149 3 11 := ⟨_, rfl, by decide, aw_in1 76 (by decide +kernel) rfl⟩
set_option maxRecDepth 100000 in
theorem fl_X3_78 : aw_fl RX3 78 3 12 := ⟨_, rfl, by decide, aw_in1 77 (by decide +kernel) rfl⟩
set_option maxRecDepth 100000 in
theorem fl_X4_152 : aw_fl RX4 152 3 12 := ⟨_, rfl, by decide, aw_in1 78 (by decide +kernel) rfl⟩
set_option maxRecDepth 100000 in
theorem fl_X3_52 : aw_fl RX3 52 3 13 := ⟨_, rfl, by decide, aw_in1 79 (by decide +kernel) rfl⟩
set_option maxRecDepth 100000 in
theorem fl_X4_155 : aw_fl RX4 155 3 13 := ⟨_, rfl, by decide, aw_in1 80 (by decide +kernel) rfl⟩
set_option maxRecDepth 100000 in
theorem fl_X9_195 : aw_fl RX9 195 3 13 := ⟨_, rfl, by decide, aw_in1 81 (by decide +kernel) rfl⟩
set_option maxRecDepth 100000 in
theorem fl_X3_55 : aw_fl RX3 55 3 14 := ⟨_, rfl, by decide, aw_in1 82 (by decide +kernel) rfl⟩
set_option maxRecDepth 100000 in
theorem fl_X4_158 : aw_fl RX4 158 3 14 := ⟨_, rfl, by decide, aw_in1 83 (by decide +kernel) rfl⟩
set_option maxRecDepth 100000 in
theorem fl_X9_201 : aw_fl RX9 201 3 14 := ⟨_, rfl, by decide, aw_in1 84 (by decide +kernel) rfl⟩
set_option maxRecDepth 100000 in
theorem fl_X3_37 : aw_fl RX3 37 3 15 := ⟨_, rfl, by decide, aw_in1 85 (by decide +kernel) rfl⟩
set_option maxRecDepth 100000 in
theorem fl_X4_161 : aw_fl RX4 161 3 15 := ⟨_, rfl, by decide, aw_in1 86 (by decide +kernel) rfl⟩
set_option maxRecDepth 100000 in
theorem fl_X4_9 : aw_fl RX4 9 4 0 := ⟨_, rfl, by decide, aw_in1 122 (by decide +kernel) rfl⟩
set_option maxRecDepth 100000 in
theorem fl_X9_73 : aw_fl RX9 73 4 1 := ⟨_, rfl, by decide, aw_in1 123 (by decide +kernel) rfl⟩
set_option maxRecDepth 100000 in
theorem fl_X4_29 : aw_fl RX4 29 4 1 := ⟨_, rfl, by decide, aw_in1 124 (by decide +kernel) rfl⟩
set_option maxRecDepth 100000 in
theorem fl_X4_18 : aw_fl RX4 18 4 2 := ⟨_, rfl, by decide, aw_in1 125 (by decide +kernel) rfl⟩
set_option maxRecDepth 100000 in
theorem fl_X9_89 : aw_fl RX9 89 4 2 := ⟨_, rfl, by decide, aw_in1 126 (by decide +kernel) rfl⟩
set_option maxRecDepth 100000 in
theorem fl_X4_22 : aw_fl RX4 22 4 3 := ⟨_, rfl, by decide, aw_in1 127 (by decide +kernel) rfl⟩
set_option maxRecDepth 100000 in
theorem fl_X4_26 : aw_fl RX4 26 4 4 := ⟨_, rfl, by decide, aw_in1 128 (by decide +kernel) rfl⟩
set_option maxRecDepth 100000 in
theorem fl_X4_36 : aw_fl RX4 36 4 5 := ⟨_, rfl, by decide, aw_in1 129 (by decide +kernel) rfl⟩
set_option maxRecDepth 100000 in
theorem fl_X4_40 : aw_fl RX4 40 4 6 := ⟨_, rfl, by decide, aw_in1 130 (by decide +kernel) rfl⟩
set_option maxRecDepth 100000 in
theorem fl_X4_43 : aw_fl RX4 43 4 7 := ⟨_, rfl, by decide, aw_in1 131 (by decide +kernel) rfl⟩
set_option maxRecDepth 100000 in
theorem fl_X4_46 : aw_fl RX4 46 4 8 := ⟨_, rfl, by decide, aw_in1 132 (by decide +kernel) rfl⟩
set_option maxRecDepth 100000 in
theorem fl_X4_62 : aw_fl RX4 62 4 9 := ⟨_, rfl, by decide, aw_in1 133 (by decide +kernel) rfl⟩
set_option maxRecDepth 100000 in
theorem fl_X4_52 : aw_fl RX4 52 4 10 := ⟨_, rfl, by decide, aw_in1 134 (by decide +kernel) rfl⟩
set_option maxRecDepth 100000 in
theorem fl_X4_109 : aw_fl RX4 109 4 11 := ⟨_, rfl, by decide, aw_in1 135 (by decide +kernel) rfl⟩
set_option maxRecDepth 100000 in
theorem fl_X2_9 : aw_fl RX2 9 2 0 := ⟨_, rfl, by decide, aw_in1 178 (by decide +kernel) rfl⟩
set_option maxRecDepth 100000 in
theorem fl_X6_42 : aw_fl RX6 42 2 0 := ⟨_, rfl, by decide, aw_in1 179 (by decide +kernel) rfl⟩
set_option maxRecDepth 100000 in
theorem fl_X5_109 : aw_fl RX5 109 2 0 := ⟨_, rfl, by decide, aw_in1 180 (by decide +kernel) rfl⟩
set_option maxRecDepth 100000 in
theorem fl_X2_38 : aw_fl RX2 38 2 1 := ⟨_, rfl, by decide, aw_in1 181 (by decide +kernel) rfl⟩
set_option maxRecDepth 100000 in
theorem fl_X7_39 : aw_fl RX7 39 2 1 := ⟨_, rfl, by decide, aw_in1 182 (by decide +kernel) rfl⟩
set_option maxRecDepth 100000 in
theorem fl_X6_30 : aw_fl RX6 30 2 1 := ⟨_, rfl, by decide, aw_in1 183 (by decide +kernel) rfl⟩
set_option maxRecDepth 100000 in
theorem fl_X5_67 : aw_fl RX5 67 2 1 := ⟨_, rfl, by decide, aw_in1 184 (by decide +kernel) rfl⟩
set_option maxRecDepth 100000 in
theorem fl_X9_146 : aw_fl RX9 146 2 1 := ⟨_, rfl, by decide, aw_in1 185 (by decide +kernel) rfl⟩
set_option maxRecDepth 100000 in
theorem fl_X2_41 : aw_fl RX2 41 2 2 := ⟨_, rfl, by decide, aw_in1 186 (by decide +kernel) rfl⟩
set_option maxRecDepth 100000 in
theorem fl_X6_49 : aw_fl RX6 49 2 2 := ⟨_, rfl, by decide, aw_in1 187 (by decide +kernel) rfl⟩
set_option maxRecDepth 100000 in
theorem fl_X5_80 : aw_fl RX5 80 2 2 := ⟨_, rfl, by decide, aw_in1 188 (by decide +kernel) rfl⟩
set_option maxRecDepth 100000 in
theorem fl_X2_44 : aw_fl RX2 44 2 3 := ⟨_, rfl, by decide, aw_in1 189 (by decide +kernel) rfl⟩
set_option maxRecDepth 100000 in
theorem fl_X7_52 : aw_fl RX7 52 2 3 := ⟨_, rfl, by decide, aw_in1 190 (by decide +kernel) rfl⟩
set_option maxRecDepth 100000 in
theorem fl_X5_77 : aw_fl RX5 77 2 3 := ⟨_, rfl, by decide, aw_in1 191 (by decide +kernel) rfl⟩
set_option maxRecDepth 100000 in
theorem fl_X9_154 : aw_fl RX9 154 2 3 := ⟨_, rfl, by decide, aw_in1 192 (by decide +kernel) rfl⟩
set_option maxRecDepth 100000 in
theorem fl_X2_47 : aw_fl RX2 47 2 4 := ⟨_, rfl, by decide, aw_in1 193 (by decide +kernel) rfl⟩
set_option maxRecDepth 100000 in
theorem fl_X5_89 : aw_fl RX5 89 2 4 := ⟨_, rfl, by decide, aw_in1 194 (by decide +kernel) rfl⟩
set_option maxRecDepth 100000 in
theorem fl_X9_161 : aw_fl RX9 161 2 4 := ⟨_, rfl, by decide, aw_in1 195 (by decide +kernel) rfl⟩
set_option maxRecDepth 100000 in
theorem fl_X2_15 : aw_fl RX2 15 2 5 := ⟨_, rfl, by decide, aw_in1 196 (by decide +kernel) rfl⟩
set_option maxRecDepth 100000 in
theorem fl_X9_164 : aw_fl RX9 164 2 5 := ⟨_, rfl, by decide, aw_in1 197 (by decide +kernel) rfl⟩
set_option maxRecDepth 100000 in
theorem fl_X5_122 : aw_fl RX5 122 2 5 := ⟨_, rfl, by decide, aw_in1 198 (by decide +kernel) rfl⟩
set_option maxRecDepth 100000 in
theorem fl_X2_18 : aw_fl RX2 18 2 6 := ⟨_, rfl, by decide, aw_in1 199 (by decide +kernel) rfl⟩
set_option maxRecDepth 100000 in
theorem fl_X9_167 : aw_fl RX9 167 2 6 := ⟨_, rfl, by decide, aw_in1 200 (by decide +kernel) rfl⟩
set_option maxRecDepth 100000 in
theorem fl_X5_125 : aw_fl RX5 125 2 6 := ⟨_, rfl, by decide, aw_in1 201 (by decide +kernel) rfl⟩
set_option maxRecDepth 100000 in
theorem fl_X2_21 : aw_fl RX2 21 2 7 := ⟨_, rfl, by decide, aw_in1 202 (by decide +kernel) rfl⟩
set_option maxRecDepth 100000 in
theorem fl_X9_170 : aw_fl RX9 170 2 7 := ⟨_, rfl, by decide, aw_in1 203 (by decide +kernel) rfl⟩
set_option maxRecDepth 100000 in
theorem fl_X5_148 : aw_fl RX5 148 2 7 := ⟨_, rfl, by decide, aw_in1 204 (by decide +kernel) rfl⟩
set_option maxRecDepth 100000 in
theorem fl_X2_24 : aw_fl RX2 24 2 8 := ⟨_, rfl, by decide, aw_in1 205 (by decide +kernel) rfl⟩
set_option maxRecDepth 100000 in
theorem fl_X5_96 : aw_fl RX5 96 2 8 := ⟨_, rfl, by decide, aw_in1 206 (by decide +kernel) rfl⟩
set_option maxRecDepth 100000 in
theorem fl_X9_173 : aw_fl RX9 173 2 8 := ⟨_, rfl, by decide, aw_in1 207 (by decide +kernel) rfl⟩
set_option maxRecDepth 100000 in
theorem fl_X2_27 : aw_fl RX2 27 2 9 := ⟨_, rfl, by decide, aw_in1 208 (by decide +kernel) rfl⟩
set_option maxRecDepth 100000 in
theorem fl_X7_44 : aw_fl RX7 44 2 9 := ⟨_, rfl, by decide, aw_in1 209 (by decide +kernel) rfl⟩
set_option maxRecDepth 100000 in
theorem fl_X9_176 : aw_fl RX9 176 2 9 := ⟨_, rfl, by decide, aw_in1 210 (by decide +kernel) rfl⟩
set_option maxRecDepth 100000 in
theorem fl_X5_154 : aw_fl RX5 154 2 9 := ⟨_, rfl, by decide, aw_in1 211 (by decide +kernel) rfl⟩
set_option maxRecDepth 100000 in
theorem fl_X2_30 : aw_fl RX2 30 2 10 := ⟨_, rfl, by decide, aw_in1 212 (by decide +kernel) rfl⟩
set_option maxRecDepth 100000 in
theorem fl_X5_135 : aw_fl RX5 135 2 10 := ⟨_, rfl, by decide, aw_in1 213 (by decide +kernel) rfl⟩
set_option maxRecDepth 100000 in
theorem fl_X5_33 : aw_fl RX5 33 5 0 := ⟨_, rfl, by decide, aw_in1 237 (by decide +kernel) rfl⟩
set_option maxRecDepth 100000 in
theorem fl_X9_198 : aw_fl RX9 198 5 0 := ⟨_, rfl, by decide, aw_in1 238 (by decide +kernel) rfl⟩
set_option maxRecDepth 100000 in
theorem fl_X5_37 : aw_fl RX5 37 5 1 := ⟨_, rfl, by decide, aw_in1 239 (by decide +kernel) rfl⟩
set_option maxRecDepth 100000 in
theorem fl_X7_22 : aw_fl RX7 22 5 1 := ⟨_, rfl, by decide, aw_in2 0 (by decide +kernel) rfl⟩
set_option maxRecDepth 100000 in
theorem fl_X6_20 : aw_fl RX6 20 5 1 := ⟨_, rfl, by decide, aw_in2 1 (by decide +kernel) rfl⟩
set_option maxRecDepth 100000 in
theorem fl_X9_282 : aw_fl RX9 282 5 1 := ⟨_, rfl, by decide, aw_in2 2 (by decide +kernel) rfl⟩
set_option maxRecDepth 100000 in
theorem fl_X5_11 : aw_fl RX5 11 5 2 := ⟨_, rfl, by decide, aw_in2 3 (by decide +kernel) rfl⟩
set_option maxRecDepth 100000 in
theorem fl_X7_35 : aw_fl RX7 35 5 2 := ⟨_, rfl, by decide, aw_in2 4 (by decide +kernel) rfl⟩
set_option maxRecDepth 100000 in
theorem fl_X6_26 : aw_fl RX6 26 5 2 := ⟨_, rfl, by decide, aw_in2 5 (by decide +kernel) rfl⟩
set_option maxRecDepth 100000 in
theorem fl_X9_142 : aw_fl RX9 142 5 2 := ⟨_, rfl, by decide, aw_in2 6 (by decide +kernel) rfl⟩
set_option maxRecDepth 100000 in
theorem fl_X5_19 : aw_fl RX5 19 5 3 := ⟨_, rfl, by decide, aw_in2 7 (by decide +kernel) rfl⟩
set_option maxRecDepth 100000 in
theorem fl_X9_183 : aw_fl RX9 183 5 3 := ⟨_, rfl, by decide, aw_in2 8 (by decide +kernel) rfl⟩
set_option maxRecDepth 100000 in
theorem fl_X5_22 : aw_fl RX5 22 5 4 := ⟨_, rfl, by decide, aw_in2 9 (by decide +kernel) rfl⟩
set_option maxRecDepth 100000 in
theorem fl_X1_36 : aw_fl RX1 36 5 4 := ⟨_, rfl, by decide, aw_in2 10 (by decide +kernel) rfl⟩
set_option maxRecDepth 100000 in
theorem fl_X8_37 : aw_fl RX8 37 5 4 := ⟨_, rfl, by decide, aw_in2 11 (by decide +kernel) rfl⟩
set_option maxRecDepth 100000 in
theorem fl_X9_116 : aw_fl RX9 116 5 4 := ⟨_, rfl, by decide, aw_in2 12 (by decide +kernel) rfl⟩
set_option maxRecDepth 100000 in
theorem fl_X5_26 : aw_fl RX5 26 5 5 := ⟨_, rfl, by decide, aw_in2 13 (by decide +kernel) rfl⟩
set_option maxRecDepth 100000 in
theorem fl_X1_41 : aw_fl RX1 41 5 5 := ⟨_, rfl, by decide, aw_in2 14 (by decide +kernel) rfl⟩
set_option maxRecDepth 100000 in
theorem fl_X9_119 : aw_fl RX9 119 5 5 := ⟨_, rfl, by decide, aw_in2 15 (by decide +kernel) rfl⟩
set_option maxRecDepth 100000 in
theorem fl_X5_40 : aw_fl RX5 40 5 6 := ⟨_, rfl, by decide, aw_in2 16 (by decide +kernel) rfl⟩
set_option maxRecDepth 100000 in
theorem fl_X9_226 : aw_fl RX9 226 5 6 := ⟨_, rfl, by decide, aw_in2 17 (by decide +kernel) rfl⟩
set_option maxRecDepth 100000 in
theorem fl_X5_29 : aw_fl RX5 29 5 7 := ⟨_, rfl, by decide, aw_in2 18 (by decide +kernel) rfl⟩
set_option maxRecDepth 100000 in
theorem fl_X9_229 : aw_fl RX9 229 5 7 := ⟨_, rfl, by decide, aw_in2 19 (by decide +kernel) rfl⟩
set_option maxRecDepth 100000 in
theorem fl_X8_11 : aw_fl RX8 11 8 0 := ⟨_, rfl, by decide, aw_in2 44 (by decide +kernel) rfl⟩
set_option maxRecDepth 100000 in
theorem fl_X9_340 : aw_fl RX9 340 8 0 := ⟨_, rfl, by decide, aw_in2 45 (by decide +kernel) rfl⟩
set_option maxRecDepth 100000 in
theorem fl_X8_15 : aw_fl RX8 15 8 1 := ⟨_, rfl, by decide, aw_in2 46 (by decide +kernel) rfl⟩
set_option maxRecDepth 100000 in
theorem fl_X8_18 : aw_fl RX8 18 8 2 := ⟨_, rfl, by decide, aw_in2 47 (by decide +kernel) rfl⟩
set_option maxRecDepth 100000 in
theorem fl_X8_21 : aw_fl RX8 21 8 3 := ⟨_, rfl, by decide, aw_in2 48 (by decide +kernel) rfl⟩
set_option maxRecDepth 100000 in
theorem fl_X8_24 : aw_fl RX8 24 8 4 := ⟨_, rfl, by decide, aw_in2 49 (by decide +kernel) rfl⟩
set_option maxRecDepth 100000 in
theorem fl_X8_33 : aw_fl RX8 33 8 5 := ⟨_, rfl, by decide, aw_in2 50 (by decide +kernel) rfl⟩
set_option maxRecDepth 100000 in
theorem fl_X1_9 : aw_fl RX1 9 1 0 := ⟨_, rfl, by decide, aw_in2 71 (by decide +kernel) rfl⟩
set_option maxRecDepth 100000 in
theorem fl_X1_15 : aw_fl RX1 15 1 1 := ⟨_, rfl, by decide, aw_in2 72 (by decide +kernel) rfl⟩
set_option maxRecDepth 100000 in
theorem fl_X1_24 : aw_fl RX1 24 1 2 := ⟨_, rfl, by decide, aw_in2 73 (by decide +kernel) rfl⟩
set_option maxRecDepth 100000 in
theorem fl_X1_28 : aw_fl RX1 28 1 3 := ⟨_, rfl, by decide, aw_in2 74 (by decide +kernel) rfl⟩
set_option maxRecDepth 100000 in
theorem fl_X1_18 : aw_fl RX1 18 1 4 := ⟨_, rfl, by decide, aw_in2 75 (by decide +kernel) rfl⟩
set_option maxRecDepth 100000 in
theorem fl_X1_21 : aw_fl RX1 21 1 5 := ⟨_, rfl, by decide, aw_in2 76 (by decide +kernel) rfl⟩
set_option maxRecDepth 100000 in
theorem fl_X6_9 : aw_fl RX6 9 6 0 := ⟨_, rfl, by decide, aw_in2 96 (by decide +kernel) rfl⟩
set_option maxRecDepth 100000 in
theorem fl_X0_35 : aw_fl RX0 35 0 0 := ⟨_, rfl, by decide, aw_in2 107 (by decide +kernel) rfl⟩
set_option maxRecDepth 100000 in
theorem fl_X9_96 : aw_fl RX9 96 0 0 := ⟨_, rfl, by decide, aw_in2 108 (by decide +kernel) rfl⟩
set_option maxRecDepth 100000 in
theorem fl_X0_55 : aw_fl RX0 55 0 1 := ⟨_, rfl, by decide, aw_in2 109 (by decide +kernel) rfl⟩
set_option maxRecDepth 100000 in
theorem fl_X9_296 : aw_fl RX9 296 0 1 := ⟨_, rfl, by decide, aw_in2 110 (by decide +kernel) rfl⟩
set_option maxRecDepth 100000 in
theorem fl_X0_69 : aw_fl RX0 69 0 2 := ⟨_, rfl, by decide, aw_in2 111 (by decide +kernel) rfl⟩
set_option maxRecDepth 100000 in
theorem fl_X9_299 : aw_fl RX9 299 0 2 := ⟨_, rfl, by decide, aw_in2 112 (by decide +kernel) rfl⟩
set_option maxRecDepth 100000 in
theorem fl_X0_66 : aw_fl RX0 66 0 3 := ⟨_, rfl, by decide, aw_in2 113 (by decide +kernel) rfl⟩
set_option maxRecDepth 100000 in
theorem fl_X9_302 : aw_fl RX9 302 0 3 := ⟨_, rfl, by decide, aw_in2 114 (by decide +kernel) rfl⟩
set_option maxRecDepth 100000 in
theorem fl_X0_11 : aw_fl RX0 11 0 4 := ⟨_, rfl, by decide, aw_in2 115 (by decide +kernel) rfl⟩
set_option maxRecDepth 100000 in
theorem fl_X0_15 : aw_fl RX0 15 0 5 := ⟨_, rfl, by decide, aw_in2 116 (by decide +kernel) rfl⟩
set_option maxRecDepth 100000 in
theorem fl_X0_18 : aw_fl RX0 18 0 6 := ⟨_, rfl, by decide, aw_in2 117 (by decide +kernel) rfl⟩
set_option maxRecDepth 100000 in
theorem fl_X0_21 : aw_fl RX0 21 0 7 := ⟨_, rfl, by decide, aw_in2 118 (by decide +kernel) rfl⟩
set_option maxRecDepth 100000 in
theorem fl_X0_26 : aw_fl RX0 26 0 8 := ⟨_, rfl, by decide, aw_in2 119 (by decide +kernel) rfl⟩
set_option maxRecDepth 100000 in
theorem fl_X0_29 : aw_fl RX0 29 0 9 := ⟨_, rfl, by decide, aw_in2 120 (by decide +kernel) rfl⟩
set_option maxRecDepth 100000 in
theorem fl_X0_32 : aw_fl RX0 32 0 10 := ⟨_, rfl, by decide, aw_in2 121 (by decide +kernel) rfl⟩
set_option maxRecDepth 100000 in
theorem fl_X7_9 : aw_fl RX7 9 7 0 := ⟨_, rfl, by decide, aw_in2 151 (by decide +kernel) rfl⟩
set_option maxRecDepth 100000 in
theorem fl_X7_15 : aw_fl RX7 15 7 1 := ⟨_, rfl, by decide, aw_in2 152 (by decide +kernel) rfl⟩
set_option maxRecDepth 100000 in
theorem fl_X7_18 : aw_fl RX7 18 7 2 := ⟨_, rfl, by decide, aw_in2 153 (by decide +kernel) rfl⟩
set_option maxRecDepth 100000 in
theorem fl_X9_10 : aw_fl RX9 10 9 0 := ⟨_, rfl, by decide, aw_in2 161 (by decide +kernel) rfl⟩
set_option maxRecDepth 100000 in
theorem fl_X9_19 : aw_fl RX9 19 9 1 := ⟨_, rfl, by decide, aw_in2 162 (by decide +kernel) rfl⟩
set_option maxRecDepth 100000 in
theorem fl_X9_26 : aw_fl RX9 26 9 2 := ⟨_, rfl, by decide, aw_in2 163 (by decide +kernel) rfl⟩
set_option maxRecDepth 100000 in
theorem fl_X9_30 : aw_fl RX9 30 9 3 := ⟨_, rfl, by decide, aw_in2 164 (by decide +kernel) rfl⟩
set_option maxRecDepth 100000 in
theorem fl_X9_34 : aw_fl RX9 34 9 4 := ⟨_, rfl, by decide, aw_in2 165 (by decide +kernel) rfl⟩
set_option maxRecDepth 100000 in
theorem fl_X9_41 : aw_fl RX9 41 9 5 := ⟨_, rfl, by decide, aw_in2 166 (by decide +kernel) rfl⟩
set_option maxRecDepth 100000 in
theorem fl_X9_48 : aw_fl RX9 48 9 6 := ⟨_, rfl, by decide, aw_in2 167 (by decide +kernel) rfl⟩
set_option maxRecDepth 100000 in
theorem fl_X9_55 : aw_fl RX9 55 9 7 := ⟨_, rfl, by decide, aw_in2 168 (by decide +kernel) rfl⟩
set_option maxRecDepth 100000 in
theorem fl_X9_62 : aw_fl RX9 62 9 8 := ⟨_, rfl, by decide, aw_in2 169 (by decide +kernel) rfl⟩
set_option maxRecDepth 100000 in
theorem fl_X9_69 : aw_fl RX9 69 9 9 := ⟨_, rfl, by decide, aw_in2 170 (by decide +kernel) rfl⟩
set_option maxRecDepth 100000 in
theorem fl_X10_9 : aw_fl RX10 9 10 0 := ⟨_, rfl, by decide, aw_in5 83 (by decide +kernel) rfl⟩
set_option maxRecDepth 100000 in
theorem fl_X10_124 : aw_fl RX10 124 10 1 := ⟨_, rfl, by decide, aw_in5 84 (by decide +kernel) rfl⟩
set_option maxRecDepth 100000 in
theorem fl_X10_132 : aw_fl RX10 132 10 2 := ⟨_, rfl, by decide, aw_in5 85 (by decide +kernel) rfl⟩
set_option maxRecDepth 100000 in
theorem fl_X10_142 : aw_fl RX10 142 10 3 := ⟨_, rfl, by decide, aw_in5 86 (by decide +kernel) rfl⟩
set_option maxRecDepth 100000 in
theorem fl_X10_135 : aw_fl RX10 135 10 4 := ⟨_, rfl, by decide, aw_in5 87 (by decide +kernel) rfl⟩
set_option maxRecDepth 100000 in
theorem fl_X10_138 : aw_fl RX10 138 10 5 := ⟨_, rfl, by decide, aw_in5 88 (by decide +kernel) rfl⟩
set_option maxRecDepth 100000 in
theorem fl_X10_185 : aw_fl RX10 185 10 6 := ⟨_, rfl, by decide, aw_in5 89 (by decide +kernel) rfl⟩
set_option maxRecDepth 100000 in
theorem fl_X10_13 : aw_fl RX10 13 10 7 := ⟨_, rfl, by decide, aw_in5 90 (by decide +kernel) rfl⟩
set_option maxRecDepth 100000 in
theorem fl_X10_17 : aw_fl RX10 17 10 8 := ⟨_, rfl, by decide, aw_in5 91 (by decide +kernel) rfl⟩
set_option maxRecDepth 100000 in
theorem fl_X10_208 : aw_fl RX10 208 10 9 := ⟨_, rfl, by decide, aw_in5 92 (by decide +kernel) rfl⟩
set_option maxRecDepth 100000 in
theorem fl_X10_21 : aw_fl RX10 21 10 10 := ⟨_, rfl, by decide, aw_in5 93 (by decide +kernel) rfl⟩
set_option maxRecDepth 100000 in
theorem fl_X10_24 : aw_fl RX10 24 10 11 := ⟨_, rfl, by decide, aw_in5 94 (by decide +kernel) rfl⟩
set_option maxRecDepth 100000 in
theorem fl_X10_27 : aw_fl RX10 27 10 12 := ⟨_, rfl, by decide, aw_in5 95 (by decide +kernel) rfl⟩
set_option maxRecDepth 100000 in
theorem fl_X10_211 : aw_fl RX10 211 10 13 := ⟨_, rfl, by decide, aw_in5 96 (by decide +kernel) rfl⟩
set_option maxRecDepth 100000 in
theorem fl_X10_235 : aw_fl RX10 235 10 14 := ⟨_, rfl, by decide, aw_in5 97 (by decide +kernel) rfl⟩
set_option maxRecDepth 100000 in
theorem fl_X10_30 : aw_fl RX10 30 10 15 := ⟨_, rfl, by decide, aw_in5 98 (by decide +kernel) rfl⟩
set_option maxRecDepth 100000 in
theorem fl_X10_238 : aw_fl RX10 238 10 16 := ⟨_, rfl, by decide, aw_in5 99 (by decide +kernel) rfl⟩
set_option maxRecDepth 100000 in
theorem fl_X10_33 : aw_fl RX10 33 10 17 := ⟨_, rfl, by decide, aw_in5 100 (by decide +kernel) rfl⟩
set_option maxRecDepth 100000 in
theorem fl_X10_36 : aw_fl RX10 36 10 18 := ⟨_, rfl, by decide, aw_in5 101 (by decide +kernel) rfl⟩
set_option maxRecDepth 100000 in
theorem fl_X10_39 : aw_fl RX10 39 10 19 := ⟨_, rfl, by decide, aw_in5 102 (by decide +kernel) rfl⟩
set_option maxRecDepth 100000 in
theorem fl_X10_241 : aw_fl RX10 241 10 20 := ⟨_, rfl, by decide, aw_in5 103 (by decide +kernel) rfl⟩
set_option maxRecDepth 100000 in
theorem fl_X10_243 : aw_fl RX10 243 10 21 := ⟨_, rfl, by decide, aw_in5 104 (by decide +kernel) rfl⟩
set_option maxRecDepth 100000 in
theorem fl_X10_246 : aw_fl RX10 246 10 22 := ⟨_, rfl, by decide, aw_in5 105 (by decide +kernel) rfl⟩
set_option maxRecDepth 100000 in
theorem fl_X10_42 : aw_fl RX10 42 10 23 := ⟨_, rfl, by decide, aw_in5 106 (by decide +kernel) rfl⟩
set_option maxRecDepth 100000 in
theorem fl_X10_45 : aw_fl RX10 45 10 24 := ⟨_, rfl, by decide, aw_in5 107 (by decide +kernel) rfl⟩
set_option maxRecDepth 100000 in
theorem fl_X10_48 : aw_fl RX10 48 10 25 := ⟨_, rfl, by decide, aw_in5 108 (by decide +kernel) rfl⟩
set_option maxRecDepth 100000 in
theorem fl_X10_249 : aw_fl RX10 249 10 26 := ⟨_, rfl, by decide, aw_in5 109 (by decide +kernel) rfl⟩
set_option maxRecDepth 100000 in
theorem fl_X10_51 : aw_fl RX10 51 10 27 := ⟨_, rfl, by decide, aw_in5 110 (by decide +kernel) rfl⟩
set_option maxRecDepth 100000 in
theorem fl_X10_54 : aw_fl RX10 54 10 28 := ⟨_, rfl, by decide, aw_in5 111 (by decide +kernel) rfl⟩
set_option maxRecDepth 100000 in
theorem fl_X10_57 : aw_fl RX10 57 10 29 := ⟨_, rfl, by decide, aw_in5 112 (by decide +kernel) rfl⟩
set_option maxRecDepth 100000 in
theorem fl_X10_252 : aw_fl RX10 252 10 30 := ⟨_, rfl, by decide, aw_in5 113 (by decide +kernel) rfl⟩
set_option maxRecDepth 100000 in
theorem fl_X10_60 : aw_fl RX10 60 10 31 := ⟨_, rfl, by decide, aw_in5 114 (by decide +kernel) rfl⟩
set_option maxRecDepth 100000 in
theorem fl_X10_63 : aw_fl RX10 63 10 32 := ⟨_, rfl, by decide, aw_in5 115 (by decide +kernel) rfl⟩
set_option maxRecDepth 100000 in
theorem fl_X10_66 : aw_fl RX10 66 10 33 := ⟨_, rfl, by decide, aw_in5 116 (by decide +kernel) rfl⟩
set_option maxRecDepth 100000 in
theorem fl_X10_69 : aw_fl RX10 69 10 34 := ⟨_, rfl, by decide, aw_in5 117 (by decide +kernel) rfl⟩
set_option maxRecDepth 100000 in
theorem fl_X10_72 : aw_fl RX10 72 10 35 := ⟨_, rfl, by decide, aw_in5 118 (by decide +kernel) rfl⟩
set_option maxRecDepth 100000 in
theorem fl_X10_76 : aw_fl RX10 76 10 36 := ⟨_, rfl, by decide, aw_in5 119 (by decide +kernel) rfl⟩
set_option maxRecDepth 100000 in
theorem fl_X10_79 : aw_fl RX10 79 10 37 := ⟨_, rfl, by decide, aw_in5 120 (by decide +kernel) rfl⟩
set_option maxRecDepth 100000 in
theorem fl_X10_82 : aw_fl RX10 82 10 38 := ⟨_, rfl, by decide, aw_in5 121 (by decide +kernel) rfl⟩
set_option maxRecDepth 100000 in
theorem fl_X10_85 : aw_fl RX10 85 10 39 := ⟨_, rfl, by decide, aw_in5 122 (by decide +kernel) rfl⟩
set_option maxRecDepth 100000 in
theorem fl_X10_88 : aw_fl RX10 88 10 40 := ⟨_, rfl, by decide, aw_in5 123 (by decide +kernel) rfl⟩
set_option maxRecDepth 100000 in
theorem fl_X10_91 : aw_fl RX10 91 10 41 := ⟨_, rfl, by decide, aw_in5 124 (by decide +kernel) rfl⟩
set_option maxRecDepth 100000 in
theorem fl_X10_94 : aw_fl RX10 94 10 42 := ⟨_, rfl, by decide, aw_in5 125 (by decide +kernel) rfl⟩
set_option maxRecDepth 100000 in
theorem fl_X10_97 : aw_fl RX10 97 10 43 := ⟨_, rfl, by decide, aw_in5 126 (by decide +kernel) rfl⟩
set_option maxRecDepth 100000 in
theorem fl_X10_192 : aw_fl RX10 192 10 44 := ⟨_, rfl, by decide, aw_in5 127 (by decide +kernel) rfl⟩
set_option maxRecDepth 100000 in
theorem fl_X10_100 : aw_fl RX10 100 10 45 := ⟨_, rfl, by decide, aw_in5 128 (by decide +kernel) rfl⟩
set_option maxRecDepth 100000 in
theorem fl_X10_103 : aw_fl RX10 103 10 46 := ⟨_, rfl, by decide, aw_in5 129 (by decide +kernel) rfl⟩
set_option maxRecDepth 100000 in
theorem fl_X10_332 : aw_fl RX10 332 10 47 := ⟨_, rfl, by decide, aw_in5 130 (by decide +kernel) rfl⟩
set_option maxRecDepth 100000 in
theorem fl_X10_106 : aw_fl RX10 106 10 48 := ⟨_, rfl, by decide, aw_in5 131 (by decide +kernel) rfl⟩
set_option maxRecDepth 100000 in
theorem fl_X10_109 : aw_fl RX10 109 10 49 := ⟨_, rfl, by decide, aw_in5 132 (by decide +kernel) rfl⟩
set_option maxRecDepth 100000 in
theorem fl_X10_112 : aw_fl RX10 112 10 50 := ⟨_, rfl, by decide, aw_in5 133 (by decide +kernel) rfl⟩
set_option maxRecDepth 100000 in
theorem fl_X10_115 : aw_fl RX10 115 10 51 := ⟨_, rfl, by decide, aw_in5 134 (by decide +kernel) rfl⟩
set_option maxRecDepth 100000 in
theorem fl_X10_118 : aw_fl RX10 118 10 52 := ⟨_, rfl, by decide, aw_in5 135 (by decide +kernel) rfl⟩
set_option maxRecDepth 100000 in
theorem fl_X10_121 : aw_fl RX10 121 10 53 := ⟨_, rfl, by decide, aw_in5 136 (by decide +kernel) rfl⟩
set_option maxRecDepth 100000 in
theorem kn_L : Cond.initialized RL ∈ aw_tbl := aw_in1 0 (by decide +kernel) rfl
set_option maxRecDepth 100000 in
theorem kn_X9 : Cond.initialized RX9 ∈ aw_tbl := aw_in1 1 (by decide +kernel) rfl
set_option maxRecDepth 100000 in
theorem kn_X4 : Cond.initialized RX4 ∈ aw_tbl := aw_in1 2 (by decide +kernel) rfl
set_option maxRecDepth 100000 in
theorem kn_X3 : Cond.initialized RX3 ∈ aw_tbl := aw_in1 3 (by decide +kernel) rfl
set_option maxRecDepth 100000 in
theorem kn_X5 : Cond.initialized RX5 ∈ aw_tbl := aw_in1 4 (by decide +kernel) rfl
set_option maxRecDepth 100000 in
theorem kn_X2 : Cond.initialized RX2 ∈ aw_tbl := aw_in1 5 (by decide +kernel) rfl
set_option maxRecDepth 100000 in
theorem kn_X8 : Cond.initialized RX8 ∈ aw_tbl := aw_in1 6 (by decide +kernel) rfl
set_option maxRecDepth 100000 in
theorem kn_X1 : Cond.initialized RX1 ∈ aw_tbl := aw_in1 7 (by decide +kernel) rfl
set_option maxRecDepth 100000 in
theorem kn_X6 : Cond.initialized RX6 ∈ aw_tbl := aw_in1 8 (by decide +kernel) rfl
set_option maxRecDepth 100000 in
theorem kn_X0 : Cond.initialized RX0 ∈ aw_tbl := aw_in1 9 (by decide +kernel) rfl
set_option maxRecDepth 100000 in
theorem kn_X7 : Cond.initialized RX7 ∈ aw_tbl := aw_in1 10 (by decide +kernel) rfl
set_option maxRecDepth 100000 in
theorem kn_X10 : Cond.initialized RX10 ∈ aw_tbl := aw_in1 11 (by decide +kernel) rfl
set_option maxRecDepth 100000 in
theorem kn_J7 : Cond.initialized RJ7 ∈ aw_tbl := aw_in1 12 (by decide +kernel) rfl
set_option maxRecDepth 100000 in
theorem kn_J0 : Cond.initialized RJ0 ∈ aw_tbl := aw_in1 13 (by decide +kernel) rfl
set_option maxRecDepth 100000 in
theorem kn_J1 : Cond.initialized RJ1 ∈ aw_tbl := aw_in1 14 (by decide +kernel) rfl
set_option maxRecDepth 100000 in
theorem kn_J3 : Cond.initialized RJ3 ∈ aw_tbl := aw_in1 15 (by decide +kernel) rfl
set_option maxRecDepth 100000 in
theorem kn_J2 : Cond.initialized RJ2 ∈ aw_tbl := aw_in1 16 (by decide +kernel) rfl
set_option maxRecDepth 100000 in
theorem kn_J9 : Cond.initialized RJ9 ∈ aw_tbl := aw_in1 17 (by decide +kernel) rfl
set_option maxRecDepth 100000 in
theorem kn_J10 : Cond.initialized RJ10 ∈ aw_tbl := aw_in1 18 (by decide +kernel) rfl
set_option maxRecDepth 100000 in
theorem kn_J6 : Cond.initialized RJ6 ∈ aw_tbl := aw_in1 19 (by decide +kernel) rfl
set_option maxRecDepth 100000 in
theorem kl_L_7 : Cond.classLink RL 7 "CabRanks" ∈ aw_tbl := aw_in1 20 (by decide +kernel) rfl
set_option maxRecDepth 100000 in
theorem ki_X9 : Cond.instantiable RX9 10 ∈ aw_tbl := aw_in1 21 (by decide +kernel) rfl
set_option maxRecDepth 100000 in
theorem kl_X9_7 : Cond.classLink RX9 7 "CabRanks$CityText" ∈ aw_tbl := aw_in1 28 (by decide +kernel) rfl
set_option maxRecDepth 100000 in
theorem ki_X4 : Cond.instantiable RX4 12 ∈ aw_tbl := aw_in1 29 (by decide +kernel) rfl
set_option maxRecDepth 100000 in
theorem kl_X4_15 : Cond.classLink RX4 15 "CabRanks$City" ∈ aw_tbl := aw_in1 34 (by decide +kernel) rfl
set_option maxRecDepth 100000 in
theorem ki_X3 : Cond.instantiable RX3 16 ∈ aw_tbl := aw_in1 35 (by decide +kernel) rfl
set_option maxRecDepth 100000 in
theorem kl_X9_16 : Cond.classLink RX9 16 "CabRanks$City" ∈ aw_tbl := aw_in1 161 (by decide +kernel) rfl
set_option maxRecDepth 100000 in
theorem kl_X9_23 : Cond.classLink RX9 23 "CabRanks$Day" ∈ aw_tbl := aw_in1 163 (by decide +kernel) rfl
set_option maxRecDepth 100000 in
theorem ki_X5 : Cond.instantiable RX5 8 ∈ aw_tbl := aw_in1 164 (by decide +kernel) rfl
set_option maxRecDepth 100000 in
theorem kl_X5_9 : Cond.classLink RX5 9 "CabRanks$Cab" ∈ aw_tbl := aw_in1 169 (by decide +kernel) rfl
set_option maxRecDepth 100000 in
theorem kl_X5_17 : Cond.classLink RX5 17 "[[I" ∈ aw_tbl := aw_in1 171 (by decide +kernel) rfl
set_option maxRecDepth 100000 in
theorem ki_X2 : Cond.instantiable RX2 11 ∈ aw_tbl := aw_in1 173 (by decide +kernel) rfl
set_option maxRecDepth 100000 in
theorem kl_X9_38 : Cond.classLink RX9 38 "CabRanks$Worths" ∈ aw_tbl := aw_in2 38 (by decide +kernel) rfl
set_option maxRecDepth 100000 in
theorem ki_X8 : Cond.instantiable RX8 6 ∈ aw_tbl := aw_in2 39 (by decide +kernel) rfl
set_option maxRecDepth 100000 in
theorem kl_X9_45 : Cond.classLink RX9 45 "CabRanks$Bringing" ∈ aw_tbl := aw_in2 65 (by decide +kernel) rfl
set_option maxRecDepth 100000 in
theorem ki_X1 : Cond.instantiable RX1 6 ∈ aw_tbl := aw_in2 66 (by decide +kernel) rfl
set_option maxRecDepth 100000 in
theorem kl_X9_52 : Cond.classLink RX9 52 "CabRanks$Homes" ∈ aw_tbl := aw_in2 90 (by decide +kernel) rfl
set_option maxRecDepth 100000 in
theorem ki_X6 : Cond.instantiable RX6 1 ∈ aw_tbl := aw_in2 91 (by decide +kernel) rfl
set_option maxRecDepth 100000 in
theorem kl_X9_59 : Cond.classLink RX9 59 "CabRanks$Book" ∈ aw_tbl := aw_in2 100 (by decide +kernel) rfl
set_option maxRecDepth 100000 in
theorem ki_X0 : Cond.instantiable RX0 11 ∈ aw_tbl := aw_in2 101 (by decide +kernel) rfl
set_option maxRecDepth 100000 in
theorem kl_X0_24 : Cond.classLink RX0 24 "[[I" ∈ aw_tbl := aw_in2 106 (by decide +kernel) rfl
set_option maxRecDepth 100000 in
theorem kl_X9_66 : Cond.classLink RX9 66 "CabRanks$RingSearch" ∈ aw_tbl := aw_in2 145 (by decide +kernel) rfl
set_option maxRecDepth 100000 in
theorem ki_X7 : Cond.instantiable RX7 3 ∈ aw_tbl := aw_in2 146 (by decide +kernel) rfl
set_option maxRecDepth 100000 in
theorem kc_X4_163 : Cond.constant RX4 163 (100000) ∈ aw_tbl := aw_in3 70 (by decide +kernel) rfl
set_option maxRecDepth 100000 in
theorem kc_X8_65 : Cond.constantLong RX8 65 (16) ∈ aw_tbl := aw_in4 84 (by decide +kernel) rfl
set_option maxRecDepth 100000 in
theorem kc_X1_60 : Cond.constant RX1 60 (1000000) ∈ aw_tbl := aw_in4 136 (by decide +kernel) rfl
set_option maxRecDepth 100000 in
theorem kc_J6_265 : Cond.constant RJ6 265 (1431655765) ∈ aw_tbl := aw_in4 175 (by decide +kernel) rfl
set_option maxRecDepth 100000 in
theorem kc_J6_266 : Cond.constant RJ6 266 (858993459) ∈ aw_tbl := aw_in4 176 (by decide +kernel) rfl
set_option maxRecDepth 100000 in
theorem kc_J6_267 : Cond.constant RJ6 267 (252645135) ∈ aw_tbl := aw_in4 177 (by decide +kernel) rfl
set_option maxRecDepth 100000 in
theorem kc_X7_59 : Cond.constant RX7 59 (-268435456) ∈ aw_tbl := aw_in5 12 (by decide +kernel) rfl
set_option maxRecDepth 100000 in
theorem kc_X7_47 : Cond.constant RX7 47 (1048576) ∈ aw_tbl := aw_in5 33 (by decide +kernel) rfl
set_option maxRecDepth 100000 in
theorem kl_L_10 : Cond.classLink RL 10 "CabRanksModel" ∈ aw_tbl := aw_in5 77 (by decide +kernel) rfl
set_option maxRecDepth 100000 in
theorem ki_X10 : Cond.instantiable RX10 54 ∈ aw_tbl := aw_in5 78 (by decide +kernel) rfl
set_option maxRecDepth 100000 in
theorem kc_X10_152 : Cond.constantLong RX10 152 (9999) ∈ aw_tbl := aw_in6 32 (by decide +kernel) rfl
set_option maxRecDepth 100000 in
theorem kc_X10_154 : Cond.constantLong RX10 154 (10) ∈ aw_tbl := aw_in6 33 (by decide +kernel) rfl
set_option maxRecDepth 100000 in
theorem kc_X10_156 : Cond.constantLong RX10 156 (48) ∈ aw_tbl := aw_in6 34 (by decide +kernel) rfl
set_option maxRecDepth 100000 in
theorem kc_X10_321 : Cond.constantLong RX10 321 (1000) ∈ aw_tbl := aw_in6 231 (by decide +kernel) rfl
set_option maxRecDepth 100000 in
theorem kc_X10_326 : Cond.constantLong RX10 326 (16) ∈ aw_tbl := aw_in6 232 (by decide +kernel) rfl
set_option maxRecDepth 100000 in
theorem kc_X10_312 : Cond.constantLong RX10 312 (-1) ∈ aw_tbl := aw_in6 237 (by decide +kernel) rfl
set_option maxRecDepth 100000 in
theorem kc_X10_347 : Cond.constant RX10 347 (1000000) ∈ aw_tbl := aw_in7 35 (by decide +kernel) rfl
set_option maxRecDepth 100000 in
theorem ws_X0 : ∀ w ∈ wsX00, w ∈ aw_tbl := fun w hw => List.mem_filter.mpr ⟨(by decide +kernel : ∀ w ∈ wsX00, w ∈ lw_tbl) w hw, (by decide +kernel : ∀ w ∈ wsX00, goodWord w = true) w hw⟩
set_option maxRecDepth 100000 in
theorem ws_X1 : ∀ w ∈ wsX10, w ∈ aw_tbl := fun w hw => List.mem_filter.mpr ⟨(by decide +kernel : ∀ w ∈ wsX10, w ∈ lw_tbl) w hw, (by decide +kernel : ∀ w ∈ wsX10, goodWord w = true) w hw⟩
set_option maxRecDepth 100000 in
theorem ws_X2 : ∀ w ∈ wsX20, w ∈ aw_tbl := fun w hw => List.mem_filter.mpr ⟨(by decide +kernel : ∀ w ∈ wsX20, w ∈ lw_tbl) w hw, (by decide +kernel : ∀ w ∈ wsX20, goodWord w = true) w hw⟩
set_option maxRecDepth 100000 in
theorem ws_X3 : ∀ w ∈ wsX30, w ∈ aw_tbl := fun w hw => List.mem_filter.mpr ⟨(by decide +kernel : ∀ w ∈ wsX30, w ∈ lw_tbl) w hw, (by decide +kernel : ∀ w ∈ wsX30, goodWord w = true) w hw⟩
set_option maxRecDepth 100000 in
theorem ws_X4 : ∀ w ∈ wsX40, w ∈ aw_tbl := fun w hw => List.mem_filter.mpr ⟨(by decide +kernel : ∀ w ∈ wsX40, w ∈ lw_tbl) w hw, (by decide +kernel : ∀ w ∈ wsX40, goodWord w = true) w hw⟩
set_option maxRecDepth 100000 in
theorem ws_X5 : ∀ w ∈ wsX50, w ∈ aw_tbl := fun w hw => List.mem_filter.mpr ⟨(by decide +kernel : ∀ w ∈ wsX50, w ∈ lw_tbl) w hw, (by decide +kernel : ∀ w ∈ wsX50, goodWord w = true) w hw⟩
set_option maxRecDepth 100000 in
theorem ws_X6 : ∀ w ∈ wsX60, w ∈ aw_tbl := fun w hw => List.mem_filter.mpr ⟨(by decide +kernel : ∀ w ∈ wsX60, w ∈ lw_tbl) w hw, (by decide +kernel : ∀ w ∈ wsX60, goodWord w = true) w hw⟩
set_option maxRecDepth 100000 in
theorem ws_X7 : ∀ w ∈ wsX70, w ∈ aw_tbl := fun w hw => List.mem_filter.mpr ⟨(by decide +kernel : ∀ w ∈ wsX70, w ∈ lw_tbl) w hw, (by decide +kernel : ∀ w ∈ wsX70, goodWord w = true) w hw⟩
set_option maxRecDepth 100000 in
theorem ws_X8 : ∀ w ∈ wsX80, w ∈ aw_tbl := fun w hw => List.mem_filter.mpr ⟨(by decide +kernel : ∀ w ∈ wsX80, w ∈ lw_tbl) w hw, (by decide +kernel : ∀ w ∈ wsX80, goodWord w = true) w hw⟩
set_option maxRecDepth 100000 in
theorem ws_X9 : ∀ w ∈ wsX90, w ∈ aw_tbl := fun w hw => List.mem_filter.mpr ⟨(by decide +kernel : ∀ w ∈ wsX90, w ∈ lw_tbl) w hw, (by decide +kernel : ∀ w ∈ wsX90, goodWord w = true) w hw⟩
set_option maxRecDepth 100000 in
theorem ws_X10 : ∀ w ∈ wsX100, w ∈ aw_tbl := fun w hw => List.mem_filter.mpr ⟨(by decide +kernel : ∀ w ∈ wsX100, w ∈ lw_tbl) w hw, (by decide +kernel : ∀ w ∈ wsX100, goodWord w = true) w hw⟩
