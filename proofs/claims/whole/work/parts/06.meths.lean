set_option maxRecDepth 100000 in
theorem mt_J0_charAt_5068e : aw_mt yJ0_charAt_5068e cJ0_charAt_5068e 2 (some .char) 1 := ⟨aw_in1 13 (by decide +kernel) rfl, aw_in3 11 (by decide +kernel) rfl, by decide +kernel, by decide +kernel⟩
set_option maxRecDepth 100000 in
theorem mV_J0_charAt_5068e : aw_mV yJ0_charAt_5068e := ⟨aw_in3 9 (by decide +kernel) rfl, aw_in3 10 (by decide +kernel) rfl⟩
set_option maxRecDepth 100000 in
theorem mt_J0_checkIndex_df160 : aw_mt yJ0_checkIndex_df160 cJ0_checkIndex_df160 2 (none : Option Jvm.ClassFile.FieldType) 2 := ⟨aw_in1 13 (by decide +kernel) rfl, aw_in3 21 (by decide +kernel) rfl, by decide +kernel, by decide +kernel⟩
set_option maxRecDepth 100000 in
theorem mS_J0_checkIndex_df160 : aw_mS yJ0_checkIndex_df160 := aw_in3 20 (by decide +kernel) rfl
set_option maxRecDepth 100000 in
theorem mt_J0_coder_7d493 : aw_mt yJ0_coder_7d493 cJ0_coder_7d493 1 (some .byte) 0 := ⟨aw_in1 13 (by decide +kernel) rfl, aw_in3 5 (by decide +kernel) rfl, by decide +kernel, by decide +kernel⟩
set_option maxRecDepth 100000 in
theorem mV_J0_coder_7d493 : aw_mV yJ0_coder_7d493 := ⟨aw_in3 3 (by decide +kernel) rfl, aw_in3 4 (by decide +kernel) rfl⟩
set_option maxRecDepth 100000 in
theorem mt_J0_isLatin1_aae02 : aw_mt yJ0_isLatin1_aae02 cJ0_isLatin1_aae02 1 (some .boolean) 0 := ⟨aw_in1 13 (by decide +kernel) rfl, aw_in3 15 (by decide +kernel) rfl, by decide +kernel, by decide +kernel⟩
set_option maxRecDepth 100000 in
theorem mV_J0_isLatin1_aae02 : aw_mV yJ0_isLatin1_aae02 := ⟨aw_in3 13 (by decide +kernel) rfl, aw_in3 14 (by decide +kernel) rfl⟩
set_option maxRecDepth 100000 in
theorem mt_J0_length_8abf5 : aw_mt yJ0_length_8abf5 cJ0_length_8abf5 1 (some .int) 0 := ⟨aw_in1 13 (by decide +kernel) rfl, aw_in3 1 (by decide +kernel) rfl, by decide +kernel, by decide +kernel⟩
set_option maxRecDepth 100000 in
theorem mV_J0_length_8abf5 : aw_mV yJ0_length_8abf5 := ⟨aw_in2 239 (by decide +kernel) rfl, aw_in3 0 (by decide +kernel) rfl⟩
set_option maxRecDepth 100000 in
theorem mt_J1_charAt_3b067 : aw_mt yJ1_charAt_3b067 cJ1_charAt_3b067 2 (some .char) 2 := ⟨aw_in1 14 (by decide +kernel) rfl, aw_in3 18 (by decide +kernel) rfl, by decide +kernel, by decide +kernel⟩
set_option maxRecDepth 100000 in
theorem mS_J1_charAt_3b067 : aw_mS yJ1_charAt_3b067 := aw_in3 17 (by decide +kernel) rfl
set_option maxRecDepth 100000 in
theorem mt_J2_charAt_3b067 : aw_mt yJ2_charAt_3b067 cJ2_charAt_3b067 2 (some .char) 2 := ⟨aw_in1 16 (by decide +kernel) rfl, aw_in3 29 (by decide +kernel) rfl, by decide +kernel, by decide +kernel⟩
set_option maxRecDepth 100000 in
theorem mS_J2_charAt_3b067 : aw_mS yJ2_charAt_3b067 := aw_in3 28 (by decide +kernel) rfl
set_option maxRecDepth 100000 in
theorem mt_J2_checkIndex_2214a : aw_mt yJ2_checkIndex_2214a cJ2_checkIndex_2214a 2 (none : Option Jvm.ClassFile.FieldType) 2 := ⟨aw_in1 16 (by decide +kernel) rfl, aw_in3 32 (by decide +kernel) rfl, by decide +kernel, by decide +kernel⟩
set_option maxRecDepth 100000 in
theorem mS_J2_checkIndex_2214a : aw_mS yJ2_checkIndex_2214a := aw_in3 31 (by decide +kernel) rfl
set_option maxRecDepth 100000 in
theorem mt_J2_getChar_3b067 : aw_mt yJ2_getChar_3b067 cJ2_getChar_3b067 2 (some .char) 2 := ⟨aw_in1 16 (by decide +kernel) rfl, aw_in3 39 (by decide +kernel) rfl, by decide +kernel, by decide +kernel⟩
set_option maxRecDepth 100000 in
theorem mS_J2_getChar_3b067 : aw_mS yJ2_getChar_3b067 := aw_in3 38 (by decide +kernel) rfl
set_option maxRecDepth 100000 in
theorem mt_J2_length_9d52b : aw_mt yJ2_length_9d52b cJ2_length_9d52b 1 (some .int) 1 := ⟨aw_in1 16 (by decide +kernel) rfl, aw_in3 35 (by decide +kernel) rfl, by decide +kernel, by decide +kernel⟩
set_option maxRecDepth 100000 in
theorem mS_J2_length_9d52b : aw_mS yJ2_length_9d52b := aw_in3 34 (by decide +kernel) rfl
set_option maxRecDepth 100000 in
theorem mt_J3_checkIndex_8e157 : aw_mt yJ3_checkIndex_8e157 cJ3_checkIndex_8e157 3 (some .int) 3 := ⟨aw_in1 15 (by decide +kernel) rfl, aw_in3 26 (by decide +kernel) rfl, by decide +kernel, by decide +kernel⟩
set_option maxRecDepth 100000 in
theorem mS_J3_checkIndex_8e157 : aw_mS yJ3_checkIndex_8e157 := aw_in3 25 (by decide +kernel) rfl
set_option maxRecDepth 100000 in
theorem mt_J6_bitCount_0f7a4 : aw_mt yJ6_bitCount_0f7a4 cJ6_bitCount_0f7a4 1 (some .int) 1 := ⟨aw_in1 19 (by decide +kernel) rfl, aw_in4 174 (by decide +kernel) rfl, by decide +kernel, by decide +kernel⟩
set_option maxRecDepth 100000 in
theorem mS_J6_bitCount_0f7a4 : aw_mS yJ6_bitCount_0f7a4 := aw_in4 173 (by decide +kernel) rfl
set_option maxRecDepth 100000 in
theorem mt_J7_fill_53178 : aw_mt yJ7_fill_53178 cJ7_fill_53178 4 (none : Option Jvm.ClassFile.FieldType) 2 := ⟨aw_in1 12 (by decide +kernel) rfl, aw_in2 221 (by decide +kernel) rfl, by decide +kernel, by decide +kernel⟩
set_option maxRecDepth 100000 in
theorem mS_J7_fill_53178 : aw_mS yJ7_fill_53178 := aw_in2 220 (by decide +kernel) rfl
set_option maxRecDepth 100000 in
theorem mt_X0_add : aw_mt yX0_add cX0_add 6 (some .boolean) 4 := ⟨aw_in1 9 (by decide +kernel) rfl, aw_in4 186 (by decide +kernel) rfl, by decide +kernel, by decide +kernel⟩
set_option maxRecDepth 100000 in
theorem mV_X0_add : aw_mV yX0_add := ⟨aw_in4 184 (by decide +kernel) rfl, aw_in4 185 (by decide +kernel) rfl⟩
set_option maxRecDepth 100000 in
theorem mt_X0_cabsOf : aw_mt yX0_cabsOf cX0_cabsOf 5 (some .int) 2 := ⟨aw_in1 9 (by decide +kernel) rfl, aw_in4 219 (by decide +kernel) rfl, by decide +kernel, by decide +kernel⟩
set_option maxRecDepth 100000 in
theorem mV_X0_cabsOf : aw_mV yX0_cabsOf := ⟨aw_in4 218 (by decide +kernel) rfl, aw_sel 29 (n := 11) (by decide +kernel)⟩
set_option maxRecDepth 100000 in
theorem mt_X0_digitsIn : aw_mt yX0_digitsIn cX0_digitsIn 3 (some .int) 1 := ⟨aw_in1 9 (by decide +kernel) rfl, aw_in4 193 (by decide +kernel) rfl, by decide +kernel, by decide +kernel⟩
set_option maxRecDepth 100000 in
theorem mS_X0_digitsIn : aw_mS yX0_digitsIn := aw_in4 192 (by decide +kernel) rfl
set_option maxRecDepth 100000 in
theorem mt_X0_findCommon : aw_mt yX0_findCommon cX0_findCommon 6 (some .int) 2 := ⟨aw_in1 9 (by decide +kernel) rfl, aw_in4 210 (by decide +kernel) rfl, by decide +kernel, by decide +kernel⟩
set_option maxRecDepth 100000 in
theorem mV_X0_findCommon : aw_mV yX0_findCommon := ⟨aw_in4 209 (by decide +kernel) rfl, aw_sel 27 (n := 11) (by decide +kernel)⟩
set_option maxRecDepth 100000 in
theorem mt_X0_findJumpers : aw_mt yX0_findJumpers cX0_findJumpers 6 (none : Option Jvm.ClassFile.FieldType) 2 := ⟨aw_in1 9 (by decide +kernel) rfl, aw_in4 206 (by decide +kernel) rfl, by decide +kernel, by decide +kernel⟩
set_option maxRecDepth 100000 in
theorem mV_X0_findJumpers : aw_mV yX0_findJumpers := ⟨aw_in4 204 (by decide +kernel) rfl, aw_in4 205 (by decide +kernel) rfl⟩
set_option maxRecDepth 100000 in
theorem mt_X0_firstAgainst : aw_mt yX0_firstAgainst cX0_firstAgainst 5 (some .int) 2 := ⟨aw_in1 9 (by decide +kernel) rfl, aw_in4 227 (by decide +kernel) rfl, by decide +kernel, by decide +kernel⟩
set_option maxRecDepth 100000 in
theorem mV_X0_firstAgainst : aw_mV yX0_firstAgainst := ⟨aw_in4 225 (by decide +kernel) rfl, aw_in4 226 (by decide +kernel) rfl⟩
set_option maxRecDepth 100000 in
theorem mt_X0_init : aw_mt yX0_init cX0_init 1 (none : Option Jvm.ClassFile.FieldType) 0 := ⟨aw_in1 9 (by decide +kernel) rfl, aw_in2 104 (by decide +kernel) rfl, by decide +kernel, by decide +kernel⟩
set_option maxRecDepth 100000 in
theorem mI_X0_init : aw_mI yX0_init := ⟨rfl, aw_in2 103 (by decide +kernel) rfl⟩
set_option maxRecDepth 100000 in
theorem mt_X0_isOrderedWithout : aw_mt yX0_isOrderedWithout cX0_isOrderedWithout 5 (some .boolean) 2 := ⟨aw_in1 9 (by decide +kernel) rfl, aw_in4 215 (by decide +kernel) rfl, by decide +kernel, by decide +kernel⟩
set_option maxRecDepth 100000 in
theorem mV_X0_isOrderedWithout : aw_mV yX0_isOrderedWithout := ⟨aw_in4 214 (by decide +kernel) rfl, aw_sel 28 (n := 11) (by decide +kernel)⟩
set_option maxRecDepth 100000 in
theorem mt_X0_nextOfRank : aw_mt yX0_nextOfRank cX0_nextOfRank 3 (some .int) 1 := ⟨aw_in1 9 (by decide +kernel) rfl, aw_in4 202 (by decide +kernel) rfl, by decide +kernel, by decide +kernel⟩
set_option maxRecDepth 100000 in
theorem mV_X0_nextOfRank : aw_mV yX0_nextOfRank := ⟨aw_in4 200 (by decide +kernel) rfl, aw_in4 201 (by decide +kernel) rfl⟩
set_option maxRecDepth 100000 in
theorem mt_X0_readDigits : aw_mt yX0_readDigits cX0_readDigits 8 (some .boolean) 2 := ⟨aw_in1 9 (by decide +kernel) rfl, aw_in4 190 (by decide +kernel) rfl, by decide +kernel, by decide +kernel⟩
set_option maxRecDepth 100000 in
theorem mV_X0_readDigits : aw_mV yX0_readDigits := ⟨aw_in4 189 (by decide +kernel) rfl, aw_sel 26 (n := 11) (by decide +kernel)⟩
set_option maxRecDepth 100000 in
theorem mt_X10_aheadAt : aw_mt yX10_aheadAt cX10_aheadAt 2 (some .int) 1 := ⟨aw_in1 11 (by decide +kernel) rfl, aw_in7 5 (by decide +kernel) rfl, by decide +kernel, by decide +kernel⟩
set_option maxRecDepth 100000 in
theorem mV_X10_aheadAt : aw_mV yX10_aheadAt := ⟨aw_in7 4 (by decide +kernel) rfl, aw_sel 68 (n := 54) (by decide +kernel)⟩
set_option maxRecDepth 100000 in
theorem mt_X10_apart : aw_mt yX10_apart cX10_apart 2 (some .int) 2 := ⟨aw_in1 11 (by decide +kernel) rfl, aw_in6 159 (by decide +kernel) rfl, by decide +kernel, by decide +kernel⟩
set_option maxRecDepth 100000 in
theorem mS_X10_apart : aw_mS yX10_apart := aw_in6 158 (by decide +kernel) rfl
set_option maxRecDepth 100000 in
theorem mt_X10_areMinutes : aw_mt yX10_areMinutes cX10_areMinutes 1 (some .boolean) 1 := ⟨aw_in1 11 (by decide +kernel) rfl, aw_in6 116 (by decide +kernel) rfl, by decide +kernel, by decide +kernel⟩
set_option maxRecDepth 100000 in
theorem mS_X10_areMinutes : aw_mS yX10_areMinutes := aw_in6 115 (by decide +kernel) rfl
set_option maxRecDepth 100000 in
theorem mt_X10_arrives : aw_mt yX10_arrives cX10_arrives 6 (none : Option Jvm.ClassFile.FieldType) 1 := ⟨aw_in1 11 (by decide +kernel) rfl, aw_in6 163 (by decide +kernel) rfl, by decide +kernel, by decide +kernel⟩
set_option maxRecDepth 100000 in
theorem mV_X10_arrives : aw_mV yX10_arrives := ⟨aw_in6 162 (by decide +kernel) rfl, aw_sel 58 (n := 54) (by decide +kernel)⟩
set_option maxRecDepth 100000 in
theorem mt_X10_back : aw_mt yX10_back cX10_back 3 (some .boolean) 1 := ⟨aw_in1 11 (by decide +kernel) rfl, aw_in7 100 (by decide +kernel) rfl, by decide +kernel, by decide +kernel⟩
set_option maxRecDepth 100000 in
theorem mV_X10_back : aw_mV yX10_back := ⟨aw_in7 98 (by decide +kernel) rfl, aw_in7 99 (by decide +kernel) rfl⟩
set_option maxRecDepth 100000 in
theorem mt_X10_brings : aw_mt yX10_brings cX10_brings 5 (some .long) 3 := ⟨aw_in1 11 (by decide +kernel) rfl, aw_in6 226 (by decide +kernel) rfl, by decide +kernel, by decide +kernel⟩
set_option maxRecDepth 100000 in
theorem mV_X10_brings : aw_mV yX10_brings := ⟨aw_in6 225 (by decide +kernel) rfl, aw_sel 64 (n := 54) (by decide +kernel)⟩
set_option maxRecDepth 100000 in
theorem mt_X10_brought : aw_mt yX10_brought cX10_brought 5 (some .int) 1 := ⟨aw_in1 11 (by decide +kernel) rfl, aw_in7 29 (by decide +kernel) rfl, by decide +kernel, by decide +kernel⟩
set_option maxRecDepth 100000 in
theorem mV_X10_brought : aw_mV yX10_brought := ⟨aw_in7 27 (by decide +kernel) rfl, aw_in7 28 (by decide +kernel) rfl⟩
set_option maxRecDepth 100000 in
theorem mt_X10_busies : aw_mt yX10_busies cX10_busies 4 (none : Option Jvm.ClassFile.FieldType) 3 := ⟨aw_in1 11 (by decide +kernel) rfl, aw_in6 190 (by decide +kernel) rfl, by decide +kernel, by decide +kernel⟩
set_option maxRecDepth 100000 in
theorem mV_X10_busies : aw_mV yX10_busies := ⟨aw_in6 189 (by decide +kernel) rfl, aw_sel 62 (n := 54) (by decide +kernel)⟩
set_option maxRecDepth 100000 in
theorem mt_X10_cab : aw_mt yX10_cab cX10_cab 4 (some .int) 2 := ⟨aw_in1 11 (by decide +kernel) rfl, aw_in6 124 (by decide +kernel) rfl, by decide +kernel, by decide +kernel⟩
set_option maxRecDepth 100000 in
theorem mV_X10_cab : aw_mV yX10_cab := ⟨aw_in6 122 (by decide +kernel) rfl, aw_in6 123 (by decide +kernel) rfl⟩
set_option maxRecDepth 100000 in
theorem mt_X10_call : aw_mt yX10_call cX10_call 5 (some .boolean) 3 := ⟨aw_in1 11 (by decide +kernel) rfl, aw_in6 194 (by decide +kernel) rfl, by decide +kernel, by decide +kernel⟩
set_option maxRecDepth 100000 in
theorem mV_X10_call : aw_mV yX10_call := ⟨aw_in6 192 (by decide +kernel) rfl, aw_in6 193 (by decide +kernel) rfl⟩
set_option maxRecDepth 100000 in
theorem mt_X10_canStand : aw_mt yX10_canStand cX10_canStand 7 (some .boolean) 4 := ⟨aw_in1 11 (by decide +kernel) rfl, aw_in6 109 (by decide +kernel) rfl, by decide +kernel, by decide +kernel⟩
set_option maxRecDepth 100000 in
theorem mV_X10_canStand : aw_mV yX10_canStand := ⟨aw_in6 108 (by decide +kernel) rfl, aw_sel 50 (n := 54) (by decide +kernel)⟩
set_option maxRecDepth 100000 in
theorem mt_X10_cant : aw_mt yX10_cant cX10_cant 4 (some .int) 1 := ⟨aw_in1 11 (by decide +kernel) rfl, aw_in7 71 (by decide +kernel) rfl, by decide +kernel, by decide +kernel⟩
set_option maxRecDepth 100000 in
theorem mV_X10_cant : aw_mV yX10_cant := ⟨aw_in7 69 (by decide +kernel) rfl, aw_in7 70 (by decide +kernel) rfl⟩
set_option maxRecDepth 100000 in
theorem mt_X10_chance : aw_mt yX10_chance cX10_chance 5 (some .boolean) 4 := ⟨aw_in1 11 (by decide +kernel) rfl, aw_in6 214 (by decide +kernel) rfl, by decide +kernel, by decide +kernel⟩
set_option maxRecDepth 100000 in
theorem mV_X10_chance : aw_mV yX10_chance := ⟨aw_in6 212 (by decide +kernel) rfl, aw_in6 213 (by decide +kernel) rfl⟩
set_option maxRecDepth 100000 in
theorem mt_X10_change : aw_mt yX10_change cX10_change 6 (some .boolean) 2 := ⟨aw_in1 11 (by decide +kernel) rfl, aw_in6 202 (by decide +kernel) rfl, by decide +kernel, by decide +kernel⟩
set_option maxRecDepth 100000 in
theorem mV_X10_change : aw_mV yX10_change := ⟨aw_in6 200 (by decide +kernel) rfl, aw_in6 201 (by decide +kernel) rfl⟩
set_option maxRecDepth 100000 in
theorem mt_X10_city : aw_mt yX10_city cX10_city 2 (some .int) 0 := ⟨aw_in1 11 (by decide +kernel) rfl, aw_in6 92 (by decide +kernel) rfl, by decide +kernel, by decide +kernel⟩
set_option maxRecDepth 100000 in
theorem mV_X10_city : aw_mV yX10_city := ⟨aw_in6 90 (by decide +kernel) rfl, aw_in6 91 (by decide +kernel) rfl⟩
set_option maxRecDepth 100000 in
theorem mt_X10_closes : aw_mt yX10_closes cX10_closes 1 (some .boolean) 0 := ⟨aw_in1 11 (by decide +kernel) rfl, aw_in6 72 (by decide +kernel) rfl, by decide +kernel, by decide +kernel⟩
set_option maxRecDepth 100000 in
theorem mV_X10_closes : aw_mV yX10_closes := ⟨aw_in6 71 (by decide +kernel) rfl, aw_sel 44 (n := 54) (by decide +kernel)⟩
set_option maxRecDepth 100000 in
theorem mt_X10_coinLine : aw_mt yX10_coinLine cX10_coinLine 1 (some .boolean) 0 := ⟨aw_in1 11 (by decide +kernel) rfl, aw_in6 88 (by decide +kernel) rfl, by decide +kernel, by decide +kernel⟩
set_option maxRecDepth 100000 in
theorem mV_X10_coinLine : aw_mV yX10_coinLine := ⟨aw_in6 87 (by decide +kernel) rfl, aw_sel 48 (n := 54) (by decide +kernel)⟩
set_option maxRecDepth 100000 in
theorem mt_X10_count : aw_mt yX10_count cX10_count 4 (some .int) 1 := ⟨aw_in1 11 (by decide +kernel) rfl, aw_in7 104 (by decide +kernel) rfl, by decide +kernel, by decide +kernel⟩
set_option maxRecDepth 100000 in
theorem mV_X10_count : aw_mV yX10_count := ⟨aw_in7 102 (by decide +kernel) rfl, aw_in7 103 (by decide +kernel) rfl⟩
set_option maxRecDepth 100000 in
theorem mt_X10_dead : aw_mt yX10_dead cX10_dead 3 (some .int) 2 := ⟨aw_in1 11 (by decide +kernel) rfl, aw_in7 39 (by decide +kernel) rfl, by decide +kernel, by decide +kernel⟩
set_option maxRecDepth 100000 in
theorem mV_X10_dead : aw_mV yX10_dead := ⟨aw_in7 37 (by decide +kernel) rfl, aw_in7 38 (by decide +kernel) rfl⟩
set_option maxRecDepth 100000 in
theorem mt_X10_deadBy : aw_mt yX10_deadBy cX10_deadBy 7 (some .int) 2 := ⟨aw_in1 11 (by decide +kernel) rfl, aw_in7 43 (by decide +kernel) rfl, by decide +kernel, by decide +kernel⟩
set_option maxRecDepth 100000 in
theorem mV_X10_deadBy : aw_mV yX10_deadBy := ⟨aw_in7 42 (by decide +kernel) rfl, aw_sel 72 (n := 54) (by decide +kernel)⟩
set_option maxRecDepth 100000 in
theorem mt_X10_drive : aw_mt yX10_drive cX10_drive 3 (some .boolean) 2 := ⟨aw_in1 11 (by decide +kernel) rfl, aw_in6 152 (by decide +kernel) rfl, by decide +kernel, by decide +kernel⟩
set_option maxRecDepth 100000 in
theorem mV_X10_drive : aw_mV yX10_drive := ⟨aw_in6 150 (by decide +kernel) rfl, aw_in6 151 (by decide +kernel) rfl⟩
set_option maxRecDepth 100000 in
theorem mt_X10_earned : aw_mt yX10_earned cX10_earned 5 (some .int) 1 := ⟨aw_in1 11 (by decide +kernel) rfl, aw_in7 92 (by decide +kernel) rfl, by decide +kernel, by decide +kernel⟩
set_option maxRecDepth 100000 in
theorem mV_X10_earned : aw_mV yX10_earned := ⟨aw_in7 90 (by decide +kernel) rfl, aw_in7 91 (by decide +kernel) rfl⟩
set_option maxRecDepth 100000 in
theorem mt_X10_end : aw_mt yX10_end cX10_end 2 (some .boolean) 1 := ⟨aw_in1 11 (by decide +kernel) rfl, aw_in6 14 (by decide +kernel) rfl, by decide +kernel, by decide +kernel⟩
set_option maxRecDepth 100000 in
theorem mV_X10_end : aw_mV yX10_end := ⟨aw_in6 12 (by decide +kernel) rfl, aw_in6 13 (by decide +kernel) rfl⟩
set_option maxRecDepth 100000 in
theorem mt_X10_fareLine : aw_mt yX10_fareLine cX10_fareLine 2 (some .boolean) 0 := ⟨aw_in1 11 (by decide +kernel) rfl, aw_in6 80 (by decide +kernel) rfl, by decide +kernel, by decide +kernel⟩
set_option maxRecDepth 100000 in
theorem mV_X10_fareLine : aw_mV yX10_fareLine := ⟨aw_in6 79 (by decide +kernel) rfl, aw_sel 46 (n := 54) (by decide +kernel)⟩
set_option maxRecDepth 100000 in
theorem mt_X10_fault : aw_mt yX10_fault cX10_fault 1 (some .int) 0 := ⟨aw_in1 11 (by decide +kernel) rfl, aw_in6 21 (by decide +kernel) rfl, by decide +kernel, by decide +kernel⟩
set_option maxRecDepth 100000 in
theorem mV_X10_fault : aw_mV yX10_fault := ⟨aw_in6 19 (by decide +kernel) rfl, aw_in6 20 (by decide +kernel) rfl⟩
set_option maxRecDepth 100000 in
theorem mt_X10_feed : aw_mt yX10_feed cX10_feed 8 (some .int) 5 := ⟨aw_in1 11 (by decide +kernel) rfl, aw_in6 10 (by decide +kernel) rfl, by decide +kernel, by decide +kernel⟩
set_option maxRecDepth 100000 in
theorem mV_X10_feed : aw_mV yX10_feed := ⟨aw_in6 8 (by decide +kernel) rfl, aw_in6 9 (by decide +kernel) rfl⟩
set_option maxRecDepth 100000 in
theorem mt_X10_go : aw_mt yX10_go cX10_go 5 (some .int) 1 := ⟨aw_in1 11 (by decide +kernel) rfl, aw_in6 206 (by decide +kernel) rfl, by decide +kernel, by decide +kernel⟩
set_option maxRecDepth 100000 in
theorem mV_X10_go : aw_mV yX10_go := ⟨aw_in6 204 (by decide +kernel) rfl, aw_in6 205 (by decide +kernel) rfl⟩
set_option maxRecDepth 100000 in
theorem mt_X10_going : aw_mt yX10_going cX10_going 5 (some .int) 3 := ⟨aw_in1 11 (by decide +kernel) rfl, aw_in7 9 (by decide +kernel) rfl, by decide +kernel, by decide +kernel⟩
set_option maxRecDepth 100000 in
theorem mV_X10_going : aw_mV yX10_going := ⟨aw_in7 7 (by decide +kernel) rfl, aw_in7 8 (by decide +kernel) rfl⟩
set_option maxRecDepth 100000 in
theorem mt_X10_goingFrom : aw_mt yX10_goingFrom cX10_goingFrom 8 (some .long) 2 := ⟨aw_in1 11 (by decide +kernel) rfl, aw_in6 236 (by decide +kernel) rfl, by decide +kernel, by decide +kernel⟩
set_option maxRecDepth 100000 in
theorem mV_X10_goingFrom : aw_mV yX10_goingFrom := ⟨aw_in6 235 (by decide +kernel) rfl, aw_sel 66 (n := 54) (by decide +kernel)⟩
set_option maxRecDepth 100000 in
theorem mt_X10_image : aw_mt yX10_image cX10_image 3 (some .boolean) 1 := ⟨aw_in1 11 (by decide +kernel) rfl, aw_in7 96 (by decide +kernel) rfl, by decide +kernel, by decide +kernel⟩
set_option maxRecDepth 100000 in
theorem mV_X10_image : aw_mV yX10_image := ⟨aw_in7 94 (by decide +kernel) rfl, aw_in7 95 (by decide +kernel) rfl⟩
set_option maxRecDepth 100000 in
theorem mt_X10_in : aw_mt yX10_in cX10_in 3 (some .boolean) 3 := ⟨aw_in1 11 (by decide +kernel) rfl, aw_in6 17 (by decide +kernel) rfl, by decide +kernel, by decide +kernel⟩
set_option maxRecDepth 100000 in
theorem mS_X10_in : aw_mS yX10_in := aw_in6 16 (by decide +kernel) rfl
set_option maxRecDepth 100000 in
theorem mt_X10_init : aw_mt yX10_init cX10_init 1 (none : Option Jvm.ClassFile.FieldType) 0 := ⟨aw_in1 11 (by decide +kernel) rfl, aw_in5 81 (by decide +kernel) rfl, by decide +kernel, by decide +kernel⟩
set_option maxRecDepth 100000 in
theorem mI_X10_init : aw_mI yX10_init := ⟨rfl, aw_in5 80 (by decide +kernel) rfl⟩
set_option maxRecDepth 100000 in
theorem mt_X10_isAt : aw_mt yX10_isAt cX10_isAt 3 (some .boolean) 2 := ⟨aw_in1 11 (by decide +kernel) rfl, aw_in6 156 (by decide +kernel) rfl, by decide +kernel, by decide +kernel⟩
set_option maxRecDepth 100000 in
theorem mV_X10_isAt : aw_mV yX10_isAt := ⟨aw_in6 155 (by decide +kernel) rfl, aw_sel 57 (n := 54) (by decide +kernel)⟩
set_option maxRecDepth 100000 in
theorem mt_X10_isCab : aw_mt yX10_isCab cX10_isCab 2 (some .boolean) 1 := ⟨aw_in1 11 (by decide +kernel) rfl, aw_in6 136 (by decide +kernel) rfl, by decide +kernel, by decide +kernel⟩
set_option maxRecDepth 100000 in
theorem mV_X10_isCab : aw_mV yX10_isCab := ⟨aw_in6 135 (by decide +kernel) rfl, aw_sel 53 (n := 54) (by decide +kernel)⟩
set_option maxRecDepth 100000 in
theorem mt_X10_isDigit : aw_mt yX10_isDigit cX10_isDigit 1 (some .boolean) 1 := ⟨aw_in1 11 (by decide +kernel) rfl, aw_in6 31 (by decide +kernel) rfl, by decide +kernel, by decide +kernel⟩
set_option maxRecDepth 100000 in
theorem mS_X10_isDigit : aw_mS yX10_isDigit := aw_in6 30 (by decide +kernel) rfl
set_option maxRecDepth 100000 in
theorem mt_X10_isFare : aw_mt yX10_isFare cX10_isFare 2 (some .boolean) 2 := ⟨aw_in1 11 (by decide +kernel) rfl, aw_in6 182 (by decide +kernel) rfl, by decide +kernel, by decide +kernel⟩
set_option maxRecDepth 100000 in
theorem mS_X10_isFare : aw_mS yX10_isFare := aw_in6 181 (by decide +kernel) rfl
set_option maxRecDepth 100000 in
theorem mt_X10_isGoing : aw_mt yX10_isGoing cX10_isGoing 3 (some .boolean) 2 := ⟨aw_in1 11 (by decide +kernel) rfl, aw_in7 13 (by decide +kernel) rfl, by decide +kernel, by decide +kernel⟩
set_option maxRecDepth 100000 in
theorem mV_X10_isGoing : aw_mV yX10_isGoing := ⟨aw_in7 12 (by decide +kernel) rfl, aw_sel 69 (n := 54) (by decide +kernel)⟩
set_option maxRecDepth 100000 in
theorem mt_X10_isLetter : aw_mt yX10_isLetter cX10_isLetter 1 (some .boolean) 1 := ⟨aw_in1 11 (by decide +kernel) rfl, aw_in6 28 (by decide +kernel) rfl, by decide +kernel, by decide +kernel⟩
set_option maxRecDepth 100000 in
theorem mS_X10_isLetter : aw_mS yX10_isLetter := aw_in6 27 (by decide +kernel) rfl
set_option maxRecDepth 100000 in
theorem mt_X10_isLike : aw_mt yX10_isLike cX10_isLike 8 (some .boolean) 3 := ⟨aw_in1 11 (by decide +kernel) rfl, aw_in7 67 (by decide +kernel) rfl, by decide +kernel, by decide +kernel⟩
set_option maxRecDepth 100000 in
theorem mV_X10_isLike : aw_mV yX10_isLike := ⟨aw_in7 66 (by decide +kernel) rfl, aw_sel 74 (n := 54) (by decide +kernel)⟩
set_option maxRecDepth 100000 in
theorem mt_X10_isName : aw_mt yX10_isName cX10_isName 1 (some .boolean) 0 := ⟨aw_in1 11 (by decide +kernel) rfl, aw_in6 56 (by decide +kernel) rfl, by decide +kernel, by decide +kernel⟩
set_option maxRecDepth 100000 in
theorem mV_X10_isName : aw_mV yX10_isName := ⟨aw_in6 55 (by decide +kernel) rfl, aw_sel 41 (n := 54) (by decide +kernel)⟩
set_option maxRecDepth 100000 in
theorem mt_X10_isRank : aw_mt yX10_isRank cX10_isRank 2 (some .boolean) 1 := ⟨aw_in1 11 (by decide +kernel) rfl, aw_in6 101 (by decide +kernel) rfl, by decide +kernel, by decide +kernel⟩
set_option maxRecDepth 100000 in
theorem mV_X10_isRank : aw_mV yX10_isRank := ⟨aw_in6 100 (by decide +kernel) rfl, aw_sel 49 (n := 54) (by decide +kernel)⟩
set_option maxRecDepth 100000 in
theorem mt_X10_isRing : aw_mt yX10_isRing cX10_isRing 3 (some .boolean) 1 := ⟨aw_in1 11 (by decide +kernel) rfl, aw_in7 83 (by decide +kernel) rfl, by decide +kernel, by decide +kernel⟩
set_option maxRecDepth 100000 in
theorem mV_X10_isRing : aw_mV yX10_isRing := ⟨aw_in7 82 (by decide +kernel) rfl, aw_sel 75 (n := 54) (by decide +kernel)⟩
set_option maxRecDepth 100000 in
theorem mt_X10_isWord : aw_mt yX10_isWord cX10_isWord 2 (some .boolean) 1 := ⟨aw_in1 11 (by decide +kernel) rfl, aw_in6 43 (by decide +kernel) rfl, by decide +kernel, by decide +kernel⟩
set_option maxRecDepth 100000 in
theorem mV_X10_isWord : aw_mV yX10_isWord := ⟨aw_in6 42 (by decide +kernel) rfl, aw_sel 39 (n := 54) (by decide +kernel)⟩
set_option maxRecDepth 100000 in
theorem mt_X10_jumpers : aw_mt yX10_jumpers cX10_jumpers 11 (some .int) 2 := ⟨aw_in1 11 (by decide +kernel) rfl, aw_in7 59 (by decide +kernel) rfl, by decide +kernel, by decide +kernel⟩
set_option maxRecDepth 100000 in
theorem mV_X10_jumpers : aw_mV yX10_jumpers := ⟨aw_in7 57 (by decide +kernel) rfl, aw_in7 58 (by decide +kernel) rfl⟩
set_option maxRecDepth 100000 in
theorem mt_X10_leads : aw_mt yX10_leads cX10_leads 2 (none : Option Jvm.ClassFile.FieldType) 0 := ⟨aw_in1 11 (by decide +kernel) rfl, aw_in6 25 (by decide +kernel) rfl, by decide +kernel, by decide +kernel⟩
set_option maxRecDepth 100000 in
theorem mV_X10_leads : aw_mV yX10_leads := ⟨aw_in6 24 (by decide +kernel) rfl, aw_sel 37 (n := 54) (by decide +kernel)⟩
set_option maxRecDepth 100000 in
theorem mt_X10_leaves : aw_mt yX10_leaves cX10_leaves 5 (some .int) 1 := ⟨aw_in1 11 (by decide +kernel) rfl, aw_in6 186 (by decide +kernel) rfl, by decide +kernel, by decide +kernel⟩
set_option maxRecDepth 100000 in
theorem mV_X10_leaves : aw_mV yX10_leaves := ⟨aw_in6 185 (by decide +kernel) rfl, aw_sel 61 (n := 54) (by decide +kernel)⟩
set_option maxRecDepth 100000 in
theorem mt_X10_letLine : aw_mt yX10_letLine cX10_letLine 2 (some .boolean) 0 := ⟨aw_in1 11 (by decide +kernel) rfl, aw_in6 76 (by decide +kernel) rfl, by decide +kernel, by decide +kernel⟩
set_option maxRecDepth 100000 in
theorem mV_X10_letLine : aw_mV yX10_letLine := ⟨aw_in6 75 (by decide +kernel) rfl, aw_sel 45 (n := 54) (by decide +kernel)⟩
set_option maxRecDepth 100000 in
theorem mt_X10_line : aw_mt yX10_line cX10_line 1 (some .boolean) 0 := ⟨aw_in1 11 (by decide +kernel) rfl, aw_in6 38 (by decide +kernel) rfl, by decide +kernel, by decide +kernel⟩
set_option maxRecDepth 100000 in
theorem mV_X10_line : aw_mV yX10_line := ⟨aw_in6 37 (by decide +kernel) rfl, aw_sel 38 (n := 54) (by decide +kernel)⟩
set_option maxRecDepth 100000 in
theorem mt_X10_may : aw_mt yX10_may cX10_may 4 (some .int) 3 := ⟨aw_in1 11 (by decide +kernel) rfl, aw_in6 105 (by decide +kernel) rfl, by decide +kernel, by decide +kernel⟩
set_option maxRecDepth 100000 in
theorem mV_X10_may : aw_mV yX10_may := ⟨aw_in6 103 (by decide +kernel) rfl, aw_in6 104 (by decide +kernel) rfl⟩
set_option maxRecDepth 100000 in
theorem mt_X10_named : aw_mt yX10_named cX10_named 2 (some .int) 0 := ⟨aw_in1 11 (by decide +kernel) rfl, aw_in6 64 (by decide +kernel) rfl, by decide +kernel, by decide +kernel⟩
set_option maxRecDepth 100000 in
theorem mV_X10_named : aw_mV yX10_named := ⟨aw_in6 63 (by decide +kernel) rfl, aw_sel 42 (n := 54) (by decide +kernel)⟩
set_option maxRecDepth 100000 in
theorem mt_X10_number : aw_mt yX10_number cX10_number 3 (some .boolean) 2 := ⟨aw_in1 11 (by decide +kernel) rfl, aw_in6 68 (by decide +kernel) rfl, by decide +kernel, by decide +kernel⟩
set_option maxRecDepth 100000 in
theorem mV_X10_number : aw_mV yX10_number := ⟨aw_in6 67 (by decide +kernel) rfl, aw_sel 43 (n := 54) (by decide +kernel)⟩
set_option maxRecDepth 100000 in
theorem mt_X10_of : aw_mt yX10_of cX10_of 4 (some .int) 2 := ⟨aw_in1 11 (by decide +kernel) rfl, aw_in6 132 (by decide +kernel) rfl, by decide +kernel, by decide +kernel⟩
set_option maxRecDepth 100000 in
theorem mV_X10_of : aw_mV yX10_of := ⟨aw_in6 130 (by decide +kernel) rfl, aw_in6 131 (by decide +kernel) rfl⟩
set_option maxRecDepth 100000 in
theorem mt_X10_of0 : aw_mt yX10_of0 cX10_of0 3 (some .int) 2 := ⟨aw_in1 11 (by decide +kernel) rfl, aw_in6 140 (by decide +kernel) rfl, by decide +kernel, by decide +kernel⟩
set_option maxRecDepth 100000 in
theorem mV_X10_of0 : aw_mV yX10_of0 := ⟨aw_in6 139 (by decide +kernel) rfl, aw_sel 54 (n := 54) (by decide +kernel)⟩
set_option maxRecDepth 100000 in
theorem mt_X10_oneMore : aw_mt yX10_oneMore cX10_oneMore 5 (some .int) 0 := ⟨aw_in1 11 (by decide +kernel) rfl, aw_in7 34 (by decide +kernel) rfl, by decide +kernel, by decide +kernel⟩
set_option maxRecDepth 100000 in
theorem mV_X10_oneMore : aw_mV yX10_oneMore := ⟨aw_in7 33 (by decide +kernel) rfl, aw_sel 71 (n := 54) (by decide +kernel)⟩
set_option maxRecDepth 100000 in
theorem mt_X10_ones : aw_mt yX10_ones cX10_ones 3 (some .int) 1 := ⟨aw_in1 11 (by decide +kernel) rfl, aw_in7 51 (by decide +kernel) rfl, by decide +kernel, by decide +kernel⟩
set_option maxRecDepth 100000 in
theorem mS_X10_ones : aw_mS yX10_ones := aw_in7 50 (by decide +kernel) rfl
set_option maxRecDepth 100000 in
theorem mt_X10_packed : aw_mt yX10_packed cX10_packed 4 (some .long) 1 := ⟨aw_in1 11 (by decide +kernel) rfl, aw_in6 46 (by decide +kernel) rfl, by decide +kernel, by decide +kernel⟩
set_option maxRecDepth 100000 in
theorem mS_X10_packed : aw_mS yX10_packed := aw_in6 45 (by decide +kernel) rfl
set_option maxRecDepth 100000 in
theorem mt_X10_pass : aw_mt yX10_pass cX10_pass 3 (some .int) 2 := ⟨aw_in1 11 (by decide +kernel) rfl, aw_in6 210 (by decide +kernel) rfl, by decide +kernel, by decide +kernel⟩
set_option maxRecDepth 100000 in
theorem mV_X10_pass : aw_mV yX10_pass := ⟨aw_in6 208 (by decide +kernel) rfl, aw_in6 209 (by decide +kernel) rfl⟩
set_option maxRecDepth 100000 in
theorem mt_X10_passed : aw_mt yX10_passed cX10_passed 6 (none : Option Jvm.ClassFile.FieldType) 4 := ⟨aw_in1 11 (by decide +kernel) rfl, aw_in6 171 (by decide +kernel) rfl, by decide +kernel, by decide +kernel⟩
set_option maxRecDepth 100000 in
theorem mV_X10_passed : aw_mV yX10_passed := ⟨aw_in6 170 (by decide +kernel) rfl, aw_sel 60 (n := 54) (by decide +kernel)⟩
set_option maxRecDepth 100000 in
theorem mt_X10_people : aw_mt yX10_people cX10_people 3 (some .boolean) 2 := ⟨aw_in1 11 (by decide +kernel) rfl, aw_in7 25 (by decide +kernel) rfl, by decide +kernel, by decide +kernel⟩
set_option maxRecDepth 100000 in
theorem mV_X10_people : aw_mV yX10_people := ⟨aw_in7 23 (by decide +kernel) rfl, aw_in7 24 (by decide +kernel) rfl⟩
set_option maxRecDepth 100000 in
theorem mt_X10_place : aw_mt yX10_place cX10_place 2 (some .int) 1 := ⟨aw_in1 11 (by decide +kernel) rfl, aw_in6 144 (by decide +kernel) rfl, by decide +kernel, by decide +kernel⟩
set_option maxRecDepth 100000 in
theorem mV_X10_place : aw_mV yX10_place := ⟨aw_in6 143 (by decide +kernel) rfl, aw_sel 55 (n := 54) (by decide +kernel)⟩
set_option maxRecDepth 100000 in
theorem mt_X10_posIn : aw_mt yX10_posIn cX10_posIn 4 (some .int) 2 := ⟨aw_in1 11 (by decide +kernel) rfl, aw_in7 63 (by decide +kernel) rfl, by decide +kernel, by decide +kernel⟩
set_option maxRecDepth 100000 in
theorem mV_X10_posIn : aw_mV yX10_posIn := ⟨aw_in7 62 (by decide +kernel) rfl, aw_sel 73 (n := 54) (by decide +kernel)⟩
set_option maxRecDepth 100000 in
theorem mt_X10_posOf : aw_mt yX10_posOf cX10_posOf 4 (some .int) 1 := ⟨aw_in1 11 (by decide +kernel) rfl, aw_in6 148 (by decide +kernel) rfl, by decide +kernel, by decide +kernel⟩
set_option maxRecDepth 100000 in
theorem mV_X10_posOf : aw_mV yX10_posOf := ⟨aw_in6 147 (by decide +kernel) rfl, aw_sel 56 (n := 54) (by decide +kernel)⟩
set_option maxRecDepth 100000 in
theorem mt_X10_price : aw_mt yX10_price cX10_price 3 (some .int) 2 := ⟨aw_in1 11 (by decide +kernel) rfl, aw_in6 113 (by decide +kernel) rfl, by decide +kernel, by decide +kernel⟩
set_option maxRecDepth 100000 in
theorem mV_X10_price : aw_mV yX10_price := ⟨aw_in6 111 (by decide +kernel) rfl, aw_in6 112 (by decide +kernel) rfl⟩
set_option maxRecDepth 100000 in
theorem mt_X10_priceOf : aw_mt yX10_priceOf cX10_priceOf 4 (some .int) 2 := ⟨aw_in1 11 (by decide +kernel) rfl, aw_in6 120 (by decide +kernel) rfl, by decide +kernel, by decide +kernel⟩
set_option maxRecDepth 100000 in
theorem mV_X10_priceOf : aw_mV yX10_priceOf := ⟨aw_in6 119 (by decide +kernel) rfl, aw_sel 51 (n := 54) (by decide +kernel)⟩
set_option maxRecDepth 100000 in
theorem mt_X10_rank : aw_mt yX10_rank cX10_rank 3 (some .int) 2 := ⟨aw_in1 11 (by decide +kernel) rfl, aw_in6 97 (by decide +kernel) rfl, by decide +kernel, by decide +kernel⟩
set_option maxRecDepth 100000 in
theorem mV_X10_rank : aw_mV yX10_rank := ⟨aw_in6 95 (by decide +kernel) rfl, aw_in6 96 (by decide +kernel) rfl⟩
set_option maxRecDepth 100000 in
theorem mt_X10_rankBy : aw_mt yX10_rankBy cX10_rankBy 6 (some .int) 2 := ⟨aw_in1 11 (by decide +kernel) rfl, aw_in7 21 (by decide +kernel) rfl, by decide +kernel, by decide +kernel⟩
set_option maxRecDepth 100000 in
theorem mV_X10_rankBy : aw_mV yX10_rankBy := ⟨aw_in7 20 (by decide +kernel) rfl, aw_sel 70 (n := 54) (by decide +kernel)⟩
set_option maxRecDepth 100000 in
theorem mt_X10_rankLine : aw_mt yX10_rankLine cX10_rankLine 4 (some .boolean) 0 := ⟨aw_in1 11 (by decide +kernel) rfl, aw_in6 52 (by decide +kernel) rfl, by decide +kernel, by decide +kernel⟩
set_option maxRecDepth 100000 in
theorem mV_X10_rankLine : aw_mV yX10_rankLine := ⟨aw_in6 51 (by decide +kernel) rfl, aw_sel 40 (n := 54) (by decide +kernel)⟩
set_option maxRecDepth 100000 in
theorem mt_X10_reading : aw_mt yX10_reading cX10_reading 9 (some .int) 3 := ⟨aw_in1 11 (by decide +kernel) rfl, aw_in7 55 (by decide +kernel) rfl, by decide +kernel, by decide +kernel⟩
set_option maxRecDepth 100000 in
theorem mV_X10_reading : aw_mV yX10_reading := ⟨aw_in7 53 (by decide +kernel) rfl, aw_in7 54 (by decide +kernel) rfl⟩
set_option maxRecDepth 100000 in
theorem mt_X10_refuse : aw_mt yX10_refuse cX10_refuse 4 (some .int) 1 := ⟨aw_in1 11 (by decide +kernel) rfl, aw_in6 198 (by decide +kernel) rfl, by decide +kernel, by decide +kernel⟩
set_option maxRecDepth 100000 in
theorem mV_X10_refuse : aw_mV yX10_refuse := ⟨aw_in6 196 (by decide +kernel) rfl, aw_in6 197 (by decide +kernel) rfl⟩
set_option maxRecDepth 100000 in
theorem mt_X10_rings : aw_mt yX10_rings cX10_rings 6 (some .int) 0 := ⟨aw_in1 11 (by decide +kernel) rfl, aw_in7 79 (by decide +kernel) rfl, by decide +kernel, by decide +kernel⟩
set_option maxRecDepth 100000 in
theorem mV_X10_rings : aw_mV yX10_rings := ⟨aw_in7 77 (by decide +kernel) rfl, aw_in7 78 (by decide +kernel) rfl⟩
set_option maxRecDepth 100000 in
theorem mt_X10_room : aw_mt yX10_room cX10_room 2 (some .int) 1 := ⟨aw_in1 11 (by decide +kernel) rfl, aw_in6 167 (by decide +kernel) rfl, by decide +kernel, by decide +kernel⟩
set_option maxRecDepth 100000 in
theorem mV_X10_room : aw_mV yX10_room := ⟨aw_in6 166 (by decide +kernel) rfl, aw_sel 59 (n := 54) (by decide +kernel)⟩
set_option maxRecDepth 100000 in
theorem mt_X10_row : aw_mt yX10_row cX10_row 3 (some .int) 2 := ⟨aw_in1 11 (by decide +kernel) rfl, aw_in6 175 (by decide +kernel) rfl, by decide +kernel, by decide +kernel⟩
set_option maxRecDepth 100000 in
theorem mV_X10_row : aw_mV yX10_row := ⟨aw_in6 173 (by decide +kernel) rfl, aw_in6 174 (by decide +kernel) rfl⟩
set_option maxRecDepth 100000 in
theorem mt_X10_sets : aw_mt yX10_sets cX10_sets 4 (none : Option Jvm.ClassFile.FieldType) 3 := ⟨aw_in1 11 (by decide +kernel) rfl, aw_in6 128 (by decide +kernel) rfl, by decide +kernel, by decide +kernel⟩
set_option maxRecDepth 100000 in
theorem mV_X10_sets : aw_mV yX10_sets := ⟨aw_in6 127 (by decide +kernel) rfl, aw_sel 52 (n := 54) (by decide +kernel)⟩
set_option maxRecDepth 100000 in
theorem mt_X10_shortLine : aw_mt yX10_shortLine cX10_shortLine 2 (some .boolean) 0 := ⟨aw_in1 11 (by decide +kernel) rfl, aw_in6 84 (by decide +kernel) rfl, by decide +kernel, by decide +kernel⟩
set_option maxRecDepth 100000 in
theorem mV_X10_shortLine : aw_mV yX10_shortLine := ⟨aw_in6 83 (by decide +kernel) rfl, aw_sel 47 (n := 54) (by decide +kernel)⟩
set_option maxRecDepth 100000 in
theorem mt_X10_take : aw_mt yX10_take cX10_take 5 (some .int) 3 := ⟨aw_in1 11 (by decide +kernel) rfl, aw_in6 179 (by decide +kernel) rfl, by decide +kernel, by decide +kernel⟩
set_option maxRecDepth 100000 in
theorem mV_X10_take : aw_mV yX10_take := ⟨aw_in6 177 (by decide +kernel) rfl, aw_in6 178 (by decide +kernel) rfl⟩
set_option maxRecDepth 100000 in
theorem mt_X10_thumb : aw_mt yX10_thumb cX10_thumb 8 (some .int) 4 := ⟨aw_in1 11 (by decide +kernel) rfl, aw_in7 17 (by decide +kernel) rfl, by decide +kernel, by decide +kernel⟩
set_option maxRecDepth 100000 in
theorem mV_X10_thumb : aw_mV yX10_thumb := ⟨aw_in7 15 (by decide +kernel) rfl, aw_in7 16 (by decide +kernel) rfl⟩
set_option maxRecDepth 100000 in
theorem mt_X10_toLift : aw_mt yX10_toLift cX10_toLift 5 (some .int) 2 := ⟨aw_in1 11 (by decide +kernel) rfl, aw_in7 48 (by decide +kernel) rfl, by decide +kernel, by decide +kernel⟩
set_option maxRecDepth 100000 in
theorem mV_X10_toLift : aw_mV yX10_toLift := ⟨aw_in7 46 (by decide +kernel) rfl, aw_in7 47 (by decide +kernel) rfl⟩
set_option maxRecDepth 100000 in
theorem mt_X10_turn : aw_mt yX10_turn cX10_turn 5 (some .int) 0 := ⟨aw_in1 11 (by decide +kernel) rfl, aw_in7 87 (by decide +kernel) rfl, by decide +kernel, by decide +kernel⟩
set_option maxRecDepth 100000 in
theorem mV_X10_turn : aw_mV yX10_turn := ⟨aw_in7 85 (by decide +kernel) rfl, aw_in7 86 (by decide +kernel) rfl⟩
set_option maxRecDepth 100000 in
theorem mt_X10_wish : aw_mt yX10_wish cX10_wish 3 (some .boolean) 2 := ⟨aw_in1 11 (by decide +kernel) rfl, aw_in7 75 (by decide +kernel) rfl, by decide +kernel, by decide +kernel⟩
set_option maxRecDepth 100000 in
theorem mV_X10_wish : aw_mV yX10_wish := ⟨aw_in7 73 (by decide +kernel) rfl, aw_in7 74 (by decide +kernel) rfl⟩
set_option maxRecDepth 100000 in
theorem mt_X10_works : aw_mt yX10_works cX10_works 6 (none : Option Jvm.ClassFile.FieldType) 1 := ⟨aw_in1 11 (by decide +kernel) rfl, aw_in6 222 (by decide +kernel) rfl, by decide +kernel, by decide +kernel⟩
set_option maxRecDepth 100000 in
theorem mV_X10_works : aw_mV yX10_works := ⟨aw_in6 221 (by decide +kernel) rfl, aw_sel 63 (n := 54) (by decide +kernel)⟩
set_option maxRecDepth 100000 in
theorem mt_X10_worth : aw_mt yX10_worth cX10_worth 4 (some .int) 3 := ⟨aw_in1 11 (by decide +kernel) rfl, aw_in6 218 (by decide +kernel) rfl, by decide +kernel, by decide +kernel⟩
set_option maxRecDepth 100000 in
theorem mV_X10_worth : aw_mV yX10_worth := ⟨aw_in6 216 (by decide +kernel) rfl, aw_in6 217 (by decide +kernel) rfl⟩
set_option maxRecDepth 100000 in
theorem mt_X10_worthFrom : aw_mt yX10_worthFrom cX10_worthFrom 5 (some .long) 3 := ⟨aw_in1 11 (by decide +kernel) rfl, aw_in7 1 (by decide +kernel) rfl, by decide +kernel, by decide +kernel⟩
set_option maxRecDepth 100000 in
theorem mV_X10_worthFrom : aw_mV yX10_worthFrom := ⟨aw_in7 0 (by decide +kernel) rfl, aw_sel 67 (n := 54) (by decide +kernel)⟩
set_option maxRecDepth 100000 in
theorem mt_X10_worthOf : aw_mt yX10_worthOf cX10_worthOf 4 (some .long) 3 := ⟨aw_in1 11 (by decide +kernel) rfl, aw_in6 230 (by decide +kernel) rfl, by decide +kernel, by decide +kernel⟩
set_option maxRecDepth 100000 in
theorem mV_X10_worthOf : aw_mV yX10_worthOf := ⟨aw_in6 229 (by decide +kernel) rfl, aw_sel 65 (n := 54) (by decide +kernel)⟩
set_option maxRecDepth 100000 in
theorem mt_X1_init : aw_mt yX1_init cX1_init 1 (none : Option Jvm.ClassFile.FieldType) 0 := ⟨aw_in1 7 (by decide +kernel) rfl, aw_in2 69 (by decide +kernel) rfl, by decide +kernel, by decide +kernel⟩
set_option maxRecDepth 100000 in
theorem mI_X1_init : aw_mI yX1_init := ⟨rfl, aw_in2 68 (by decide +kernel) rfl⟩
set_option maxRecDepth 100000 in
theorem mt_X1_leastMinutes : aw_mt yX1_leastMinutes cX1_leastMinutes 9 (some .int) 1 := ⟨aw_in1 7 (by decide +kernel) rfl, aw_in4 135 (by decide +kernel) rfl, by decide +kernel, by decide +kernel⟩
set_option maxRecDepth 100000 in
theorem mV_X1_leastMinutes : aw_mV yX1_leastMinutes := ⟨aw_in4 133 (by decide +kernel) rfl, aw_in4 134 (by decide +kernel) rfl⟩
set_option maxRecDepth 100000 in
theorem mt_X1_moved : aw_mt yX1_moved cX1_moved 1 (some .int) 0 := ⟨aw_in1 7 (by decide +kernel) rfl, aw_in4 130 (by decide +kernel) rfl, by decide +kernel, by decide +kernel⟩
set_option maxRecDepth 100000 in
theorem mV_X1_moved : aw_mV yX1_moved := ⟨aw_in4 128 (by decide +kernel) rfl, aw_in4 129 (by decide +kernel) rfl⟩
set_option maxRecDepth 100000 in
theorem mt_X1_placesBelow : aw_mt yX1_placesBelow cX1_placesBelow 4 (some .int) 2 := ⟨aw_in1 7 (by decide +kernel) rfl, aw_in4 126 (by decide +kernel) rfl, by decide +kernel, by decide +kernel⟩
set_option maxRecDepth 100000 in
theorem mS_X1_placesBelow : aw_mS yX1_placesBelow := aw_in4 125 (by decide +kernel) rfl
set_option maxRecDepth 100000 in
theorem mt_X1_send : aw_mt yX1_send cX1_send 6 (none : Option Jvm.ClassFile.FieldType) 2 := ⟨aw_in1 7 (by decide +kernel) rfl, aw_in4 141 (by decide +kernel) rfl, by decide +kernel, by decide +kernel⟩
set_option maxRecDepth 100000 in
theorem mV_X1_send : aw_mV yX1_send := ⟨aw_in4 140 (by decide +kernel) rfl, aw_sel 24 (n := 6) (by decide +kernel)⟩
set_option maxRecDepth 100000 in
theorem mt_X1_weigh : aw_mt yX1_weigh cX1_weigh 4 (none : Option Jvm.ClassFile.FieldType) 2 := ⟨aw_in1 7 (by decide +kernel) rfl, aw_in4 120 (by decide +kernel) rfl, by decide +kernel, by decide +kernel⟩
set_option maxRecDepth 100000 in
theorem mV_X1_weigh : aw_mV yX1_weigh := ⟨aw_in4 118 (by decide +kernel) rfl, aw_in4 119 (by decide +kernel) rfl⟩
set_option maxRecDepth 100000 in
theorem mt_X2_becomeEmpty : aw_mt yX2_becomeEmpty cX2_becomeEmpty 2 (none : Option Jvm.ClassFile.FieldType) 1 := ⟨aw_in1 5 (by decide +kernel) rfl, aw_in3 167 (by decide +kernel) rfl, by decide +kernel, by decide +kernel⟩
set_option maxRecDepth 100000 in
theorem mV_X2_becomeEmpty : aw_mV yX2_becomeEmpty := ⟨aw_in3 165 (by decide +kernel) rfl, aw_in3 166 (by decide +kernel) rfl⟩
set_option maxRecDepth 100000 in
theorem mt_X2_begin : aw_mt yX2_begin cX2_begin 3 (none : Option Jvm.ClassFile.FieldType) 2 := ⟨aw_in1 5 (by decide +kernel) rfl, aw_in3 163 (by decide +kernel) rfl, by decide +kernel, by decide +kernel⟩
set_option maxRecDepth 100000 in
theorem mV_X2_begin : aw_mV yX2_begin := ⟨aw_in3 161 (by decide +kernel) rfl, aw_in3 162 (by decide +kernel) rfl⟩
set_option maxRecDepth 100000 in
theorem mt_X2_copyFrom : aw_mt yX2_copyFrom cX2_copyFrom 2 (none : Option Jvm.ClassFile.FieldType) 1 := ⟨aw_in1 5 (by decide +kernel) rfl, aw_in5 64 (by decide +kernel) rfl, by decide +kernel, by decide +kernel⟩
set_option maxRecDepth 100000 in
theorem mV_X2_copyFrom : aw_mV yX2_copyFrom := ⟨aw_in5 62 (by decide +kernel) rfl, aw_in5 63 (by decide +kernel) rfl⟩
set_option maxRecDepth 100000 in
theorem mt_X2_init : aw_mt yX2_init cX2_init 1 (none : Option Jvm.ClassFile.FieldType) 0 := ⟨aw_in1 5 (by decide +kernel) rfl, aw_in1 176 (by decide +kernel) rfl, by decide +kernel, by decide +kernel⟩
set_option maxRecDepth 100000 in
theorem mI_X2_init : aw_mI yX2_init := ⟨rfl, aw_in1 175 (by decide +kernel) rfl⟩
set_option maxRecDepth 100000 in
theorem mt_X2_seenPlace : aw_mt yX2_seenPlace cX2_seenPlace 1 (some .int) 0 := ⟨aw_in1 5 (by decide +kernel) rfl, aw_in3 180 (by decide +kernel) rfl, by decide +kernel, by decide +kernel⟩
set_option maxRecDepth 100000 in
theorem mV_X2_seenPlace : aw_mV yX2_seenPlace := ⟨aw_in3 178 (by decide +kernel) rfl, aw_in3 179 (by decide +kernel) rfl⟩
set_option maxRecDepth 100000 in
theorem mt_X3_begun : aw_mt yX3_begun cX3_begun 2 (some .int) 2 := ⟨aw_in1 3 (by decide +kernel) rfl, aw_in3 148 (by decide +kernel) rfl, by decide +kernel, by decide +kernel⟩
set_option maxRecDepth 100000 in
theorem mS_X3_begun : aw_mS yX3_begun := aw_in3 147 (by decide +kernel) rfl
set_option maxRecDepth 100000 in
theorem mt_X3_clear : aw_mt yX3_clear cX3_clear 1 (none : Option Jvm.ClassFile.FieldType) 0 := ⟨aw_in1 3 (by decide +kernel) rfl, aw_in2 218 (by decide +kernel) rfl, by decide +kernel, by decide +kernel⟩
set_option maxRecDepth 100000 in
theorem mV_X3_clear : aw_mV yX3_clear := ⟨aw_in2 216 (by decide +kernel) rfl, aw_in2 217 (by decide +kernel) rfl⟩
set_option maxRecDepth 100000 in
theorem mt_X3_init : aw_mt yX3_init cX3_init 1 (none : Option Jvm.ClassFile.FieldType) 0 := ⟨aw_in1 3 (by decide +kernel) rfl, aw_in1 38 (by decide +kernel) rfl, by decide +kernel, by decide +kernel⟩
set_option maxRecDepth 100000 in
theorem mI_X3_init : aw_mI yX3_init := ⟨rfl, aw_in1 37 (by decide +kernel) rfl⟩
set_option maxRecDepth 100000 in
theorem mt_X3_letsStand : aw_mt yX3_letsStand cX3_letsStand 5 (some .boolean) 3 := ⟨aw_in1 3 (by decide +kernel) rfl, aw_in3 133 (by decide +kernel) rfl, by decide +kernel, by decide +kernel⟩
set_option maxRecDepth 100000 in
theorem mV_X3_letsStand : aw_mV yX3_letsStand := ⟨aw_in3 131 (by decide +kernel) rfl, aw_in3 132 (by decide +kernel) rfl⟩
set_option maxRecDepth 100000 in
theorem mt_X3_minutesTo : aw_mt yX3_minutesTo cX3_minutesTo 3 (some .int) 2 := ⟨aw_in1 3 (by decide +kernel) rfl, aw_in3 201 (by decide +kernel) rfl, by decide +kernel, by decide +kernel⟩
set_option maxRecDepth 100000 in
theorem mV_X3_minutesTo : aw_mV yX3_minutesTo := ⟨aw_in3 199 (by decide +kernel) rfl, aw_in3 200 (by decide +kernel) rfl⟩
set_option maxRecDepth 100000 in
theorem mt_X3_priceOf : aw_mt yX3_priceOf cX3_priceOf 3 (some .int) 2 := ⟨aw_in1 3 (by decide +kernel) rfl, aw_in3 145 (by decide +kernel) rfl, by decide +kernel, by decide +kernel⟩
set_option maxRecDepth 100000 in
theorem mV_X3_priceOf : aw_mV yX3_priceOf := ⟨aw_in3 143 (by decide +kernel) rfl, aw_in3 144 (by decide +kernel) rfl⟩
set_option maxRecDepth 100000 in
theorem mt_X3_room : aw_mt yX3_room cX3_room 2 (some .int) 1 := ⟨aw_in1 3 (by decide +kernel) rfl, aw_in3 215 (by decide +kernel) rfl, by decide +kernel, by decide +kernel⟩
set_option maxRecDepth 100000 in
theorem mV_X3_room : aw_mV yX3_room := ⟨aw_in3 213 (by decide +kernel) rfl, aw_in3 214 (by decide +kernel) rfl⟩
set_option maxRecDepth 100000 in
theorem mt_X3_roundUp : aw_mt yX3_roundUp cX3_roundUp 2 (some .int) 2 := ⟨aw_in1 3 (by decide +kernel) rfl, aw_in3 151 (by decide +kernel) rfl, by decide +kernel, by decide +kernel⟩
set_option maxRecDepth 100000 in
theorem mS_X3_roundUp : aw_mS yX3_roundUp := aw_in3 150 (by decide +kernel) rfl
set_option maxRecDepth 100000 in
theorem mt_X3_saying : aw_mt yX3_saying cX3_saying 5 (some .int) 2 := ⟨aw_in1 3 (by decide +kernel) rfl, aw_in3 128 (by decide +kernel) rfl, by decide +kernel, by decide +kernel⟩
set_option maxRecDepth 100000 in
theorem mV_X3_saying : aw_mV yX3_saying := ⟨aw_in3 126 (by decide +kernel) rfl, aw_in3 127 (by decide +kernel) rfl⟩
set_option maxRecDepth 100000 in
theorem mt_X4_append : aw_mt yX4_append cX4_append 3 (none : Option Jvm.ClassFile.FieldType) 1 := ⟨aw_in1 2 (by decide +kernel) rfl, aw_in2 199 (by decide +kernel) rfl, by decide +kernel, by decide +kernel⟩
set_option maxRecDepth 100000 in
theorem mV_X4_append : aw_mV yX4_append := ⟨aw_in2 197 (by decide +kernel) rfl, aw_in2 198 (by decide +kernel) rfl⟩
set_option maxRecDepth 100000 in
theorem mt_X4_faultPlace : aw_mt yX4_faultPlace cX4_faultPlace 2 (some .int) 0 := ⟨aw_in1 2 (by decide +kernel) rfl, aw_in2 214 (by decide +kernel) rfl, by decide +kernel, by decide +kernel⟩
set_option maxRecDepth 100000 in
theorem mV_X4_faultPlace : aw_mV yX4_faultPlace := ⟨aw_in2 212 (by decide +kernel) rfl, aw_in2 213 (by decide +kernel) rfl⟩
set_option maxRecDepth 100000 in
theorem mt_X4_init : aw_mt yX4_init cX4_init 1 (none : Option Jvm.ClassFile.FieldType) 0 := ⟨aw_in1 2 (by decide +kernel) rfl, aw_in1 32 (by decide +kernel) rfl, by decide +kernel, by decide +kernel⟩
set_option maxRecDepth 100000 in
theorem mI_X4_init : aw_mI yX4_init := ⟨rfl, aw_in1 31 (by decide +kernel) rfl⟩
set_option maxRecDepth 100000 in
theorem mt_X4_isName : aw_mt yX4_isName cX4_isName 1 (some .boolean) 0 := ⟨aw_in1 2 (by decide +kernel) rfl, aw_in3 53 (by decide +kernel) rfl, by decide +kernel, by decide +kernel⟩
set_option maxRecDepth 100000 in
theorem mV_X4_isName : aw_mV yX4_isName := ⟨aw_in3 52 (by decide +kernel) rfl, aw_sel 4 (n := 12) (by decide +kernel)⟩
set_option maxRecDepth 100000 in
theorem mt_X4_isSameAsAt : aw_mt yX4_isSameAsAt cX4_isSameAsAt 3 (some .boolean) 1 := ⟨aw_in1 2 (by decide +kernel) rfl, aw_in3 65 (by decide +kernel) rfl, by decide +kernel, by decide +kernel⟩
set_option maxRecDepth 100000 in
theorem mV_X4_isSameAsAt : aw_mV yX4_isSameAsAt := ⟨aw_in3 64 (by decide +kernel) rfl, aw_sel 6 (n := 12) (by decide +kernel)⟩
set_option maxRecDepth 100000 in
theorem mt_X4_isWord : aw_mt yX4_isWord cX4_isWord 3 (some .boolean) 1 := ⟨aw_in1 2 (by decide +kernel) rfl, aw_in2 237 (by decide +kernel) rfl, by decide +kernel, by decide +kernel⟩
set_option maxRecDepth 100000 in
theorem mV_X4_isWord : aw_mV yX4_isWord := ⟨aw_in2 236 (by decide +kernel) rfl, aw_sel 2 (n := 12) (by decide +kernel)⟩
set_option maxRecDepth 100000 in
theorem mt_X4_kindOf : aw_mt yX4_kindOf cX4_kindOf 1 (some .int) 1 := ⟨aw_in1 2 (by decide +kernel) rfl, aw_in2 228 (by decide +kernel) rfl, by decide +kernel, by decide +kernel⟩
set_option maxRecDepth 100000 in
theorem mS_X4_kindOf : aw_mS yX4_kindOf := aw_in2 227 (by decide +kernel) rfl
set_option maxRecDepth 100000 in
theorem mt_X4_placeTold : aw_mt yX4_placeTold cX4_placeTold 3 (some .boolean) 1 := ⟨aw_in1 2 (by decide +kernel) rfl, aw_in3 78 (by decide +kernel) rfl, by decide +kernel, by decide +kernel⟩
set_option maxRecDepth 100000 in
theorem mV_X4_placeTold : aw_mV yX4_placeTold := ⟨aw_in3 77 (by decide +kernel) rfl, aw_sel 8 (n := 12) (by decide +kernel)⟩
set_option maxRecDepth 100000 in
theorem mt_X4_rankNamed : aw_mt yX4_rankNamed cX4_rankNamed 2 (some .int) 0 := ⟨aw_in1 2 (by decide +kernel) rfl, aw_in3 61 (by decide +kernel) rfl, by decide +kernel, by decide +kernel⟩
set_option maxRecDepth 100000 in
theorem mV_X4_rankNamed : aw_mV yX4_rankNamed := ⟨aw_in3 60 (by decide +kernel) rfl, aw_sel 5 (n := 12) (by decide +kernel)⟩
set_option maxRecDepth 100000 in
theorem mt_X4_readCoin : aw_mt yX4_readCoin cX4_readCoin 1 (some .boolean) 0 := ⟨aw_in1 2 (by decide +kernel) rfl, aw_in3 98 (by decide +kernel) rfl, by decide +kernel, by decide +kernel⟩
set_option maxRecDepth 100000 in
theorem mV_X4_readCoin : aw_mV yX4_readCoin := ⟨aw_in3 97 (by decide +kernel) rfl, aw_sel 13 (n := 12) (by decide +kernel)⟩
set_option maxRecDepth 100000 in
theorem mt_X4_readFare : aw_mt yX4_readFare cX4_readFare 1 (some .boolean) 0 := ⟨aw_in1 2 (by decide +kernel) rfl, aw_in3 90 (by decide +kernel) rfl, by decide +kernel, by decide +kernel⟩
set_option maxRecDepth 100000 in
theorem mV_X4_readFare : aw_mV yX4_readFare := ⟨aw_in3 89 (by decide +kernel) rfl, aw_sel 11 (n := 12) (by decide +kernel)⟩
set_option maxRecDepth 100000 in
theorem mt_X4_readLet : aw_mt yX4_readLet cX4_readLet 3 (some .boolean) 0 := ⟨aw_in1 2 (by decide +kernel) rfl, aw_in3 86 (by decide +kernel) rfl, by decide +kernel, by decide +kernel⟩
set_option maxRecDepth 100000 in
theorem mV_X4_readLet : aw_mV yX4_readLet := ⟨aw_in3 85 (by decide +kernel) rfl, aw_sel 10 (n := 12) (by decide +kernel)⟩
set_option maxRecDepth 100000 in
theorem mt_X4_readNumberWithin : aw_mt yX4_readNumberWithin cX4_readNumberWithin 4 (some .boolean) 2 := ⟨aw_in1 2 (by decide +kernel) rfl, aw_in3 69 (by decide +kernel) rfl, by decide +kernel, by decide +kernel⟩
set_option maxRecDepth 100000 in
theorem mV_X4_readNumberWithin : aw_mV yX4_readNumberWithin := ⟨aw_in3 68 (by decide +kernel) rfl, aw_sel 7 (n := 12) (by decide +kernel)⟩
set_option maxRecDepth 100000 in
theorem mt_X4_readRank : aw_mt yX4_readRank cX4_readRank 2 (some .boolean) 0 := ⟨aw_in1 2 (by decide +kernel) rfl, aw_in3 49 (by decide +kernel) rfl, by decide +kernel, by decide +kernel⟩
set_option maxRecDepth 100000 in
theorem mV_X4_readRank : aw_mV yX4_readRank := ⟨aw_in3 48 (by decide +kernel) rfl, aw_sel 3 (n := 12) (by decide +kernel)⟩
set_option maxRecDepth 100000 in
theorem mt_X4_readShort : aw_mt yX4_readShort cX4_readShort 1 (some .boolean) 0 := ⟨aw_in1 2 (by decide +kernel) rfl, aw_in3 94 (by decide +kernel) rfl, by decide +kernel, by decide +kernel⟩
set_option maxRecDepth 100000 in
theorem mV_X4_readShort : aw_mV yX4_readShort := ⟨aw_in3 93 (by decide +kernel) rfl, aw_sel 12 (n := 12) (by decide +kernel)⟩
set_option maxRecDepth 100000 in
theorem mt_X4_readStatement : aw_mt yX4_readStatement cX4_readStatement 1 (some .boolean) 0 := ⟨aw_in1 2 (by decide +kernel) rfl, aw_in2 232 (by decide +kernel) rfl, by decide +kernel, by decide +kernel⟩
set_option maxRecDepth 100000 in
theorem mV_X4_readStatement : aw_mV yX4_readStatement := ⟨aw_in2 231 (by decide +kernel) rfl, aw_sel 1 (n := 12) (by decide +kernel)⟩
set_option maxRecDepth 100000 in
theorem mt_X4_readStop : aw_mt yX4_readStop cX4_readStop 1 (some .boolean) 0 := ⟨aw_in1 2 (by decide +kernel) rfl, aw_in3 82 (by decide +kernel) rfl, by decide +kernel, by decide +kernel⟩
set_option maxRecDepth 100000 in
theorem mV_X4_readStop : aw_mV yX4_readStop := ⟨aw_in3 81 (by decide +kernel) rfl, aw_sel 9 (n := 12) (by decide +kernel)⟩
set_option maxRecDepth 100000 in
theorem mt_X4_readToken : aw_mt yX4_readToken cX4_readToken 1 (none : Option Jvm.ClassFile.FieldType) 0 := ⟨aw_in1 2 (by decide +kernel) rfl, aw_in2 225 (by decide +kernel) rfl, by decide +kernel, by decide +kernel⟩
set_option maxRecDepth 100000 in
theorem mV_X4_readToken : aw_mV yX4_readToken := ⟨aw_in2 224 (by decide +kernel) rfl, aw_sel 0 (n := 12) (by decide +kernel)⟩
set_option maxRecDepth 100000 in
theorem mt_X5_addCab : aw_mt yX5_addCab cX5_addCab 3 (some .int) 2 := ⟨aw_in1 4 (by decide +kernel) rfl, aw_in3 159 (by decide +kernel) rfl, by decide +kernel, by decide +kernel⟩
set_option maxRecDepth 100000 in
theorem mV_X5_addCab : aw_mV yX5_addCab := ⟨aw_in3 157 (by decide +kernel) rfl, aw_in3 158 (by decide +kernel) rfl⟩
set_option maxRecDepth 100000 in
theorem mt_X5_behindTickets : aw_mt yX5_behindTickets cX5_behindTickets 3 (some .int) 1 := ⟨aw_in1 4 (by decide +kernel) rfl, aw_in3 219 (by decide +kernel) rfl, by decide +kernel, by decide +kernel⟩
set_option maxRecDepth 100000 in
theorem mV_X5_behindTickets : aw_mV yX5_behindTickets := ⟨aw_in3 218 (by decide +kernel) rfl, aw_sel 17 (n := 8) (by decide +kernel)⟩
set_option maxRecDepth 100000 in
theorem mt_X5_clear : aw_mt yX5_clear cX5_clear 1 (none : Option Jvm.ClassFile.FieldType) 0 := ⟨aw_in1 4 (by decide +kernel) rfl, aw_in3 106 (by decide +kernel) rfl, by decide +kernel, by decide +kernel⟩
set_option maxRecDepth 100000 in
theorem mV_X5_clear : aw_mV yX5_clear := ⟨aw_in3 104 (by decide +kernel) rfl, aw_in3 105 (by decide +kernel) rfl⟩
set_option maxRecDepth 100000 in
theorem mt_X5_come : aw_mt yX5_come cX5_come 3 (none : Option Jvm.ClassFile.FieldType) 2 := ⟨aw_in1 4 (by decide +kernel) rfl, aw_in4 40 (by decide +kernel) rfl, by decide +kernel, by decide +kernel⟩
set_option maxRecDepth 100000 in
theorem mV_X5_come : aw_mV yX5_come := ⟨aw_in4 39 (by decide +kernel) rfl, aw_sel 18 (n := 8) (by decide +kernel)⟩
set_option maxRecDepth 100000 in
theorem mt_X5_comeToRank : aw_mt yX5_comeToRank cX5_comeToRank 8 (none : Option Jvm.ClassFile.FieldType) 2 := ⟨aw_in1 4 (by decide +kernel) rfl, aw_in3 208 (by decide +kernel) rfl, by decide +kernel, by decide +kernel⟩
set_option maxRecDepth 100000 in
theorem mV_X5_comeToRank : aw_mV yX5_comeToRank := ⟨aw_in3 207 (by decide +kernel) rfl, aw_sel 16 (n := 8) (by decide +kernel)⟩
set_option maxRecDepth 100000 in
theorem mt_X5_copyFrom : aw_mt yX5_copyFrom cX5_copyFrom 3 (none : Option Jvm.ClassFile.FieldType) 1 := ⟨aw_in1 4 (by decide +kernel) rfl, aw_in5 60 (by decide +kernel) rfl, by decide +kernel, by decide +kernel⟩
set_option maxRecDepth 100000 in
theorem mV_X5_copyFrom : aw_mV yX5_copyFrom := ⟨aw_in5 58 (by decide +kernel) rfl, aw_in5 59 (by decide +kernel) rfl⟩
set_option maxRecDepth 100000 in
theorem mt_X5_has : aw_mt yX5_has cX5_has 2 (some .boolean) 1 := ⟨aw_in1 4 (by decide +kernel) rfl, aw_in3 175 (by decide +kernel) rfl, by decide +kernel, by decide +kernel⟩
set_option maxRecDepth 100000 in
theorem mV_X5_has : aw_mV yX5_has := ⟨aw_in3 173 (by decide +kernel) rfl, aw_in3 174 (by decide +kernel) rfl⟩
set_option maxRecDepth 100000 in
theorem mt_X5_hasStanding : aw_mt yX5_hasStanding cX5_hasStanding 2 (some .boolean) 1 := ⟨aw_in1 4 (by decide +kernel) rfl, aw_in3 188 (by decide +kernel) rfl, by decide +kernel, by decide +kernel⟩
set_option maxRecDepth 100000 in
theorem mV_X5_hasStanding : aw_mV yX5_hasStanding := ⟨aw_in3 186 (by decide +kernel) rfl, aw_in3 187 (by decide +kernel) rfl⟩
set_option maxRecDepth 100000 in
theorem mt_X5_inState : aw_mt yX5_inState cX5_inState 4 (some .int) 1 := ⟨aw_in1 4 (by decide +kernel) rfl, aw_in5 76 (by decide +kernel) rfl, by decide +kernel, by decide +kernel⟩
set_option maxRecDepth 100000 in
theorem mV_X5_inState : aw_mV yX5_inState := ⟨aw_in5 74 (by decide +kernel) rfl, aw_in5 75 (by decide +kernel) rfl⟩
set_option maxRecDepth 100000 in
theorem mt_X5_init : aw_mt yX5_init cX5_init 2 (none : Option Jvm.ClassFile.FieldType) 0 := ⟨aw_in1 4 (by decide +kernel) rfl, aw_in1 167 (by decide +kernel) rfl, by decide +kernel, by decide +kernel⟩
set_option maxRecDepth 100000 in
theorem mI_X5_init : aw_mI yX5_init := ⟨rfl, aw_in1 166 (by decide +kernel) rfl⟩
set_option maxRecDepth 100000 in
theorem mt_X5_leaveRow : aw_mt yX5_leaveRow cX5_leaveRow 4 (none : Option Jvm.ClassFile.FieldType) 1 := ⟨aw_in1 4 (by decide +kernel) rfl, aw_in4 9 (by decide +kernel) rfl, by decide +kernel, by decide +kernel⟩
set_option maxRecDepth 100000 in
theorem mV_X5_leaveRow : aw_mV yX5_leaveRow := ⟨aw_in4 7 (by decide +kernel) rfl, aw_in4 8 (by decide +kernel) rfl⟩
set_option maxRecDepth 100000 in
theorem mt_X5_passMinute : aw_mt yX5_passMinute cX5_passMinute 3 (none : Option Jvm.ClassFile.FieldType) 1 := ⟨aw_in1 4 (by decide +kernel) rfl, aw_in4 36 (by decide +kernel) rfl, by decide +kernel, by decide +kernel⟩
set_option maxRecDepth 100000 in
theorem mV_X5_passMinute : aw_mV yX5_passMinute := ⟨aw_in4 34 (by decide +kernel) rfl, aw_in4 35 (by decide +kernel) rfl⟩
set_option maxRecDepth 100000 in
theorem mt_X5_placeInRow : aw_mt yX5_placeInRow cX5_placeInRow 4 (some .int) 1 := ⟨aw_in1 4 (by decide +kernel) rfl, aw_in3 184 (by decide +kernel) rfl, by decide +kernel, by decide +kernel⟩
set_option maxRecDepth 100000 in
theorem mV_X5_placeInRow : aw_mV yX5_placeInRow := ⟨aw_in3 182 (by decide +kernel) rfl, aw_in3 183 (by decide +kernel) rfl⟩
set_option maxRecDepth 100000 in
theorem mt_X5_putInRow : aw_mt yX5_putInRow cX5_putInRow 5 (none : Option Jvm.ClassFile.FieldType) 3 := ⟨aw_in1 4 (by decide +kernel) rfl, aw_in3 223 (by decide +kernel) rfl, by decide +kernel, by decide +kernel⟩
set_option maxRecDepth 100000 in
theorem mV_X5_putInRow : aw_mV yX5_putInRow := ⟨aw_in3 221 (by decide +kernel) rfl, aw_in3 222 (by decide +kernel) rfl⟩
set_option maxRecDepth 100000 in
theorem mt_X5_serve : aw_mt yX5_serve cX5_serve 6 (none : Option Jvm.ClassFile.FieldType) 4 := ⟨aw_in1 4 (by decide +kernel) rfl, aw_in4 5 (by decide +kernel) rfl, by decide +kernel, by decide +kernel⟩
set_option maxRecDepth 100000 in
theorem mV_X5_serve : aw_mV yX5_serve := ⟨aw_in4 3 (by decide +kernel) rfl, aw_in4 4 (by decide +kernel) rfl⟩
set_option maxRecDepth 100000 in
theorem mt_X5_setOff : aw_mt yX5_setOff cX5_setOff 5 (none : Option Jvm.ClassFile.FieldType) 3 := ⟨aw_in1 4 (by decide +kernel) rfl, aw_in3 197 (by decide +kernel) rfl, by decide +kernel, by decide +kernel⟩
set_option maxRecDepth 100000 in
theorem mV_X5_setOff : aw_mV yX5_setOff := ⟨aw_in3 195 (by decide +kernel) rfl, aw_in3 196 (by decide +kernel) rfl⟩
set_option maxRecDepth 100000 in
theorem mt_X5_takeFreePlace : aw_mt yX5_takeFreePlace cX5_takeFreePlace 6 (none : Option Jvm.ClassFile.FieldType) 2 := ⟨aw_in1 4 (by decide +kernel) rfl, aw_in5 45 (by decide +kernel) rfl, by decide +kernel, by decide +kernel⟩
set_option maxRecDepth 100000 in
theorem mV_X5_takeFreePlace : aw_mV yX5_takeFreePlace := ⟨aw_in5 44 (by decide +kernel) rfl, aw_sel 36 (n := 8) (by decide +kernel)⟩
set_option maxRecDepth 100000 in
theorem mt_X5_tell : aw_mt yX5_tell cX5_tell 5 (none : Option Jvm.ClassFile.FieldType) 3 := ⟨aw_in1 4 (by decide +kernel) rfl, aw_in3 227 (by decide +kernel) rfl, by decide +kernel, by decide +kernel⟩
set_option maxRecDepth 100000 in
theorem mV_X5_tell : aw_mV yX5_tell := ⟨aw_in3 225 (by decide +kernel) rfl, aw_in3 226 (by decide +kernel) rfl⟩
set_option maxRecDepth 100000 in
theorem mt_X5_turnRing : aw_mt yX5_turnRing cX5_turnRing 5 (none : Option Jvm.ClassFile.FieldType) 2 := ⟨aw_in1 4 (by decide +kernel) rfl, aw_in5 41 (by decide +kernel) rfl, by decide +kernel, by decide +kernel⟩
set_option maxRecDepth 100000 in
theorem mV_X5_turnRing : aw_mV yX5_turnRing := ⟨aw_in5 39 (by decide +kernel) rfl, aw_in5 40 (by decide +kernel) rfl⟩
set_option maxRecDepth 100000 in
theorem mt_X6_deadWay : aw_mt yX6_deadWay cX6_deadWay 6 (some .int) 3 := ⟨aw_in1 8 (by decide +kernel) rfl, aw_in4 156 (by decide +kernel) rfl, by decide +kernel, by decide +kernel⟩
set_option maxRecDepth 100000 in
theorem mV_X6_deadWay : aw_mV yX6_deadWay := ⟨aw_in4 154 (by decide +kernel) rfl, aw_in4 155 (by decide +kernel) rfl⟩
set_option maxRecDepth 100000 in
theorem mt_X6_fewestLifted : aw_mt yX6_fewestLifted cX6_fewestLifted 8 (some .int) 3 := ⟨aw_in1 8 (by decide +kernel) rfl, aw_in4 171 (by decide +kernel) rfl, by decide +kernel, by decide +kernel⟩
set_option maxRecDepth 100000 in
theorem mV_X6_fewestLifted : aw_mV yX6_fewestLifted := ⟨aw_in4 169 (by decide +kernel) rfl, aw_in4 170 (by decide +kernel) rfl⟩
set_option maxRecDepth 100000 in
theorem mt_X6_init : aw_mt yX6_init cX6_init 1 (none : Option Jvm.ClassFile.FieldType) 0 := ⟨aw_in1 8 (by decide +kernel) rfl, aw_in2 94 (by decide +kernel) rfl, by decide +kernel, by decide +kernel⟩
set_option maxRecDepth 100000 in
theorem mI_X6_init : aw_mI yX6_init := ⟨rfl, aw_in2 93 (by decide +kernel) rfl⟩
set_option maxRecDepth 100000 in
theorem mt_X6_prepare : aw_mt yX6_prepare cX6_prepare 4 (none : Option Jvm.ClassFile.FieldType) 2 := ⟨aw_in1 8 (by decide +kernel) rfl, aw_in4 151 (by decide +kernel) rfl, by decide +kernel, by decide +kernel⟩
set_option maxRecDepth 100000 in
theorem mV_X6_prepare : aw_mV yX6_prepare := ⟨aw_in4 149 (by decide +kernel) rfl, aw_in4 150 (by decide +kernel) rfl⟩
set_option maxRecDepth 100000 in
theorem mt_X6_wayHome : aw_mt yX6_wayHome cX6_wayHome 6 (some .int) 3 := ⟨aw_in1 8 (by decide +kernel) rfl, aw_in4 160 (by decide +kernel) rfl, by decide +kernel, by decide +kernel⟩
set_option maxRecDepth 100000 in
theorem mV_X6_wayHome : aw_mV yX6_wayHome := ⟨aw_in4 159 (by decide +kernel) rfl, aw_sel 25 (n := 1) (by decide +kernel)⟩
set_option maxRecDepth 100000 in
theorem mt_X7_findWays : aw_mt yX7_findWays cX7_findWays 7 (none : Option Jvm.ClassFile.FieldType) 3 := ⟨aw_in1 10 (by decide +kernel) rfl, aw_in5 11 (by decide +kernel) rfl, by decide +kernel, by decide +kernel⟩
set_option maxRecDepth 100000 in
theorem mV_X7_findWays : aw_mV yX7_findWays := ⟨aw_in5 10 (by decide +kernel) rfl, aw_sel 31 (n := 3) (by decide +kernel)⟩
set_option maxRecDepth 100000 in
theorem mt_X7_follow : aw_mt yX7_follow cX7_follow 6 (some .boolean) 2 := ⟨aw_in1 10 (by decide +kernel) rfl, aw_in5 17 (by decide +kernel) rfl, by decide +kernel, by decide +kernel⟩
set_option maxRecDepth 100000 in
theorem mV_X7_follow : aw_mV yX7_follow := ⟨aw_in5 16 (by decide +kernel) rfl, aw_sel 32 (n := 3) (by decide +kernel)⟩
set_option maxRecDepth 100000 in
theorem mt_X7_greatest : aw_mt yX7_greatest cX7_greatest 3 (some .int) 1 := ⟨aw_in1 10 (by decide +kernel) rfl, aw_in5 0 (by decide +kernel) rfl, by decide +kernel, by decide +kernel⟩
set_option maxRecDepth 100000 in
theorem mV_X7_greatest : aw_mV yX7_greatest := ⟨aw_in4 238 (by decide +kernel) rfl, aw_in4 239 (by decide +kernel) rfl⟩
set_option maxRecDepth 100000 in
theorem mt_X7_head : aw_mt yX7_head cX7_head 3 (some .int) 2 := ⟨aw_in1 10 (by decide +kernel) rfl, aw_in5 29 (by decide +kernel) rfl, by decide +kernel, by decide +kernel⟩
set_option maxRecDepth 100000 in
theorem mV_X7_head : aw_mV yX7_head := ⟨aw_in5 28 (by decide +kernel) rfl, aw_sel 35 (n := 3) (by decide +kernel)⟩
set_option maxRecDepth 100000 in
theorem mt_X7_init : aw_mt yX7_init cX7_init 1 (none : Option Jvm.ClassFile.FieldType) 0 := ⟨aw_in1 10 (by decide +kernel) rfl, aw_in2 149 (by decide +kernel) rfl, by decide +kernel, by decide +kernel⟩
set_option maxRecDepth 100000 in
theorem mI_X7_init : aw_mI yX7_init := ⟨rfl, aw_in2 148 (by decide +kernel) rfl⟩
set_option maxRecDepth 100000 in
theorem mt_X7_isChosen : aw_mt yX7_isChosen cX7_isChosen 2 (some .boolean) 1 := ⟨aw_in1 10 (by decide +kernel) rfl, aw_in5 25 (by decide +kernel) rfl, by decide +kernel, by decide +kernel⟩
set_option maxRecDepth 100000 in
theorem mV_X7_isChosen : aw_mV yX7_isChosen := ⟨aw_in5 24 (by decide +kernel) rfl, aw_sel 34 (n := 3) (by decide +kernel)⟩
set_option maxRecDepth 100000 in
theorem mt_X7_offer : aw_mt yX7_offer cX7_offer 8 (none : Option Jvm.ClassFile.FieldType) 2 := ⟨aw_in1 10 (by decide +kernel) rfl, aw_in5 7 (by decide +kernel) rfl, by decide +kernel, by decide +kernel⟩
set_option maxRecDepth 100000 in
theorem mV_X7_offer : aw_mV yX7_offer := ⟨aw_in5 6 (by decide +kernel) rfl, aw_sel 30 (n := 3) (by decide +kernel)⟩
set_option maxRecDepth 100000 in
theorem mt_X7_tail : aw_mt yX7_tail cX7_tail 3 (some .int) 2 := ⟨aw_in1 10 (by decide +kernel) rfl, aw_in5 21 (by decide +kernel) rfl, by decide +kernel, by decide +kernel⟩
set_option maxRecDepth 100000 in
theorem mV_X7_tail : aw_mV yX7_tail := ⟨aw_in5 20 (by decide +kernel) rfl, aw_sel 33 (n := 3) (by decide +kernel)⟩
set_option maxRecDepth 100000 in
theorem mt_X7_wishes : aw_mt yX7_wishes cX7_wishes 2 (some .boolean) 2 := ⟨aw_in1 10 (by decide +kernel) rfl, aw_in5 3 (by decide +kernel) rfl, by decide +kernel, by decide +kernel⟩
set_option maxRecDepth 100000 in
theorem mS_X7_wishes : aw_mS yX7_wishes := aw_in5 2 (by decide +kernel) rfl
set_option maxRecDepth 100000 in
theorem mt_X7_worthOf : aw_mt yX7_worthOf cX7_worthOf 1 (some .int) 1 := ⟨aw_in1 10 (by decide +kernel) rfl, aw_in5 32 (by decide +kernel) rfl, by decide +kernel, by decide +kernel⟩
set_option maxRecDepth 100000 in
theorem mS_X7_worthOf : aw_mS yX7_worthOf := aw_in5 31 (by decide +kernel) rfl
set_option maxRecDepth 100000 in
theorem mt_X8_at : aw_mt yX8_at cX8_at 4 (some .int) 3 := ⟨aw_in1 6 (by decide +kernel) rfl, aw_in4 78 (by decide +kernel) rfl, by decide +kernel, by decide +kernel⟩
set_option maxRecDepth 100000 in
theorem mV_X8_at : aw_mV yX8_at := ⟨aw_in4 76 (by decide +kernel) rfl, aw_in4 77 (by decide +kernel) rfl⟩
set_option maxRecDepth 100000 in
theorem mt_X8_bestRank : aw_mt yX8_bestRank cX8_bestRank 8 (some .int) 3 := ⟨aw_in1 6 (by decide +kernel) rfl, aw_in4 73 (by decide +kernel) rfl, by decide +kernel, by decide +kernel⟩
set_option maxRecDepth 100000 in
theorem mV_X8_bestRank : aw_mV yX8_bestRank := ⟨aw_in4 71 (by decide +kernel) rfl, aw_in4 72 (by decide +kernel) rfl⟩
set_option maxRecDepth 100000 in
theorem mt_X8_clear : aw_mt yX8_clear cX8_clear 1 (none : Option Jvm.ClassFile.FieldType) 0 := ⟨aw_in1 6 (by decide +kernel) rfl, aw_in3 111 (by decide +kernel) rfl, by decide +kernel, by decide +kernel⟩
set_option maxRecDepth 100000 in
theorem mV_X8_clear : aw_mV yX8_clear := ⟨aw_in3 109 (by decide +kernel) rfl, aw_in3 110 (by decide +kernel) rfl⟩
set_option maxRecDepth 100000 in
theorem mt_X8_fareBrings : aw_mt yX8_fareBrings cX8_fareBrings 7 (some .int) 3 := ⟨aw_in1 6 (by decide +kernel) rfl, aw_in4 69 (by decide +kernel) rfl, by decide +kernel, by decide +kernel⟩
set_option maxRecDepth 100000 in
theorem mV_X8_fareBrings : aw_mV yX8_fareBrings := ⟨aw_in4 68 (by decide +kernel) rfl, aw_sel 20 (n := 6) (by decide +kernel)⟩
set_option maxRecDepth 100000 in
theorem mt_X8_fillRank : aw_mt yX8_fillRank cX8_fillRank 10 (none : Option Jvm.ClassFile.FieldType) 3 := ⟨aw_in1 6 (by decide +kernel) rfl, aw_in4 65 (by decide +kernel) rfl, by decide +kernel, by decide +kernel⟩
set_option maxRecDepth 100000 in
theorem mV_X8_fillRank : aw_mV yX8_fillRank := ⟨aw_in4 64 (by decide +kernel) rfl, aw_sel 19 (n := 6) (by decide +kernel)⟩
set_option maxRecDepth 100000 in
theorem mt_X8_init : aw_mt yX8_init cX8_init 1 (none : Option Jvm.ClassFile.FieldType) 0 := ⟨aw_in1 6 (by decide +kernel) rfl, aw_in2 42 (by decide +kernel) rfl, by decide +kernel, by decide +kernel⟩
set_option maxRecDepth 100000 in
theorem mI_X8_init : aw_mI yX8_init := ⟨rfl, aw_in2 41 (by decide +kernel) rfl⟩
set_option maxRecDepth 100000 in
theorem mt_X8_onComing : aw_mt yX8_onComing cX8_onComing 6 (some .int) 4 := ⟨aw_in1 6 (by decide +kernel) rfl, aw_in4 83 (by decide +kernel) rfl, by decide +kernel, by decide +kernel⟩
set_option maxRecDepth 100000 in
theorem mV_X8_onComing : aw_mV yX8_onComing := ⟨aw_in4 81 (by decide +kernel) rfl, aw_in4 82 (by decide +kernel) rfl⟩
set_option maxRecDepth 100000 in
theorem mt_X8_prepare : aw_mt yX8_prepare cX8_prepare 6 (none : Option Jvm.ClassFile.FieldType) 3 := ⟨aw_in1 6 (by decide +kernel) rfl, aw_in4 60 (by decide +kernel) rfl, by decide +kernel, by decide +kernel⟩
set_option maxRecDepth 100000 in
theorem mV_X8_prepare : aw_mV yX8_prepare := ⟨aw_in4 58 (by decide +kernel) rfl, aw_in4 59 (by decide +kernel) rfl⟩
set_option maxRecDepth 100000 in
theorem mt_X8_setChance : aw_mt yX8_setChance cX8_setChance 5 (none : Option Jvm.ClassFile.FieldType) 4 := ⟨aw_in1 6 (by decide +kernel) rfl, aw_in4 52 (by decide +kernel) rfl, by decide +kernel, by decide +kernel⟩
set_option maxRecDepth 100000 in
theorem mV_X8_setChance : aw_mV yX8_setChance := ⟨aw_in4 50 (by decide +kernel) rfl, aw_in4 51 (by decide +kernel) rfl⟩
set_option maxRecDepth 100000 in
theorem mt_X9_back : aw_mt yX9_back cX9_back 2 (some .boolean) 1 := ⟨aw_in1 1 (by decide +kernel) rfl, aw_in5 68 (by decide +kernel) rfl, by decide +kernel, by decide +kernel⟩
set_option maxRecDepth 100000 in
theorem mV_X9_back : aw_mV yX9_back := ⟨aw_in5 66 (by decide +kernel) rfl, aw_in5 67 (by decide +kernel) rfl⟩
set_option maxRecDepth 100000 in
theorem mt_X9_brought : aw_mt yX9_brought cX9_brought 2 (some .int) 1 := ⟨aw_in1 1 (by decide +kernel) rfl, aw_in4 116 (by decide +kernel) rfl, by decide +kernel, by decide +kernel⟩
set_option maxRecDepth 100000 in
theorem mV_X9_brought : aw_mV yX9_brought := ⟨aw_in4 114 (by decide +kernel) rfl, aw_in4 115 (by decide +kernel) rfl⟩
set_option maxRecDepth 100000 in
theorem mt_X9_cab : aw_mt yX9_cab cX9_cab 3 (some .int) 2 := ⟨aw_in1 1 (by decide +kernel) rfl, aw_in3 155 (by decide +kernel) rfl, by decide +kernel, by decide +kernel⟩
set_option maxRecDepth 100000 in
theorem mV_X9_cab : aw_mV yX9_cab := ⟨aw_in3 153 (by decide +kernel) rfl, aw_in3 154 (by decide +kernel) rfl⟩
set_option maxRecDepth 100000 in
theorem mt_X9_call : aw_mt yX9_call cX9_call 4 (some .boolean) 3 := ⟨aw_in1 1 (by decide +kernel) rfl, aw_in4 15 (by decide +kernel) rfl, by decide +kernel, by decide +kernel⟩
set_option maxRecDepth 100000 in
theorem mV_X9_call : aw_mV yX9_call := ⟨aw_in4 13 (by decide +kernel) rfl, aw_in4 14 (by decide +kernel) rfl⟩
set_option maxRecDepth 100000 in
theorem mt_X9_cant : aw_mt yX9_cant cX9_cant 2 (some .int) 1 := ⟨aw_in1 1 (by decide +kernel) rfl, aw_in4 223 (by decide +kernel) rfl, by decide +kernel, by decide +kernel⟩
set_option maxRecDepth 100000 in
theorem mV_X9_cant : aw_mV yX9_cant := ⟨aw_in4 221 (by decide +kernel) rfl, aw_in4 222 (by decide +kernel) rfl⟩
set_option maxRecDepth 100000 in
theorem mt_X9_chance : aw_mt yX9_chance cX9_chance 5 (some .boolean) 4 := ⟨aw_in1 1 (by decide +kernel) rfl, aw_in4 48 (by decide +kernel) rfl, by decide +kernel, by decide +kernel⟩
set_option maxRecDepth 100000 in
theorem mV_X9_chance : aw_mV yX9_chance := ⟨aw_in4 46 (by decide +kernel) rfl, aw_in4 47 (by decide +kernel) rfl⟩
set_option maxRecDepth 100000 in
theorem mt_X9_change : aw_mt yX9_change cX9_change 6 (some .boolean) 2 := ⟨aw_in1 1 (by decide +kernel) rfl, aw_in4 27 (by decide +kernel) rfl, by decide +kernel, by decide +kernel⟩
set_option maxRecDepth 100000 in
theorem mV_X9_change : aw_mV yX9_change := ⟨aw_in4 25 (by decide +kernel) rfl, aw_in4 26 (by decide +kernel) rfl⟩
set_option maxRecDepth 100000 in
theorem mt_X9_city : aw_mt yX9_city cX9_city 3 (some .int) 0 := ⟨aw_in1 1 (by decide +kernel) rfl, aw_in3 102 (by decide +kernel) rfl, by decide +kernel, by decide +kernel⟩
set_option maxRecDepth 100000 in
theorem mV_X9_city : aw_mV yX9_city := ⟨aw_in3 100 (by decide +kernel) rfl, aw_in3 101 (by decide +kernel) rfl⟩
set_option maxRecDepth 100000 in
theorem mt_X9_count : aw_mt yX9_count cX9_count 2 (some .int) 1 := ⟨aw_in1 1 (by decide +kernel) rfl, aw_in5 72 (by decide +kernel) rfl, by decide +kernel, by decide +kernel⟩
set_option maxRecDepth 100000 in
theorem mV_X9_count : aw_mV yX9_count := ⟨aw_in5 70 (by decide +kernel) rfl, aw_in5 71 (by decide +kernel) rfl⟩
set_option maxRecDepth 100000 in
theorem mt_X9_dead : aw_mt yX9_dead cX9_dead 3 (some .int) 2 := ⟨aw_in1 1 (by decide +kernel) rfl, aw_in4 147 (by decide +kernel) rfl, by decide +kernel, by decide +kernel⟩
set_option maxRecDepth 100000 in
theorem mV_X9_dead : aw_mV yX9_dead := ⟨aw_in4 145 (by decide +kernel) rfl, aw_in4 146 (by decide +kernel) rfl⟩
set_option maxRecDepth 100000 in
theorem mt_X9_drive : aw_mt yX9_drive cX9_drive 3 (some .boolean) 2 := ⟨aw_in1 1 (by decide +kernel) rfl, aw_in3 193 (by decide +kernel) rfl, by decide +kernel, by decide +kernel⟩
set_option maxRecDepth 100000 in
theorem mV_X9_drive : aw_mV yX9_drive := ⟨aw_in3 191 (by decide +kernel) rfl, aw_in3 192 (by decide +kernel) rfl⟩
set_option maxRecDepth 100000 in
theorem mt_X9_earned : aw_mt yX9_earned cX9_earned 7 (some .int) 1 := ⟨aw_in1 1 (by decide +kernel) rfl, aw_in5 50 (by decide +kernel) rfl, by decide +kernel, by decide +kernel⟩
set_option maxRecDepth 100000 in
theorem mV_X9_earned : aw_mV yX9_earned := ⟨aw_in5 48 (by decide +kernel) rfl, aw_in5 49 (by decide +kernel) rfl⟩
set_option maxRecDepth 100000 in
theorem mt_X9_end : aw_mt yX9_end cX9_end 2 (some .boolean) 1 := ⟨aw_in1 1 (by decide +kernel) rfl, aw_in2 203 (by decide +kernel) rfl, by decide +kernel, by decide +kernel⟩
set_option maxRecDepth 100000 in
theorem mV_X9_end : aw_mV yX9_end := ⟨aw_in2 201 (by decide +kernel) rfl, aw_in2 202 (by decide +kernel) rfl⟩
set_option maxRecDepth 100000 in
theorem mt_X9_fault : aw_mt yX9_fault cX9_fault 1 (some .int) 0 := ⟨aw_in1 1 (by decide +kernel) rfl, aw_in2 210 (by decide +kernel) rfl, by decide +kernel, by decide +kernel⟩
set_option maxRecDepth 100000 in
theorem mV_X9_fault : aw_mV yX9_fault := ⟨aw_in2 208 (by decide +kernel) rfl, aw_in2 209 (by decide +kernel) rfl⟩
set_option maxRecDepth 100000 in
theorem mt_X9_feed : aw_mt yX9_feed cX9_feed 6 (some .int) 5 := ⟨aw_in1 1 (by decide +kernel) rfl, aw_in2 195 (by decide +kernel) rfl, by decide +kernel, by decide +kernel⟩
set_option maxRecDepth 100000 in
theorem mV_X9_feed : aw_mV yX9_feed := ⟨aw_in2 193 (by decide +kernel) rfl, aw_in2 194 (by decide +kernel) rfl⟩
set_option maxRecDepth 100000 in
theorem mt_X9_go : aw_mt yX9_go cX9_go 3 (some .int) 1 := ⟨aw_in1 1 (by decide +kernel) rfl, aw_in4 32 (by decide +kernel) rfl, by decide +kernel, by decide +kernel⟩
set_option maxRecDepth 100000 in
theorem mV_X9_go : aw_mV yX9_go := ⟨aw_in4 30 (by decide +kernel) rfl, aw_in4 31 (by decide +kernel) rfl⟩
set_option maxRecDepth 100000 in
theorem mt_X9_going : aw_mt yX9_going cX9_going 5 (some .int) 3 := ⟨aw_in1 1 (by decide +kernel) rfl, aw_in4 89 (by decide +kernel) rfl, by decide +kernel, by decide +kernel⟩
set_option maxRecDepth 100000 in
theorem mV_X9_going : aw_mV yX9_going := ⟨aw_in4 87 (by decide +kernel) rfl, aw_in4 88 (by decide +kernel) rfl⟩
set_option maxRecDepth 100000 in
theorem mt_X9_hasCity : aw_mt yX9_hasCity cX9_hasCity 1 (some .boolean) 0 := ⟨aw_in1 1 (by decide +kernel) rfl, aw_in3 141 (by decide +kernel) rfl, by decide +kernel, by decide +kernel⟩
set_option maxRecDepth 100000 in
theorem mV_X9_hasCity : aw_mV yX9_hasCity := ⟨aw_in3 140 (by decide +kernel) rfl, aw_sel 15 (n := 10) (by decide +kernel)⟩
set_option maxRecDepth 100000 in
theorem mt_X9_hasRank : aw_mt yX9_hasRank cX9_hasRank 2 (some .boolean) 1 := ⟨aw_in1 1 (by decide +kernel) rfl, aw_in3 120 (by decide +kernel) rfl, by decide +kernel, by decide +kernel⟩
set_option maxRecDepth 100000 in
theorem mV_X9_hasRank : aw_mV yX9_hasRank := ⟨aw_in3 119 (by decide +kernel) rfl, aw_sel 14 (n := 10) (by decide +kernel)⟩
set_option maxRecDepth 100000 in
theorem mt_X9_image : aw_mt yX9_image cX9_image 2 (some .boolean) 1 := ⟨aw_in1 1 (by decide +kernel) rfl, aw_in5 56 (by decide +kernel) rfl, by decide +kernel, by decide +kernel⟩
set_option maxRecDepth 100000 in
theorem mV_X9_image : aw_mV yX9_image := ⟨aw_in5 54 (by decide +kernel) rfl, aw_in5 55 (by decide +kernel) rfl⟩
set_option maxRecDepth 100000 in
theorem mt_X9_init : aw_mt yX9_init cX9_init 2 (none : Option Jvm.ClassFile.FieldType) 0 := ⟨aw_in1 1 (by decide +kernel) rfl, aw_in1 24 (by decide +kernel) rfl, by decide +kernel, by decide +kernel⟩
set_option maxRecDepth 100000 in
theorem mI_X9_init : aw_mI yX9_init := ⟨rfl, aw_in1 23 (by decide +kernel) rfl⟩
set_option maxRecDepth 100000 in
theorem mt_X9_isFare : aw_mt yX9_isFare cX9_isFare 2 (some .boolean) 2 := ⟨aw_in1 1 (by decide +kernel) rfl, aw_in4 1 (by decide +kernel) rfl, by decide +kernel, by decide +kernel⟩
set_option maxRecDepth 100000 in
theorem mS_X9_isFare : aw_mS yX9_isFare := aw_in4 0 (by decide +kernel) rfl
set_option maxRecDepth 100000 in
theorem mt_X9_isStart : aw_mt yX9_isStart cX9_isStart 3 (some .boolean) 2 := ⟨aw_in1 1 (by decide +kernel) rfl, aw_in4 93 (by decide +kernel) rfl, by decide +kernel, by decide +kernel⟩
set_option maxRecDepth 100000 in
theorem mV_X9_isStart : aw_mV yX9_isStart := ⟨aw_in4 92 (by decide +kernel) rfl, aw_sel 21 (n := 10) (by decide +kernel)⟩
set_option maxRecDepth 100000 in
theorem mt_X9_jumpers : aw_mt yX9_jumpers cX9_jumpers 4 (some .int) 2 := ⟨aw_in1 1 (by decide +kernel) rfl, aw_in4 198 (by decide +kernel) rfl, by decide +kernel, by decide +kernel⟩
set_option maxRecDepth 100000 in
theorem mV_X9_jumpers : aw_mV yX9_jumpers := ⟨aw_in4 196 (by decide +kernel) rfl, aw_in4 197 (by decide +kernel) rfl⟩
set_option maxRecDepth 100000 in
theorem mt_X9_may : aw_mt yX9_may cX9_may 4 (some .int) 3 := ⟨aw_in1 1 (by decide +kernel) rfl, aw_in3 124 (by decide +kernel) rfl, by decide +kernel, by decide +kernel⟩
set_option maxRecDepth 100000 in
theorem mV_X9_may : aw_mV yX9_may := ⟨aw_in3 122 (by decide +kernel) rfl, aw_in3 123 (by decide +kernel) rfl⟩
set_option maxRecDepth 100000 in
theorem mt_X9_of : aw_mt yX9_of cX9_of 4 (some .int) 2 := ⟨aw_in1 1 (by decide +kernel) rfl, aw_in3 171 (by decide +kernel) rfl, by decide +kernel, by decide +kernel⟩
set_option maxRecDepth 100000 in
theorem mV_X9_of : aw_mV yX9_of := ⟨aw_in3 169 (by decide +kernel) rfl, aw_in3 170 (by decide +kernel) rfl⟩
set_option maxRecDepth 100000 in
theorem mt_X9_pass : aw_mt yX9_pass cX9_pass 3 (some .int) 2 := ⟨aw_in1 1 (by decide +kernel) rfl, aw_in4 44 (by decide +kernel) rfl, by decide +kernel, by decide +kernel⟩
set_option maxRecDepth 100000 in
theorem mV_X9_pass : aw_mV yX9_pass := ⟨aw_in4 42 (by decide +kernel) rfl, aw_in4 43 (by decide +kernel) rfl⟩
set_option maxRecDepth 100000 in
theorem mt_X9_people : aw_mt yX9_people cX9_people 3 (some .boolean) 2 := ⟨aw_in1 1 (by decide +kernel) rfl, aw_in4 112 (by decide +kernel) rfl, by decide +kernel, by decide +kernel⟩
set_option maxRecDepth 100000 in
theorem mV_X9_people : aw_mV yX9_people := ⟨aw_in4 110 (by decide +kernel) rfl, aw_in4 111 (by decide +kernel) rfl⟩
set_option maxRecDepth 100000 in
theorem mt_X9_price : aw_mt yX9_price cX9_price 3 (some .int) 2 := ⟨aw_in1 1 (by decide +kernel) rfl, aw_in3 137 (by decide +kernel) rfl, by decide +kernel, by decide +kernel⟩
set_option maxRecDepth 100000 in
theorem mV_X9_price : aw_mV yX9_price := ⟨aw_in3 135 (by decide +kernel) rfl, aw_in3 136 (by decide +kernel) rfl⟩
set_option maxRecDepth 100000 in
theorem mt_X9_rank : aw_mt yX9_rank cX9_rank 3 (some .int) 2 := ⟨aw_in1 1 (by decide +kernel) rfl, aw_in3 116 (by decide +kernel) rfl, by decide +kernel, by decide +kernel⟩
set_option maxRecDepth 100000 in
theorem mV_X9_rank : aw_mV yX9_rank := ⟨aw_in3 114 (by decide +kernel) rfl, aw_in3 115 (by decide +kernel) rfl⟩
set_option maxRecDepth 100000 in
theorem mt_X9_reading : aw_mt yX9_reading cX9_reading 4 (some .int) 3 := ⟨aw_in1 1 (by decide +kernel) rfl, aw_in4 182 (by decide +kernel) rfl, by decide +kernel, by decide +kernel⟩
set_option maxRecDepth 100000 in
theorem mV_X9_reading : aw_mV yX9_reading := ⟨aw_in4 180 (by decide +kernel) rfl, aw_in4 181 (by decide +kernel) rfl⟩
set_option maxRecDepth 100000 in
theorem mt_X9_refuse : aw_mt yX9_refuse cX9_refuse 4 (some .int) 1 := ⟨aw_in1 1 (by decide +kernel) rfl, aw_in4 21 (by decide +kernel) rfl, by decide +kernel, by decide +kernel⟩
set_option maxRecDepth 100000 in
theorem mV_X9_refuse : aw_mV yX9_refuse := ⟨aw_in4 19 (by decide +kernel) rfl, aw_in4 20 (by decide +kernel) rfl⟩
set_option maxRecDepth 100000 in
theorem mt_X9_rings : aw_mt yX9_rings cX9_rings 1 (some .int) 0 := ⟨aw_in1 1 (by decide +kernel) rfl, aw_in4 236 (by decide +kernel) rfl, by decide +kernel, by decide +kernel⟩
set_option maxRecDepth 100000 in
theorem mV_X9_rings : aw_mV yX9_rings := ⟨aw_in4 234 (by decide +kernel) rfl, aw_in4 235 (by decide +kernel) rfl⟩
set_option maxRecDepth 100000 in
theorem mt_X9_row : aw_mt yX9_row cX9_row 3 (some .int) 2 := ⟨aw_in1 1 (by decide +kernel) rfl, aw_in3 234 (by decide +kernel) rfl, by decide +kernel, by decide +kernel⟩
set_option maxRecDepth 100000 in
theorem mV_X9_row : aw_mV yX9_row := ⟨aw_in3 232 (by decide +kernel) rfl, aw_in3 233 (by decide +kernel) rfl⟩
set_option maxRecDepth 100000 in
theorem mt_X9_take : aw_mt yX9_take cX9_take 5 (some .int) 3 := ⟨aw_in1 1 (by decide +kernel) rfl, aw_in3 238 (by decide +kernel) rfl, by decide +kernel, by decide +kernel⟩
set_option maxRecDepth 100000 in
theorem mV_X9_take : aw_mV yX9_take := ⟨aw_in3 236 (by decide +kernel) rfl, aw_in3 237 (by decide +kernel) rfl⟩
set_option maxRecDepth 100000 in
theorem mt_X9_thumb : aw_mt yX9_thumb cX9_thumb 7 (some .int) 4 := ⟨aw_in1 1 (by decide +kernel) rfl, aw_in4 99 (by decide +kernel) rfl, by decide +kernel, by decide +kernel⟩
set_option maxRecDepth 100000 in
theorem mV_X9_thumb : aw_mV yX9_thumb := ⟨aw_in4 97 (by decide +kernel) rfl, aw_in4 98 (by decide +kernel) rfl⟩
set_option maxRecDepth 100000 in
theorem mt_X9_thumbBadness : aw_mt yX9_thumbBadness cX9_thumbBadness 4 (some .int) 3 := ⟨aw_in1 1 (by decide +kernel) rfl, aw_in4 107 (by decide +kernel) rfl, by decide +kernel, by decide +kernel⟩
set_option maxRecDepth 100000 in
theorem mV_X9_thumbBadness : aw_mV yX9_thumbBadness := ⟨aw_in4 106 (by decide +kernel) rfl, aw_sel 23 (n := 10) (by decide +kernel)⟩
set_option maxRecDepth 100000 in
theorem mt_X9_thumbRank : aw_mt yX9_thumbRank cX9_thumbRank 5 (some .int) 2 := ⟨aw_in1 1 (by decide +kernel) rfl, aw_in4 103 (by decide +kernel) rfl, by decide +kernel, by decide +kernel⟩
set_option maxRecDepth 100000 in
theorem mV_X9_thumbRank : aw_mV yX9_thumbRank := ⟨aw_in4 102 (by decide +kernel) rfl, aw_sel 22 (n := 10) (by decide +kernel)⟩
set_option maxRecDepth 100000 in
theorem mt_X9_toLift : aw_mt yX9_toLift cX9_toLift 3 (some .int) 2 := ⟨aw_in1 1 (by decide +kernel) rfl, aw_in4 167 (by decide +kernel) rfl, by decide +kernel, by decide +kernel⟩
set_option maxRecDepth 100000 in
theorem mV_X9_toLift : aw_mV yX9_toLift := ⟨aw_in4 165 (by decide +kernel) rfl, aw_in4 166 (by decide +kernel) rfl⟩
set_option maxRecDepth 100000 in
theorem mt_X9_turn : aw_mt yX9_turn cX9_turn 2 (some .int) 0 := ⟨aw_in1 1 (by decide +kernel) rfl, aw_in5 37 (by decide +kernel) rfl, by decide +kernel, by decide +kernel⟩
set_option maxRecDepth 100000 in
theorem mV_X9_turn : aw_mV yX9_turn := ⟨aw_in5 35 (by decide +kernel) rfl, aw_in5 36 (by decide +kernel) rfl⟩
set_option maxRecDepth 100000 in
theorem mt_X9_wish : aw_mt yX9_wish cX9_wish 3 (some .boolean) 2 := ⟨aw_in1 1 (by decide +kernel) rfl, aw_in4 232 (by decide +kernel) rfl, by decide +kernel, by decide +kernel⟩
set_option maxRecDepth 100000 in
theorem mV_X9_wish : aw_mV yX9_wish := ⟨aw_in4 230 (by decide +kernel) rfl, aw_in4 231 (by decide +kernel) rfl⟩
set_option maxRecDepth 100000 in
theorem mt_X9_within : aw_mt yX9_within cX9_within 3 (some .boolean) 3 := ⟨aw_in1 1 (by decide +kernel) rfl, aw_in2 206 (by decide +kernel) rfl, by decide +kernel, by decide +kernel⟩
set_option maxRecDepth 100000 in
theorem mS_X9_within : aw_mS yX9_within := aw_in2 205 (by decide +kernel) rfl
set_option maxRecDepth 100000 in
theorem mt_X9_worth : aw_mt yX9_worth cX9_worth 4 (some .int) 3 := ⟨aw_in1 1 (by decide +kernel) rfl, aw_in4 56 (by decide +kernel) rfl, by decide +kernel, by decide +kernel⟩
set_option maxRecDepth 100000 in
theorem mV_X9_worth : aw_mV yX9_worth := ⟨aw_in4 54 (by decide +kernel) rfl, aw_in4 55 (by decide +kernel) rfl⟩
set_option maxRecDepth 100000 in
theorem lk_L_9 : Cond.methodLink RL 9 yX9_init ∈ aw_tbl := aw_in1 22 (by decide +kernel) rfl
set_option maxRecDepth 100000 in
theorem lk_X9_1 : Cond.methodLink RX9 1 objectInit ∈ aw_tbl := aw_in1 25 (by decide +kernel) rfl
set_option maxRecDepth 100000 in
theorem lk_X4_3 : Cond.methodLink RX4 3 objectInit ∈ aw_tbl := aw_in1 33 (by decide +kernel) rfl
set_option maxRecDepth 100000 in
theorem lk_X3_3 : Cond.methodLink RX3 3 objectInit ∈ aw_tbl := aw_in1 39 (by decide +kernel) rfl
set_option maxRecDepth 100000 in
theorem lk_X9_25 : Cond.methodLink RX9 25 yX5_init ∈ aw_tbl := aw_in1 165 (by decide +kernel) rfl
set_option maxRecDepth 100000 in
theorem lk_X5_3 : Cond.methodLink RX5 3 objectInit ∈ aw_tbl := aw_in1 168 (by decide +kernel) rfl
set_option maxRecDepth 100000 in
theorem lk_X2_3 : Cond.methodLink RX2 3 objectInit ∈ aw_tbl := aw_in1 177 (by decide +kernel) rfl
set_option maxRecDepth 100000 in
theorem lk_X8_5 : Cond.methodLink RX8 5 objectInit ∈ aw_tbl := aw_in2 43 (by decide +kernel) rfl
set_option maxRecDepth 100000 in
theorem lk_X1_3 : Cond.methodLink RX1 3 objectInit ∈ aw_tbl := aw_in2 70 (by decide +kernel) rfl
set_option maxRecDepth 100000 in
theorem lk_X6_3 : Cond.methodLink RX6 3 objectInit ∈ aw_tbl := aw_in2 95 (by decide +kernel) rfl
set_option maxRecDepth 100000 in
theorem lk_X0_3 : Cond.methodLink RX0 3 objectInit ∈ aw_tbl := aw_in2 105 (by decide +kernel) rfl
set_option maxRecDepth 100000 in
theorem lk_X7_3 : Cond.methodLink RX7 3 objectInit ∈ aw_tbl := aw_in2 150 (by decide +kernel) rfl
set_option maxRecDepth 100000 in
theorem lk_L_13 : Cond.methodLink RL 13 yX9_feed ∈ aw_tbl := aw_in2 192 (by decide +kernel) rfl
set_option maxRecDepth 100000 in
theorem lk_X9_77 : Cond.methodLink RX9 77 yX4_append ∈ aw_tbl := aw_in2 196 (by decide +kernel) rfl
set_option maxRecDepth 100000 in
theorem lk_L_18 : Cond.methodLink RL 18 yX9_end ∈ aw_tbl := aw_in2 200 (by decide +kernel) rfl
set_option maxRecDepth 100000 in
theorem lk_X9_81 : Cond.methodLink RX9 81 yX9_within ∈ aw_tbl := aw_in2 204 (by decide +kernel) rfl
set_option maxRecDepth 100000 in
theorem lk_L_23 : Cond.methodLink RL 23 yX9_fault ∈ aw_tbl := aw_in2 207 (by decide +kernel) rfl
set_option maxRecDepth 100000 in
theorem lk_X9_85 : Cond.methodLink RX9 85 yX4_faultPlace ∈ aw_tbl := aw_in2 211 (by decide +kernel) rfl
set_option maxRecDepth 100000 in
theorem lk_X4_33 : Cond.methodLink RX4 33 yX3_clear ∈ aw_tbl := aw_in2 215 (by decide +kernel) rfl
set_option maxRecDepth 100000 in
theorem lk_X3_46 : Cond.methodLink RX3 46 yJ7_fill_53178 ∈ aw_tbl := aw_in2 219 (by decide +kernel) rfl
set_option maxRecDepth 100000 in
theorem lk_X4_49 : Cond.methodLink RX4 49 yX4_readToken ∈ aw_tbl := aw_in2 222 (by decide +kernel) rfl
set_option maxRecDepth 100000 in
theorem lk_X4_65 : Cond.methodLink RX4 65 yX4_kindOf ∈ aw_tbl := aw_in2 226 (by decide +kernel) rfl
set_option maxRecDepth 100000 in
theorem lk_X4_58 : Cond.methodLink RX4 58 yX4_readStatement ∈ aw_tbl := aw_in2 229 (by decide +kernel) rfl
set_option maxRecDepth 100000 in
theorem lk_X4_71 : Cond.methodLink RX4 71 yX4_isWord ∈ aw_tbl := aw_in2 234 (by decide +kernel) rfl
set_option maxRecDepth 100000 in
theorem lk_X4_174 : Cond.methodLink RX4 174 yJ0_length_8abf5 ∈ aw_tbl := aw_in2 238 (by decide +kernel) rfl
set_option maxRecDepth 100000 in
theorem lk_J0_335 : Cond.methodLink RJ0 335 yJ0_coder_7d493 ∈ aw_tbl := aw_in3 2 (by decide +kernel) rfl
set_option maxRecDepth 100000 in
theorem lk_X4_178 : Cond.methodLink RX4 178 yJ0_charAt_5068e ∈ aw_tbl := aw_in3 8 (by decide +kernel) rfl
set_option maxRecDepth 100000 in
theorem lk_J0_492 : Cond.methodLink RJ0 492 yJ0_isLatin1_aae02 ∈ aw_tbl := aw_in3 12 (by decide +kernel) rfl
set_option maxRecDepth 100000 in
theorem lk_J0_495 : Cond.methodLink RJ0 495 yJ1_charAt_3b067 ∈ aw_tbl := aw_in3 16 (by decide +kernel) rfl
set_option maxRecDepth 100000 in
theorem lk_J1_9 : Cond.methodLink RJ1 9 yJ0_checkIndex_df160 ∈ aw_tbl := aw_in3 19 (by decide +kernel) rfl
set_option maxRecDepth 100000 in
theorem lk_J0_1059 : Cond.methodLink RJ0 1059 yJ3_checkIndex_8e157 ∈ aw_tbl := aw_in3 24 (by decide +kernel) rfl
set_option maxRecDepth 100000 in
theorem lk_J0_498 : Cond.methodLink RJ0 498 yJ2_charAt_3b067 ∈ aw_tbl := aw_in3 27 (by decide +kernel) rfl
set_option maxRecDepth 100000 in
theorem lk_J2_67 : Cond.methodLink RJ2 67 yJ2_checkIndex_2214a ∈ aw_tbl := aw_in3 30 (by decide +kernel) rfl
set_option maxRecDepth 100000 in
theorem lk_J2_48 : Cond.methodLink RJ2 48 yJ2_length_9d52b ∈ aw_tbl := aw_in3 33 (by decide +kernel) rfl
set_option maxRecDepth 100000 in
theorem lk_J2_414 : Cond.methodLink RJ2 414 yJ0_checkIndex_df160 ∈ aw_tbl := aw_in3 36 (by decide +kernel) rfl
set_option maxRecDepth 100000 in
theorem lk_J2_71 : Cond.methodLink RJ2 71 yJ2_getChar_3b067 ∈ aw_tbl := aw_in3 37 (by decide +kernel) rfl
set_option maxRecDepth 100000 in
theorem lk_X4_75 : Cond.methodLink RX4 75 yX4_readRank ∈ aw_tbl := aw_in3 46 (by decide +kernel) rfl
set_option maxRecDepth 100000 in
theorem lk_X4_98 : Cond.methodLink RX4 98 yX4_isName ∈ aw_tbl := aw_in3 50 (by decide +kernel) rfl
set_option maxRecDepth 100000 in
theorem lk_X4_101 : Cond.methodLink RX4 101 yX4_rankNamed ∈ aw_tbl := aw_in3 58 (by decide +kernel) rfl
set_option maxRecDepth 100000 in
theorem lk_X4_182 : Cond.methodLink RX4 182 yX4_isSameAsAt ∈ aw_tbl := aw_in3 62 (by decide +kernel) rfl
set_option maxRecDepth 100000 in
theorem lk_X4_105 : Cond.methodLink RX4 105 yX4_readNumberWithin ∈ aw_tbl := aw_in3 66 (by decide +kernel) rfl
set_option maxRecDepth 100000 in
theorem lk_X4_164 : Cond.methodLink RX4 164 Lib.Math.min.name ∈ aw_tbl := aw_in3 71 (by decide +kernel) rfl
set_option maxRecDepth 100000 in
theorem lk_X4_112 : Cond.methodLink RX4 112 yX4_placeTold ∈ aw_tbl := aw_in3 75 (by decide +kernel) rfl
set_option maxRecDepth 100000 in
theorem lk_X4_125 : Cond.methodLink RX4 125 yX4_readStop ∈ aw_tbl := aw_in3 79 (by decide +kernel) rfl
set_option maxRecDepth 100000 in
theorem lk_X4_80 : Cond.methodLink RX4 80 yX4_readLet ∈ aw_tbl := aw_in3 83 (by decide +kernel) rfl
set_option maxRecDepth 100000 in
theorem lk_X4_85 : Cond.methodLink RX4 85 yX4_readFare ∈ aw_tbl := aw_in3 87 (by decide +kernel) rfl
set_option maxRecDepth 100000 in
theorem lk_X4_90 : Cond.methodLink RX4 90 yX4_readShort ∈ aw_tbl := aw_in3 91 (by decide +kernel) rfl
set_option maxRecDepth 100000 in
theorem lk_X4_95 : Cond.methodLink RX4 95 yX4_readCoin ∈ aw_tbl := aw_in3 95 (by decide +kernel) rfl
set_option maxRecDepth 100000 in
theorem lk_L_28 : Cond.methodLink RL 28 yX9_city ∈ aw_tbl := aw_in3 99 (by decide +kernel) rfl
set_option maxRecDepth 100000 in
theorem lk_X9_92 : Cond.methodLink RX9 92 yX5_clear ∈ aw_tbl := aw_in3 103 (by decide +kernel) rfl
set_option maxRecDepth 100000 in
theorem lk_X5_43 : Cond.methodLink RX5 43 yJ7_fill_53178 ∈ aw_tbl := aw_in3 107 (by decide +kernel) rfl
set_option maxRecDepth 100000 in
theorem lk_X9_95 : Cond.methodLink RX9 95 yX8_clear ∈ aw_tbl := aw_in3 108 (by decide +kernel) rfl
set_option maxRecDepth 100000 in
theorem lk_X8_27 : Cond.methodLink RX8 27 yJ7_fill_53178 ∈ aw_tbl := aw_in3 112 (by decide +kernel) rfl
set_option maxRecDepth 100000 in
theorem lk_L_32 : Cond.methodLink RL 32 yX9_rank ∈ aw_tbl := aw_in3 113 (by decide +kernel) rfl
set_option maxRecDepth 100000 in
theorem lk_X9_102 : Cond.methodLink RX9 102 yX9_hasRank ∈ aw_tbl := aw_in3 117 (by decide +kernel) rfl
set_option maxRecDepth 100000 in
theorem lk_L_37 : Cond.methodLink RL 37 yX9_may ∈ aw_tbl := aw_in3 121 (by decide +kernel) rfl
set_option maxRecDepth 100000 in
theorem lk_X9_122 : Cond.methodLink RX9 122 yX3_saying ∈ aw_tbl := aw_in3 125 (by decide +kernel) rfl
set_option maxRecDepth 100000 in
theorem lk_X9_126 : Cond.methodLink RX9 126 yX3_letsStand ∈ aw_tbl := aw_in3 130 (by decide +kernel) rfl
set_option maxRecDepth 100000 in
theorem lk_L_42 : Cond.methodLink RL 42 yX9_price ∈ aw_tbl := aw_in3 134 (by decide +kernel) rfl
set_option maxRecDepth 100000 in
theorem lk_X9_129 : Cond.methodLink RX9 129 yX9_hasCity ∈ aw_tbl := aw_in3 138 (by decide +kernel) rfl
set_option maxRecDepth 100000 in
theorem lk_X9_133 : Cond.methodLink RX9 133 yX3_priceOf ∈ aw_tbl := aw_in3 142 (by decide +kernel) rfl
set_option maxRecDepth 100000 in
theorem lk_X3_74 : Cond.methodLink RX3 74 yX3_begun ∈ aw_tbl := aw_in3 146 (by decide +kernel) rfl
set_option maxRecDepth 100000 in
theorem lk_X3_81 : Cond.methodLink RX3 81 yX3_roundUp ∈ aw_tbl := aw_in3 149 (by decide +kernel) rfl
set_option maxRecDepth 100000 in
theorem lk_L_46 : Cond.methodLink RL 46 yX9_cab ∈ aw_tbl := aw_in3 152 (by decide +kernel) rfl
set_option maxRecDepth 100000 in
theorem lk_X9_136 : Cond.methodLink RX9 136 yX5_addCab ∈ aw_tbl := aw_in3 156 (by decide +kernel) rfl
set_option maxRecDepth 100000 in
theorem lk_X5_70 : Cond.methodLink RX5 70 yX2_begin ∈ aw_tbl := aw_in3 160 (by decide +kernel) rfl
set_option maxRecDepth 100000 in
theorem lk_X2_34 : Cond.methodLink RX2 34 yX2_becomeEmpty ∈ aw_tbl := aw_in3 164 (by decide +kernel) rfl
set_option maxRecDepth 100000 in
theorem lk_L_50 : Cond.methodLink RL 50 yX9_of ∈ aw_tbl := aw_in3 168 (by decide +kernel) rfl
set_option maxRecDepth 100000 in
theorem lk_X9_139 : Cond.methodLink RX9 139 yX5_has ∈ aw_tbl := aw_in3 172 (by decide +kernel) rfl
set_option maxRecDepth 100000 in
theorem lk_X9_151 : Cond.methodLink RX9 151 yX2_seenPlace ∈ aw_tbl := aw_in3 177 (by decide +kernel) rfl
set_option maxRecDepth 100000 in
theorem lk_X9_157 : Cond.methodLink RX9 157 yX5_placeInRow ∈ aw_tbl := aw_in3 181 (by decide +kernel) rfl
set_option maxRecDepth 100000 in
theorem lk_X5_74 : Cond.methodLink RX5 74 yX5_hasStanding ∈ aw_tbl := aw_in3 185 (by decide +kernel) rfl
set_option maxRecDepth 100000 in
theorem lk_X5_63 : Cond.methodLink RX5 63 yX5_has ∈ aw_tbl := aw_in3 189 (by decide +kernel) rfl
set_option maxRecDepth 100000 in
theorem lk_L_54 : Cond.methodLink RL 54 yX9_drive ∈ aw_tbl := aw_in3 190 (by decide +kernel) rfl
set_option maxRecDepth 100000 in
theorem lk_X9_179 : Cond.methodLink RX9 179 yX5_setOff ∈ aw_tbl := aw_in3 194 (by decide +kernel) rfl
set_option maxRecDepth 100000 in
theorem lk_X5_83 : Cond.methodLink RX5 83 yX3_minutesTo ∈ aw_tbl := aw_in3 198 (by decide +kernel) rfl
set_option maxRecDepth 100000 in
theorem lk_X3_58 : Cond.methodLink RX3 58 Lib.Math.abs.name ∈ aw_tbl := aw_in3 202 (by decide +kernel) rfl
set_option maxRecDepth 100000 in
theorem lk_X5_92 : Cond.methodLink RX5 92 yX5_comeToRank ∈ aw_tbl := aw_in3 205 (by decide +kernel) rfl
set_option maxRecDepth 100000 in
theorem lk_X5_102 : Cond.methodLink RX5 102 yX2_becomeEmpty ∈ aw_tbl := aw_in3 209 (by decide +kernel) rfl
set_option maxRecDepth 100000 in
theorem lk_X5_112 : Cond.methodLink RX5 112 yX3_saying ∈ aw_tbl := aw_in3 210 (by decide +kernel) rfl
set_option maxRecDepth 100000 in
theorem lk_X5_115 : Cond.methodLink RX5 115 yX3_letsStand ∈ aw_tbl := aw_in3 211 (by decide +kernel) rfl
set_option maxRecDepth 100000 in
theorem lk_X5_118 : Cond.methodLink RX5 118 yX3_room ∈ aw_tbl := aw_in3 212 (by decide +kernel) rfl
set_option maxRecDepth 100000 in
theorem lk_X5_128 : Cond.methodLink RX5 128 yX5_behindTickets ∈ aw_tbl := aw_in3 216 (by decide +kernel) rfl
set_option maxRecDepth 100000 in
theorem lk_X5_131 : Cond.methodLink RX5 131 yX5_putInRow ∈ aw_tbl := aw_in3 220 (by decide +kernel) rfl
set_option maxRecDepth 100000 in
theorem lk_X5_139 : Cond.methodLink RX5 139 yX5_tell ∈ aw_tbl := aw_in3 224 (by decide +kernel) rfl
set_option maxRecDepth 100000 in
theorem lk_X5_53 : Cond.methodLink RX5 53 arraycopyName ∈ aw_tbl := aw_in3 228 (by decide +kernel) rfl
set_option maxRecDepth 100000 in
theorem lk_L_59 : Cond.methodLink RL 59 yX9_row ∈ aw_tbl := aw_in3 231 (by decide +kernel) rfl
set_option maxRecDepth 100000 in
theorem lk_L_63 : Cond.methodLink RL 63 yX9_take ∈ aw_tbl := aw_in3 235 (by decide +kernel) rfl
set_option maxRecDepth 100000 in
theorem lk_X9_187 : Cond.methodLink RX9 187 yX9_isFare ∈ aw_tbl := aw_in3 239 (by decide +kernel) rfl
set_option maxRecDepth 100000 in
theorem lk_X9_191 : Cond.methodLink RX9 191 yX5_serve ∈ aw_tbl := aw_in4 2 (by decide +kernel) rfl
set_option maxRecDepth 100000 in
theorem lk_X5_145 : Cond.methodLink RX5 145 yX5_leaveRow ∈ aw_tbl := aw_in4 6 (by decide +kernel) rfl
set_option maxRecDepth 100000 in
theorem lk_X5_142 : Cond.methodLink RX5 142 yX5_placeInRow ∈ aw_tbl := aw_in4 10 (by decide +kernel) rfl
set_option maxRecDepth 100000 in
theorem lk_X5_151 : Cond.methodLink RX5 151 yX3_priceOf ∈ aw_tbl := aw_in4 11 (by decide +kernel) rfl
set_option maxRecDepth 100000 in
theorem lk_L_67 : Cond.methodLink RL 67 yX9_call ∈ aw_tbl := aw_in4 12 (by decide +kernel) rfl
set_option maxRecDepth 100000 in
theorem lk_X9_204 : Cond.methodLink RX9 204 yX5_hasStanding ∈ aw_tbl := aw_in4 16 (by decide +kernel) rfl
set_option maxRecDepth 100000 in
theorem lk_X9_207 : Cond.methodLink RX9 207 yX5_tell ∈ aw_tbl := aw_in4 17 (by decide +kernel) rfl
set_option maxRecDepth 100000 in
theorem lk_L_72 : Cond.methodLink RL 72 yX9_refuse ∈ aw_tbl := aw_in4 18 (by decide +kernel) rfl
set_option maxRecDepth 100000 in
theorem lk_X9_211 : Cond.methodLink RX9 211 yX5_leaveRow ∈ aw_tbl := aw_in4 22 (by decide +kernel) rfl
set_option maxRecDepth 100000 in
theorem lk_X9_214 : Cond.methodLink RX9 214 yX5_putInRow ∈ aw_tbl := aw_in4 23 (by decide +kernel) rfl
set_option maxRecDepth 100000 in
theorem lk_L_77 : Cond.methodLink RL 77 yX9_change ∈ aw_tbl := aw_in4 24 (by decide +kernel) rfl
set_option maxRecDepth 100000 in
theorem lk_X9_217 : Cond.methodLink RX9 217 Lib.Math.abs.name ∈ aw_tbl := aw_in4 28 (by decide +kernel) rfl
set_option maxRecDepth 100000 in
theorem lk_L_81 : Cond.methodLink RL 81 yX9_go ∈ aw_tbl := aw_in4 29 (by decide +kernel) rfl
set_option maxRecDepth 100000 in
theorem lk_X9_222 : Cond.methodLink RX9 222 yX5_passMinute ∈ aw_tbl := aw_in4 33 (by decide +kernel) rfl
set_option maxRecDepth 100000 in
theorem lk_X5_99 : Cond.methodLink RX5 99 yX5_come ∈ aw_tbl := aw_in4 37 (by decide +kernel) rfl
set_option maxRecDepth 100000 in
theorem lk_L_85 : Cond.methodLink RL 85 yX9_pass ∈ aw_tbl := aw_in4 41 (by decide +kernel) rfl
set_option maxRecDepth 100000 in
theorem lk_L_89 : Cond.methodLink RL 89 yX9_chance ∈ aw_tbl := aw_in4 45 (by decide +kernel) rfl
set_option maxRecDepth 100000 in
theorem lk_X9_232 : Cond.methodLink RX9 232 yX8_setChance ∈ aw_tbl := aw_in4 49 (by decide +kernel) rfl
set_option maxRecDepth 100000 in
theorem lk_L_94 : Cond.methodLink RL 94 yX9_worth ∈ aw_tbl := aw_in4 53 (by decide +kernel) rfl
set_option maxRecDepth 100000 in
theorem lk_X9_236 : Cond.methodLink RX9 236 yX8_prepare ∈ aw_tbl := aw_in4 57 (by decide +kernel) rfl
set_option maxRecDepth 100000 in
theorem lk_X8_42 : Cond.methodLink RX8 42 Lib.Math.min.name ∈ aw_tbl := aw_in4 61 (by decide +kernel) rfl
set_option maxRecDepth 100000 in
theorem lk_X8_53 : Cond.methodLink RX8 53 yX8_fillRank ∈ aw_tbl := aw_in4 62 (by decide +kernel) rfl
set_option maxRecDepth 100000 in
theorem lk_X8_57 : Cond.methodLink RX8 57 yX8_fareBrings ∈ aw_tbl := aw_in4 66 (by decide +kernel) rfl
set_option maxRecDepth 100000 in
theorem lk_X8_70 : Cond.methodLink RX8 70 yX8_bestRank ∈ aw_tbl := aw_in4 70 (by decide +kernel) rfl
set_option maxRecDepth 100000 in
theorem lk_X8_80 : Cond.methodLink RX8 80 yX3_minutesTo ∈ aw_tbl := aw_in4 74 (by decide +kernel) rfl
set_option maxRecDepth 100000 in
theorem lk_X8_61 : Cond.methodLink RX8 61 yX8_at ∈ aw_tbl := aw_in4 75 (by decide +kernel) rfl
set_option maxRecDepth 100000 in
theorem lk_X8_73 : Cond.methodLink RX8 73 yX3_priceOf ∈ aw_tbl := aw_in4 79 (by decide +kernel) rfl
set_option maxRecDepth 100000 in
theorem lk_X8_76 : Cond.methodLink RX8 76 yX8_onComing ∈ aw_tbl := aw_in4 80 (by decide +kernel) rfl
set_option maxRecDepth 100000 in
theorem lk_X9_240 : Cond.methodLink RX9 240 yX8_at ∈ aw_tbl := aw_in4 85 (by decide +kernel) rfl
set_option maxRecDepth 100000 in
theorem lk_L_98 : Cond.methodLink RL 98 yX9_going ∈ aw_tbl := aw_in4 86 (by decide +kernel) rfl
set_option maxRecDepth 100000 in
theorem lk_X9_244 : Cond.methodLink RX9 244 yX9_isStart ∈ aw_tbl := aw_in4 90 (by decide +kernel) rfl
set_option maxRecDepth 100000 in
theorem lk_X9_247 : Cond.methodLink RX9 247 yX8_bestRank ∈ aw_tbl := aw_in4 94 (by decide +kernel) rfl
set_option maxRecDepth 100000 in
theorem lk_X9_251 : Cond.methodLink RX9 251 yX8_onComing ∈ aw_tbl := aw_in4 95 (by decide +kernel) rfl
set_option maxRecDepth 100000 in
theorem lk_L_102 : Cond.methodLink RL 102 yX9_thumb ∈ aw_tbl := aw_in4 96 (by decide +kernel) rfl
set_option maxRecDepth 100000 in
theorem lk_X9_255 : Cond.methodLink RX9 255 yX9_thumbRank ∈ aw_tbl := aw_in4 100 (by decide +kernel) rfl
set_option maxRecDepth 100000 in
theorem lk_X9_334 : Cond.methodLink RX9 334 yX9_thumbBadness ∈ aw_tbl := aw_in4 104 (by decide +kernel) rfl
set_option maxRecDepth 100000 in
theorem lk_X9_337 : Cond.methodLink RX9 337 yX3_minutesTo ∈ aw_tbl := aw_in4 108 (by decide +kernel) rfl
set_option maxRecDepth 100000 in
theorem lk_L_107 : Cond.methodLink RL 107 yX9_people ∈ aw_tbl := aw_in4 109 (by decide +kernel) rfl
set_option maxRecDepth 100000 in
theorem lk_L_111 : Cond.methodLink RL 111 yX9_brought ∈ aw_tbl := aw_in4 113 (by decide +kernel) rfl
set_option maxRecDepth 100000 in
theorem lk_X9_258 : Cond.methodLink RX9 258 yX1_weigh ∈ aw_tbl := aw_in4 117 (by decide +kernel) rfl
set_option maxRecDepth 100000 in
theorem lk_X1_44 : Cond.methodLink RX1 44 Lib.Math.max.name ∈ aw_tbl := aw_in4 121 (by decide +kernel) rfl
set_option maxRecDepth 100000 in
theorem lk_X1_53 : Cond.methodLink RX1 53 yX1_placesBelow ∈ aw_tbl := aw_in4 124 (by decide +kernel) rfl
set_option maxRecDepth 100000 in
theorem lk_X9_262 : Cond.methodLink RX9 262 yX1_moved ∈ aw_tbl := aw_in4 127 (by decide +kernel) rfl
set_option maxRecDepth 100000 in
theorem lk_X1_57 : Cond.methodLink RX1 57 Lib.Math.min.name ∈ aw_tbl := aw_in4 131 (by decide +kernel) rfl
set_option maxRecDepth 100000 in
theorem lk_X9_265 : Cond.methodLink RX9 265 yX1_leastMinutes ∈ aw_tbl := aw_in4 132 (by decide +kernel) rfl
set_option maxRecDepth 100000 in
theorem lk_X1_61 : Cond.methodLink RX1 61 yJ7_fill_53178 ∈ aw_tbl := aw_in4 137 (by decide +kernel) rfl
set_option maxRecDepth 100000 in
theorem lk_X1_67 : Cond.methodLink RX1 67 yX1_send ∈ aw_tbl := aw_in4 138 (by decide +kernel) rfl
set_option maxRecDepth 100000 in
theorem lk_X1_75 : Cond.methodLink RX1 75 Lib.Math.abs.name ∈ aw_tbl := aw_in4 143 (by decide +kernel) rfl
set_option maxRecDepth 100000 in
theorem lk_L_115 : Cond.methodLink RL 115 yX9_dead ∈ aw_tbl := aw_in4 144 (by decide +kernel) rfl
set_option maxRecDepth 100000 in
theorem lk_X9_272 : Cond.methodLink RX9 272 yX6_prepare ∈ aw_tbl := aw_in4 148 (by decide +kernel) rfl
set_option maxRecDepth 100000 in
theorem lk_X6_15 : Cond.methodLink RX6 15 yX3_saying ∈ aw_tbl := aw_in4 152 (by decide +kernel) rfl
set_option maxRecDepth 100000 in
theorem lk_X9_275 : Cond.methodLink RX9 275 yX6_deadWay ∈ aw_tbl := aw_in4 153 (by decide +kernel) rfl
set_option maxRecDepth 100000 in
theorem lk_X6_35 : Cond.methodLink RX6 35 yX6_wayHome ∈ aw_tbl := aw_in4 157 (by decide +kernel) rfl
set_option maxRecDepth 100000 in
theorem lk_X6_45 : Cond.methodLink RX6 45 yX3_letsStand ∈ aw_tbl := aw_in4 161 (by decide +kernel) rfl
set_option maxRecDepth 100000 in
theorem lk_X6_52 : Cond.methodLink RX6 52 yX3_minutesTo ∈ aw_tbl := aw_in4 162 (by decide +kernel) rfl
set_option maxRecDepth 100000 in
theorem lk_X6_55 : Cond.methodLink RX6 55 Lib.Math.min.name ∈ aw_tbl := aw_in4 163 (by decide +kernel) rfl
set_option maxRecDepth 100000 in
theorem lk_L_119 : Cond.methodLink RL 119 yX9_toLift ∈ aw_tbl := aw_in4 164 (by decide +kernel) rfl
set_option maxRecDepth 100000 in
theorem lk_X9_279 : Cond.methodLink RX9 279 yX6_fewestLifted ∈ aw_tbl := aw_in4 168 (by decide +kernel) rfl
set_option maxRecDepth 100000 in
theorem lk_X6_63 : Cond.methodLink RX6 63 yJ6_bitCount_0f7a4 ∈ aw_tbl := aw_in4 172 (by decide +kernel) rfl
set_option maxRecDepth 100000 in
theorem lk_X6_69 : Cond.methodLink RX6 69 yX6_deadWay ∈ aw_tbl := aw_in4 178 (by decide +kernel) rfl
set_option maxRecDepth 100000 in
theorem lk_L_123 : Cond.methodLink RL 123 yX9_reading ∈ aw_tbl := aw_in4 179 (by decide +kernel) rfl
set_option maxRecDepth 100000 in
theorem lk_X9_285 : Cond.methodLink RX9 285 yX0_add ∈ aw_tbl := aw_in4 183 (by decide +kernel) rfl
set_option maxRecDepth 100000 in
theorem lk_X0_39 : Cond.methodLink RX0 39 yX0_readDigits ∈ aw_tbl := aw_in4 187 (by decide +kernel) rfl
set_option maxRecDepth 100000 in
theorem lk_X0_43 : Cond.methodLink RX0 43 yX0_digitsIn ∈ aw_tbl := aw_in4 191 (by decide +kernel) rfl
set_option maxRecDepth 100000 in
theorem lk_L_127 : Cond.methodLink RL 127 yX9_jumpers ∈ aw_tbl := aw_in4 195 (by decide +kernel) rfl
set_option maxRecDepth 100000 in
theorem lk_X9_289 : Cond.methodLink RX9 289 yX0_nextOfRank ∈ aw_tbl := aw_in4 199 (by decide +kernel) rfl
set_option maxRecDepth 100000 in
theorem lk_X9_292 : Cond.methodLink RX9 292 yX0_findJumpers ∈ aw_tbl := aw_in4 203 (by decide +kernel) rfl
set_option maxRecDepth 100000 in
theorem lk_X0_51 : Cond.methodLink RX0 51 yX0_findCommon ∈ aw_tbl := aw_in4 207 (by decide +kernel) rfl
set_option maxRecDepth 100000 in
theorem lk_X0_58 : Cond.methodLink RX0 58 yJ6_bitCount_0f7a4 ∈ aw_tbl := aw_in4 211 (by decide +kernel) rfl
set_option maxRecDepth 100000 in
theorem lk_X0_63 : Cond.methodLink RX0 63 yX0_isOrderedWithout ∈ aw_tbl := aw_in4 212 (by decide +kernel) rfl
set_option maxRecDepth 100000 in
theorem lk_X0_72 : Cond.methodLink RX0 72 yX0_cabsOf ∈ aw_tbl := aw_in4 216 (by decide +kernel) rfl
set_option maxRecDepth 100000 in
theorem lk_L_131 : Cond.methodLink RL 131 yX9_cant ∈ aw_tbl := aw_in4 220 (by decide +kernel) rfl
set_option maxRecDepth 100000 in
theorem lk_X9_305 : Cond.methodLink RX9 305 yX0_firstAgainst ∈ aw_tbl := aw_in4 224 (by decide +kernel) rfl
set_option maxRecDepth 100000 in
theorem lk_X0_80 : Cond.methodLink RX0 80 yX3_minutesTo ∈ aw_tbl := aw_in4 228 (by decide +kernel) rfl
set_option maxRecDepth 100000 in
theorem lk_L_135 : Cond.methodLink RL 135 yX9_wish ∈ aw_tbl := aw_in4 229 (by decide +kernel) rfl
set_option maxRecDepth 100000 in
theorem lk_L_139 : Cond.methodLink RL 139 yX9_rings ∈ aw_tbl := aw_in4 233 (by decide +kernel) rfl
set_option maxRecDepth 100000 in
theorem lk_X9_309 : Cond.methodLink RX9 309 yX7_greatest ∈ aw_tbl := aw_in4 237 (by decide +kernel) rfl
set_option maxRecDepth 100000 in
theorem lk_X7_27 : Cond.methodLink RX7 27 yX7_wishes ∈ aw_tbl := aw_in5 1 (by decide +kernel) rfl
set_option maxRecDepth 100000 in
theorem lk_X7_31 : Cond.methodLink RX7 31 yX7_offer ∈ aw_tbl := aw_in5 4 (by decide +kernel) rfl
set_option maxRecDepth 100000 in
theorem lk_X7_55 : Cond.methodLink RX7 55 yX7_findWays ∈ aw_tbl := aw_in5 8 (by decide +kernel) rfl
set_option maxRecDepth 100000 in
theorem lk_X7_68 : Cond.methodLink RX7 68 yJ7_fill_53178 ∈ aw_tbl := aw_in5 13 (by decide +kernel) rfl
set_option maxRecDepth 100000 in
theorem lk_X7_74 : Cond.methodLink RX7 74 yX7_follow ∈ aw_tbl := aw_in5 14 (by decide +kernel) rfl
set_option maxRecDepth 100000 in
theorem lk_X7_64 : Cond.methodLink RX7 64 yX7_tail ∈ aw_tbl := aw_in5 18 (by decide +kernel) rfl
set_option maxRecDepth 100000 in
theorem lk_X7_48 : Cond.methodLink RX7 48 yX7_isChosen ∈ aw_tbl := aw_in5 22 (by decide +kernel) rfl
set_option maxRecDepth 100000 in
theorem lk_X7_77 : Cond.methodLink RX7 77 yX7_head ∈ aw_tbl := aw_in5 26 (by decide +kernel) rfl
set_option maxRecDepth 100000 in
theorem lk_X7_60 : Cond.methodLink RX7 60 yX7_worthOf ∈ aw_tbl := aw_in5 30 (by decide +kernel) rfl
set_option maxRecDepth 100000 in
theorem lk_L_143 : Cond.methodLink RL 143 yX9_turn ∈ aw_tbl := aw_in5 34 (by decide +kernel) rfl
set_option maxRecDepth 100000 in
theorem lk_X9_313 : Cond.methodLink RX9 313 yX5_turnRing ∈ aw_tbl := aw_in5 38 (by decide +kernel) rfl
set_option maxRecDepth 100000 in
theorem lk_X5_157 : Cond.methodLink RX5 157 yX5_takeFreePlace ∈ aw_tbl := aw_in5 42 (by decide +kernel) rfl
set_option maxRecDepth 100000 in
theorem lk_X9_316 : Cond.methodLink RX9 316 yJ6_bitCount_0f7a4 ∈ aw_tbl := aw_in5 46 (by decide +kernel) rfl
set_option maxRecDepth 100000 in
theorem lk_L_147 : Cond.methodLink RL 147 yX9_earned ∈ aw_tbl := aw_in5 47 (by decide +kernel) rfl
set_option maxRecDepth 100000 in
theorem lk_X9_321 : Cond.methodLink RX9 321 Lib.Math.max.name ∈ aw_tbl := aw_in5 51 (by decide +kernel) rfl
set_option maxRecDepth 100000 in
theorem lk_X9_324 : Cond.methodLink RX9 324 Lib.Math.min.name ∈ aw_tbl := aw_in5 52 (by decide +kernel) rfl
set_option maxRecDepth 100000 in
theorem lk_L_151 : Cond.methodLink RL 151 yX9_image ∈ aw_tbl := aw_in5 53 (by decide +kernel) rfl
set_option maxRecDepth 100000 in
theorem lk_X9_327 : Cond.methodLink RX9 327 yX5_copyFrom ∈ aw_tbl := aw_in5 57 (by decide +kernel) rfl
set_option maxRecDepth 100000 in
theorem lk_X5_49 : Cond.methodLink RX5 49 yX2_copyFrom ∈ aw_tbl := aw_in5 61 (by decide +kernel) rfl
set_option maxRecDepth 100000 in
theorem lk_L_155 : Cond.methodLink RL 155 yX9_back ∈ aw_tbl := aw_in5 65 (by decide +kernel) rfl
set_option maxRecDepth 100000 in
theorem lk_L_159 : Cond.methodLink RL 159 yX9_count ∈ aw_tbl := aw_in5 69 (by decide +kernel) rfl
set_option maxRecDepth 100000 in
theorem lk_X9_331 : Cond.methodLink RX9 331 yX5_inState ∈ aw_tbl := aw_in5 73 (by decide +kernel) rfl
set_option maxRecDepth 100000 in
theorem lk_L_12 : Cond.methodLink RL 12 yX10_init ∈ aw_tbl := aw_in5 79 (by decide +kernel) rfl
set_option maxRecDepth 100000 in
theorem lk_X10_1 : Cond.methodLink RX10 1 objectInit ∈ aw_tbl := aw_in5 82 (by decide +kernel) rfl
set_option maxRecDepth 100000 in
theorem lk_L_17 : Cond.methodLink RL 17 yX10_feed ∈ aw_tbl := aw_in6 7 (by decide +kernel) rfl
set_option maxRecDepth 100000 in
theorem lk_L_22 : Cond.methodLink RL 22 yX10_end ∈ aw_tbl := aw_in6 11 (by decide +kernel) rfl
set_option maxRecDepth 100000 in
theorem lk_X10_128 : Cond.methodLink RX10 128 yX10_in ∈ aw_tbl := aw_in6 15 (by decide +kernel) rfl
set_option maxRecDepth 100000 in
theorem lk_L_27 : Cond.methodLink RL 27 yX10_fault ∈ aw_tbl := aw_in6 18 (by decide +kernel) rfl
set_option maxRecDepth 100000 in
theorem lk_X10_195 : Cond.methodLink RX10 195 yX10_leads ∈ aw_tbl := aw_in6 22 (by decide +kernel) rfl
set_option maxRecDepth 100000 in
theorem lk_X10_145 : Cond.methodLink RX10 145 yX10_isLetter ∈ aw_tbl := aw_in6 26 (by decide +kernel) rfl
set_option maxRecDepth 100000 in
theorem lk_X10_149 : Cond.methodLink RX10 149 yX10_isDigit ∈ aw_tbl := aw_in6 29 (by decide +kernel) rfl
set_option maxRecDepth 100000 in
theorem lk_X10_229 : Cond.methodLink RX10 229 yX10_line ∈ aw_tbl := aw_in6 35 (by decide +kernel) rfl
set_option maxRecDepth 100000 in
theorem lk_X10_174 : Cond.methodLink RX10 174 yX10_isWord ∈ aw_tbl := aw_in6 40 (by decide +kernel) rfl
set_option maxRecDepth 100000 in
theorem lk_X10_168 : Cond.methodLink RX10 168 yX10_packed ∈ aw_tbl := aw_in6 44 (by decide +kernel) rfl
set_option maxRecDepth 100000 in
theorem lk_X10_158 : Cond.methodLink RX10 158 yJ0_length_8abf5 ∈ aw_tbl := aw_in6 47 (by decide +kernel) rfl
set_option maxRecDepth 100000 in
theorem lk_X10_164 : Cond.methodLink RX10 164 yJ0_charAt_5068e ∈ aw_tbl := aw_in6 48 (by decide +kernel) rfl
set_option maxRecDepth 100000 in
theorem lk_X10_214 : Cond.methodLink RX10 214 yX10_rankLine ∈ aw_tbl := aw_in6 49 (by decide +kernel) rfl
set_option maxRecDepth 100000 in
theorem lk_X10_188 : Cond.methodLink RX10 188 yX10_isName ∈ aw_tbl := aw_in6 53 (by decide +kernel) rfl
set_option maxRecDepth 100000 in
theorem lk_X10_198 : Cond.methodLink RX10 198 yX10_named ∈ aw_tbl := aw_in6 61 (by decide +kernel) rfl
set_option maxRecDepth 100000 in
theorem lk_X10_201 : Cond.methodLink RX10 201 yX10_number ∈ aw_tbl := aw_in6 65 (by decide +kernel) rfl
set_option maxRecDepth 100000 in
theorem lk_X10_205 : Cond.methodLink RX10 205 yX10_closes ∈ aw_tbl := aw_in6 69 (by decide +kernel) rfl
set_option maxRecDepth 100000 in
theorem lk_X10_217 : Cond.methodLink RX10 217 yX10_letLine ∈ aw_tbl := aw_in6 73 (by decide +kernel) rfl
set_option maxRecDepth 100000 in
theorem lk_X10_220 : Cond.methodLink RX10 220 yX10_fareLine ∈ aw_tbl := aw_in6 77 (by decide +kernel) rfl
set_option maxRecDepth 100000 in
theorem lk_X10_223 : Cond.methodLink RX10 223 yX10_shortLine ∈ aw_tbl := aw_in6 81 (by decide +kernel) rfl
set_option maxRecDepth 100000 in
theorem lk_X10_226 : Cond.methodLink RX10 226 yX10_coinLine ∈ aw_tbl := aw_in6 85 (by decide +kernel) rfl
set_option maxRecDepth 100000 in
theorem lk_L_31 : Cond.methodLink RL 31 yX10_city ∈ aw_tbl := aw_in6 89 (by decide +kernel) rfl
set_option maxRecDepth 100000 in
theorem lk_X10_232 : Cond.methodLink RX10 232 yX10_fault ∈ aw_tbl := aw_in6 93 (by decide +kernel) rfl
set_option maxRecDepth 100000 in
theorem lk_L_36 : Cond.methodLink RL 36 yX10_rank ∈ aw_tbl := aw_in6 94 (by decide +kernel) rfl
set_option maxRecDepth 100000 in
theorem lk_X10_255 : Cond.methodLink RX10 255 yX10_isRank ∈ aw_tbl := aw_in6 98 (by decide +kernel) rfl
set_option maxRecDepth 100000 in
theorem lk_L_41 : Cond.methodLink RL 41 yX10_may ∈ aw_tbl := aw_in6 102 (by decide +kernel) rfl
set_option maxRecDepth 100000 in
theorem lk_X10_258 : Cond.methodLink RX10 258 yX10_canStand ∈ aw_tbl := aw_in6 106 (by decide +kernel) rfl
set_option maxRecDepth 100000 in
theorem lk_L_45 : Cond.methodLink RL 45 yX10_price ∈ aw_tbl := aw_in6 110 (by decide +kernel) rfl
set_option maxRecDepth 100000 in
theorem lk_X10_262 : Cond.methodLink RX10 262 yX10_areMinutes ∈ aw_tbl := aw_in6 114 (by decide +kernel) rfl
set_option maxRecDepth 100000 in
theorem lk_X10_265 : Cond.methodLink RX10 265 yX10_priceOf ∈ aw_tbl := aw_in6 117 (by decide +kernel) rfl
set_option maxRecDepth 100000 in
theorem lk_L_49 : Cond.methodLink RL 49 yX10_cab ∈ aw_tbl := aw_in6 121 (by decide +kernel) rfl
set_option maxRecDepth 100000 in
theorem lk_X10_269 : Cond.methodLink RX10 269 yX10_sets ∈ aw_tbl := aw_in6 125 (by decide +kernel) rfl
set_option maxRecDepth 100000 in
theorem lk_L_53 : Cond.methodLink RL 53 yX10_of ∈ aw_tbl := aw_in6 129 (by decide +kernel) rfl
set_option maxRecDepth 100000 in
theorem lk_X10_273 : Cond.methodLink RX10 273 yX10_isCab ∈ aw_tbl := aw_in6 133 (by decide +kernel) rfl
set_option maxRecDepth 100000 in
theorem lk_X10_276 : Cond.methodLink RX10 276 yX10_of0 ∈ aw_tbl := aw_in6 137 (by decide +kernel) rfl
set_option maxRecDepth 100000 in
theorem lk_X10_279 : Cond.methodLink RX10 279 yX10_place ∈ aw_tbl := aw_in6 141 (by decide +kernel) rfl
set_option maxRecDepth 100000 in
theorem lk_X10_283 : Cond.methodLink RX10 283 yX10_posOf ∈ aw_tbl := aw_in6 145 (by decide +kernel) rfl
set_option maxRecDepth 100000 in
theorem lk_L_58 : Cond.methodLink RL 58 yX10_drive ∈ aw_tbl := aw_in6 149 (by decide +kernel) rfl
set_option maxRecDepth 100000 in
theorem lk_X10_293 : Cond.methodLink RX10 293 yX10_isAt ∈ aw_tbl := aw_in6 153 (by decide +kernel) rfl
set_option maxRecDepth 100000 in
theorem lk_X10_296 : Cond.methodLink RX10 296 yX10_apart ∈ aw_tbl := aw_in6 157 (by decide +kernel) rfl
set_option maxRecDepth 100000 in
theorem lk_X10_299 : Cond.methodLink RX10 299 yX10_arrives ∈ aw_tbl := aw_in6 160 (by decide +kernel) rfl
set_option maxRecDepth 100000 in
theorem lk_X10_286 : Cond.methodLink RX10 286 yX10_room ∈ aw_tbl := aw_in6 164 (by decide +kernel) rfl
set_option maxRecDepth 100000 in
theorem lk_X10_289 : Cond.methodLink RX10 289 yX10_passed ∈ aw_tbl := aw_in6 168 (by decide +kernel) rfl
set_option maxRecDepth 100000 in
theorem lk_L_62 : Cond.methodLink RL 62 yX10_row ∈ aw_tbl := aw_in6 172 (by decide +kernel) rfl
set_option maxRecDepth 100000 in
theorem lk_L_66 : Cond.methodLink RL 66 yX10_take ∈ aw_tbl := aw_in6 176 (by decide +kernel) rfl
set_option maxRecDepth 100000 in
theorem lk_X10_303 : Cond.methodLink RX10 303 yX10_isFare ∈ aw_tbl := aw_in6 180 (by decide +kernel) rfl
set_option maxRecDepth 100000 in
theorem lk_X10_306 : Cond.methodLink RX10 306 yX10_leaves ∈ aw_tbl := aw_in6 183 (by decide +kernel) rfl
set_option maxRecDepth 100000 in
theorem lk_X10_309 : Cond.methodLink RX10 309 yX10_busies ∈ aw_tbl := aw_in6 187 (by decide +kernel) rfl
set_option maxRecDepth 100000 in
theorem lk_L_71 : Cond.methodLink RL 71 yX10_call ∈ aw_tbl := aw_in6 191 (by decide +kernel) rfl
set_option maxRecDepth 100000 in
theorem lk_L_76 : Cond.methodLink RL 76 yX10_refuse ∈ aw_tbl := aw_in6 195 (by decide +kernel) rfl
set_option maxRecDepth 100000 in
theorem lk_L_80 : Cond.methodLink RL 80 yX10_change ∈ aw_tbl := aw_in6 199 (by decide +kernel) rfl
set_option maxRecDepth 100000 in
theorem lk_L_84 : Cond.methodLink RL 84 yX10_go ∈ aw_tbl := aw_in6 203 (by decide +kernel) rfl
set_option maxRecDepth 100000 in
theorem lk_L_88 : Cond.methodLink RL 88 yX10_pass ∈ aw_tbl := aw_in6 207 (by decide +kernel) rfl
set_option maxRecDepth 100000 in
theorem lk_L_93 : Cond.methodLink RL 93 yX10_chance ∈ aw_tbl := aw_in6 211 (by decide +kernel) rfl
set_option maxRecDepth 100000 in
theorem lk_L_97 : Cond.methodLink RL 97 yX10_worth ∈ aw_tbl := aw_in6 215 (by decide +kernel) rfl
set_option maxRecDepth 100000 in
theorem lk_X10_338 : Cond.methodLink RX10 338 yX10_works ∈ aw_tbl := aw_in6 219 (by decide +kernel) rfl
set_option maxRecDepth 100000 in
theorem lk_X10_323 : Cond.methodLink RX10 323 yX10_brings ∈ aw_tbl := aw_in6 223 (by decide +kernel) rfl
set_option maxRecDepth 100000 in
theorem lk_X10_317 : Cond.methodLink RX10 317 yX10_worthOf ∈ aw_tbl := aw_in6 227 (by decide +kernel) rfl
set_option maxRecDepth 100000 in
theorem lk_X10_328 : Cond.methodLink RX10 328 yX10_goingFrom ∈ aw_tbl := aw_in6 233 (by decide +kernel) rfl
set_option maxRecDepth 100000 in
theorem lk_X10_335 : Cond.methodLink RX10 335 yX10_worthFrom ∈ aw_tbl := aw_in6 238 (by decide +kernel) rfl
set_option maxRecDepth 100000 in
theorem lk_X10_314 : Cond.methodLink RX10 314 yX10_aheadAt ∈ aw_tbl := aw_in7 2 (by decide +kernel) rfl
set_option maxRecDepth 100000 in
theorem lk_L_101 : Cond.methodLink RL 101 yX10_going ∈ aw_tbl := aw_in7 6 (by decide +kernel) rfl
set_option maxRecDepth 100000 in
theorem lk_X10_341 : Cond.methodLink RX10 341 yX10_isGoing ∈ aw_tbl := aw_in7 10 (by decide +kernel) rfl
set_option maxRecDepth 100000 in
theorem lk_L_106 : Cond.methodLink RL 106 yX10_thumb ∈ aw_tbl := aw_in7 14 (by decide +kernel) rfl
set_option maxRecDepth 100000 in
theorem lk_X10_344 : Cond.methodLink RX10 344 yX10_rankBy ∈ aw_tbl := aw_in7 18 (by decide +kernel) rfl
set_option maxRecDepth 100000 in
theorem lk_L_110 : Cond.methodLink RL 110 yX10_people ∈ aw_tbl := aw_in7 22 (by decide +kernel) rfl
set_option maxRecDepth 100000 in
theorem lk_L_114 : Cond.methodLink RL 114 yX10_brought ∈ aw_tbl := aw_in7 26 (by decide +kernel) rfl
set_option maxRecDepth 100000 in
theorem lk_X10_348 : Cond.methodLink RX10 348 Lib.Math.max.name ∈ aw_tbl := aw_in7 30 (by decide +kernel) rfl
set_option maxRecDepth 100000 in
theorem lk_X10_353 : Cond.methodLink RX10 353 yX10_oneMore ∈ aw_tbl := aw_in7 31 (by decide +kernel) rfl
set_option maxRecDepth 100000 in
theorem lk_L_118 : Cond.methodLink RL 118 yX10_dead ∈ aw_tbl := aw_in7 36 (by decide +kernel) rfl
set_option maxRecDepth 100000 in
theorem lk_X10_359 : Cond.methodLink RX10 359 yX10_deadBy ∈ aw_tbl := aw_in7 40 (by decide +kernel) rfl
set_option maxRecDepth 100000 in
theorem lk_X10_356 : Cond.methodLink RX10 356 Lib.Math.min.name ∈ aw_tbl := aw_in7 44 (by decide +kernel) rfl
set_option maxRecDepth 100000 in
theorem lk_L_122 : Cond.methodLink RL 122 yX10_toLift ∈ aw_tbl := aw_in7 45 (by decide +kernel) rfl
set_option maxRecDepth 100000 in
theorem lk_X10_362 : Cond.methodLink RX10 362 yX10_ones ∈ aw_tbl := aw_in7 49 (by decide +kernel) rfl
set_option maxRecDepth 100000 in
theorem lk_L_126 : Cond.methodLink RL 126 yX10_reading ∈ aw_tbl := aw_in7 52 (by decide +kernel) rfl
set_option maxRecDepth 100000 in
theorem lk_L_130 : Cond.methodLink RL 130 yX10_jumpers ∈ aw_tbl := aw_in7 56 (by decide +kernel) rfl
set_option maxRecDepth 100000 in
theorem lk_X10_365 : Cond.methodLink RX10 365 yX10_posIn ∈ aw_tbl := aw_in7 60 (by decide +kernel) rfl
set_option maxRecDepth 100000 in
theorem lk_X10_368 : Cond.methodLink RX10 368 yX10_isLike ∈ aw_tbl := aw_in7 64 (by decide +kernel) rfl
set_option maxRecDepth 100000 in
theorem lk_L_134 : Cond.methodLink RL 134 yX10_cant ∈ aw_tbl := aw_in7 68 (by decide +kernel) rfl
set_option maxRecDepth 100000 in
theorem lk_L_138 : Cond.methodLink RL 138 yX10_wish ∈ aw_tbl := aw_in7 72 (by decide +kernel) rfl
set_option maxRecDepth 100000 in
theorem lk_L_142 : Cond.methodLink RL 142 yX10_rings ∈ aw_tbl := aw_in7 76 (by decide +kernel) rfl
set_option maxRecDepth 100000 in
theorem lk_X10_371 : Cond.methodLink RX10 371 yX10_isRing ∈ aw_tbl := aw_in7 80 (by decide +kernel) rfl
set_option maxRecDepth 100000 in
theorem lk_L_146 : Cond.methodLink RL 146 yX10_turn ∈ aw_tbl := aw_in7 84 (by decide +kernel) rfl
set_option maxRecDepth 100000 in
theorem lk_X10_374 : Cond.methodLink RX10 374 yX10_rings ∈ aw_tbl := aw_in7 88 (by decide +kernel) rfl
set_option maxRecDepth 100000 in
theorem lk_L_150 : Cond.methodLink RL 150 yX10_earned ∈ aw_tbl := aw_in7 89 (by decide +kernel) rfl
set_option maxRecDepth 100000 in
theorem lk_L_154 : Cond.methodLink RL 154 yX10_image ∈ aw_tbl := aw_in7 93 (by decide +kernel) rfl
set_option maxRecDepth 100000 in
theorem lk_L_158 : Cond.methodLink RL 158 yX10_back ∈ aw_tbl := aw_in7 97 (by decide +kernel) rfl
set_option maxRecDepth 100000 in
theorem lk_L_162 : Cond.methodLink RL 162 yX10_count ∈ aw_tbl := aw_in7 101 (by decide +kernel) rfl
set_option maxRecDepth 100000 in
theorem mm_abs : Cond.static Lib.Math.abs.name ∈ aw_tbl ∧ Cond.initialized "java/lang/Math" ∈ aw_tbl ∧ Cond.code Lib.Math.abs.name Lib.Math.abs.code 1 (some .int) ∈ aw_tbl := ⟨aw_in3 203 (by decide +kernel) rfl, aw_in1 17 (by decide +kernel) rfl, aw_in3 204 (by decide +kernel) rfl⟩
set_option maxRecDepth 100000 in
theorem mm_max : Cond.static Lib.Math.max.name ∈ aw_tbl ∧ Cond.initialized "java/lang/Math" ∈ aw_tbl ∧ Cond.code Lib.Math.max.name Lib.Math.max.code 2 (some .int) ∈ aw_tbl := ⟨aw_in4 122 (by decide +kernel) rfl, aw_in1 17 (by decide +kernel) rfl, aw_in4 123 (by decide +kernel) rfl⟩
set_option maxRecDepth 100000 in
theorem mm_min : Cond.static Lib.Math.min.name ∈ aw_tbl ∧ Cond.initialized "java/lang/Math" ∈ aw_tbl ∧ Cond.code Lib.Math.min.name Lib.Math.min.code 2 (some .int) ∈ aw_tbl := ⟨aw_in3 72 (by decide +kernel) rfl, aw_in1 17 (by decide +kernel) rfl, aw_in3 73 (by decide +kernel) rfl⟩
set_option maxRecDepth 100000 in
theorem mm_oi : Cond.instanceMethod objectInit ∈ aw_tbl ∧ Cond.code objectInit ⟨#[0xb1]⟩ 1 none ∈ aw_tbl := ⟨aw_in1 26 (by decide +kernel) rfl, aw_in1 27 (by decide +kernel) rfl⟩
set_option maxRecDepth 100000 in
theorem mm_ac : Cond.native arraycopyName ∈ aw_tbl ∧ Cond.static arraycopyName ∈ aw_tbl ∧ Cond.initialized "java/lang/System" ∈ aw_tbl := ⟨aw_in3 230 (by decide +kernel) rfl, aw_in3 229 (by decide +kernel) rfl, aw_in1 18 (by decide +kernel) rfl⟩
