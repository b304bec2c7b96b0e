/-- the cells behind new CabRanks() (names 0 to 170) and new CabRanksModel() (171 to 208) -/
def SH : aw_Sh := [.inl 9, .inl 4, .inr (1, 500), .inl 3, .inr (0, 6), .inr (0, 6), .inr (0, 6), .inr (0, 6), .inr (0, 8), .inr (0, 8), .inr (0, 8), .inr (0, 6), .inr (0, 6), .inl 3, .inr (0, 6), .inr (0, 6), .inr (0, 6), .inr (0, 6), .inr (0, 8), .inr (0, 8), .inr (0, 8), .inl 5, .inr (4, 16), .inr (6, 6), .inr (0, 16), .inr (0, 16), .inr (0, 16), .inr (0, 16), .inr (0, 16), .inr (0, 16), .inr (0, 6), .inr (0, 6), .inr (0, 200), .inl 2, .inl 2, .inl 2, .inl 2, .inl 2, .inl 2, .inl 2, .inl 2, .inl 2, .inl 2, .inl 2, .inl 2, .inl 2, .inl 2, .inl 2, .inl 2, .inr (5, 3), .inr (2, 3), .inl 8, .inr (0, 6), .inr (0, 6), .inr (0, 6), .inr (0, 6), .inr (0, 7260), .inl 1, .inr (0, 6), .inr (0, 6), .inr (0, 33), .inr (0, 33), .inl 6, .inr (0, 4), .inl 0, .inr (0, 12), .inr (0, 12), .inr (0, 12), .inr (0, 12), .inr (6, 12), .inr (0, 6), .inr (0, 6), .inr (0, 6), .inr (0, 6), .inr (0, 6), .inr (0, 6), .inr (0, 6), .inr (0, 6), .inr (0, 6), .inr (0, 6), .inr (0, 6), .inr (0, 6), .inr (0, 6), .inr (0, 6), .inl 7, .inr (0, 6), .inr (0, 6), .inl 5, .inr (4, 16), .inr (6, 6), .inr (0, 16), .inr (0, 16), .inr (0, 16), .inr (0, 16), .inr (0, 16), .inr (0, 16), .inr (0, 6), .inr (0, 6), .inr (0, 200), .inl 2, .inl 2, .inl 2, .inl 2, .inl 2, .inl 2, .inl 2, .inl 2, .inl 2, .inl 2, .inl 2, .inl 2, .inl 2, .inl 2, .inl 2, .inl 2, .inl 5, .inr (4, 16), .inr (6, 6), .inr (0, 16), .inr (0, 16), .inr (0, 16), .inr (0, 16), .inr (0, 16), .inr (0, 16), .inr (0, 6), .inr (0, 6), .inr (0, 200), .inl 2, .inl 2, .inl 2, .inl 2, .inl 2, .inl 2, .inl 2, .inl 2, .inl 2, .inl 2, .inl 2, .inl 2, .inl 2, .inl 2, .inl 2, .inl 2, .inl 5, .inr (4, 16), .inr (6, 6), .inr (0, 16), .inr (0, 16), .inr (0, 16), .inr (0, 16), .inr (0, 16), .inr (0, 16), .inr (0, 6), .inr (0, 6), .inr (0, 200), .inl 2, .inl 2, .inl 2, .inl 2, .inl 2, .inl 2, .inl 2, .inl 2, .inl 2, .inl 2, .inl 2, .inl 2, .inl 2, .inl 2, .inl 2, .inl 2, .inl 10, .inr (1, 500), .inr (3, 6), .inr (0, 18), .inr (0, 32), .inr (0, 4), .inr (0, 2), .inr (0, 18), .inr (0, 32), .inr (0, 4), .inr (0, 2), .inr (0, 176), .inr (0, 108), .inr (0, 6), .inr (0, 200), .inr (0, 6), .inr (0, 18), .inr (0, 12), .inr (0, 12), .inr (0, 12), .inr (0, 72), .inr (2, 3), .inr (0, 3), .inr (0, 3), .inr (0, 528), .inr (0, 324), .inr (0, 18), .inr (0, 3), .inr (0, 600), .inr (0, 18), .inr (3, 7260), .inr (3, 726), .inr (0, 6), .inr (0, 6), .inr (0, 36), .inr (0, 12), .inr (0, 12), .inr (0, 6)]
/-- the references that the constructors have laid -/
def RF0 : Nat → List (Option Nat)
  | 0 => [some 1, some 13, some 21, some 49, some 50, some 51, some 57, some 62, some 64, some 84]
  | 1 => [some 2, none, some 3, some 11, some 12]
  | 3 => [none, some 4, some 5, some 6, none, some 7, some 8, some 9, some 10]
  | 13 => [none, some 14, some 15, some 16, none, some 17, some 18, some 19, some 20]
  | 21 => [none, none, some 22, some 23, some 30, some 31, none, some 32]
  | 22 => [some 33, some 34, some 35, some 36, some 37, some 38, some 39, some 40, some 41, some 42, some 43, some 44, some 45, some 46, some 47, some 48]
  | 23 => [some 24, some 25, some 26, some 27, some 28, some 29]
  | 49 => [some 87, some 115, some 143]
  | 51 => [some 52, some 53, some 54, some 55, some 56]
  | 57 => [some 58, some 59, none, none, some 60, some 61]
  | 62 => [some 63]
  | 64 => [none, none, none, none, some 65, some 66, some 67, some 68, some 69, some 82, some 83]
  | 69 => [some 70, some 71, some 72, some 73, some 74, some 75, some 76, some 77, some 78, some 79, some 80, some 81]
  | 84 => [some 85, some 86]
  | 87 => [none, none, some 88, some 89, some 96, some 97, none, some 98]
  | 88 => [some 99, some 100, some 101, some 102, some 103, some 104, some 105, some 106, some 107, some 108, some 109, some 110, some 111, some 112, some 113, some 114]
  | 89 => [some 90, some 91, some 92, some 93, some 94, some 95]
  | 115 => [none, none, some 116, some 117, some 124, some 125, none, some 126]
  | 116 => [some 127, some 128, some 129, some 130, some 131, some 132, some 133, some 134, some 135, some 136, some 137, some 138, some 139, some 140, some 141, some 142]
  | 117 => [some 118, some 119, some 120, some 121, some 122, some 123]
  | 143 => [none, none, some 144, some 145, some 152, some 153, none, some 154]
  | 144 => [some 155, some 156, some 157, some 158, some 159, some 160, some 161, some 162, some 163, some 164, some 165, some 166, some 167, some 168, some 169, some 170]
  | 145 => [some 146, some 147, some 148, some 149, some 150, some 151]
  | 171 => [some 172, none, none, none, none, none, none, some 173, some 174, none, some 175, some 176, some 177, none, none, some 178, none, some 179, some 180, some 181, none, none, none, some 182, some 183, some 184, none, some 185, some 186, some 187, none, some 188, some 189, some 190, some 191, some 192, some 193, some 194, some 195, some 196, some 197, some 198, some 199, some 200, none, some 201, some 202, none, some 203, some 204, some 205, some 206, some 207, some 208]
  | _ => []
/-- the references at any time: tw: town and draft have changed places; cs: the two rows of costs have -/
def RF (tw cs : Bool) (a : Nat) (k : Int) : Option Nat := if a = 0 ∧ k = 1 then some (if tw then 3 else 13) else if a = 1 ∧ k = 2 then some (if tw then 13 else 3) else if a = 57 ∧ k = 4 then some (if cs then 61 else 60) else if a = 57 ∧ k = 5 then some (if cs then 60 else 61) else if k < 0 then none else (RF0 a).getD k.toNat none
theorem sh_0 : SH[(0 : Nat)]? = some (.inl 9) := rfl
theorem sh_1 : SH[(1 : Nat)]? = some (.inl 4) := rfl
theorem sh_2 : SH[(2 : Nat)]? = some (.inr (1, 500)) := rfl
theorem sh_3 : SH[(3 : Nat)]? = some (.inl 3) := rfl
theorem sh_4 : SH[(4 : Nat)]? = some (.inr (0, 6)) := rfl
theorem sh_5 : SH[(5 : Nat)]? = some (.inr (0, 6)) := rfl
theorem sh_6 : SH[(6 : Nat)]? = some (.inr (0, 6)) := rfl
theorem sh_7 : SH[(7 : Nat)]? = some (.inr (0, 6)) := rfl
theorem sh_8 : SH[(8 : Nat)]? = some (.inr (0, 8)) := rfl
theorem sh_9 : SH[(9 : Nat)]? = some (.inr (0, 8)) := rfl
theorem sh_10 : SH[(10 : Nat)]? = some (.inr (0, 8)) := rfl
theorem sh_11 : SH[(11 : Nat)]? = some (.inr (0, 6)) := rfl
theorem sh_12 : SH[(12 : Nat)]? = some (.inr (0, 6)) := rfl
theorem sh_13 : SH[(13 : Nat)]? = some (.inl 3) := rfl
theorem sh_14 : SH[(14 : Nat)]? = some (.inr (0, 6)) := rfl
theorem sh_15 : SH[(15 : Nat)]? = some (.inr (0, 6)) := rfl
theorem sh_16 : SH[(16 : Nat)]? = some (.inr (0, 6)) := rfl
theorem sh_17 : SH[(17 : Nat)]? = some (.inr (0, 6)) := rfl
theorem sh_18 : SH[(18 : Nat)]? = some (.inr (0, 8)) := rfl
theorem sh_19 : SH[(19 : Nat)]? = some (.inr (0, 8)) := rfl
theorem sh_20 : SH[(20 : Nat)]? = some (.inr (0, 8)) := rfl
theorem sh_21 : SH[(21 : Nat)]? = some (.inl 5) := rfl
theorem sh_22 : SH[(22 : Nat)]? = some (.inr (4, 16)) := rfl
theorem sh_23 : SH[(23 : Nat)]? = some (.inr (6, 6)) := rfl
theorem sh_24 : SH[(24 : Nat)]? = some (.inr (0, 16)) := rfl
theorem sh_25 : SH[(25 : Nat)]? = some (.inr (0, 16)) := rfl
theorem sh_26 : SH[(26 : Nat)]? = some (.inr (0, 16)) := rfl
theorem sh_27 : SH[(27 : Nat)]? = some (.inr (0, 16)) := rfl
theorem sh_28 : SH[(28 : Nat)]? = some (.inr (0, 16)) := rfl
theorem sh_29 : SH[(29 : Nat)]? = some (.inr (0, 16)) := rfl
theorem sh_30 : SH[(30 : Nat)]? = some (.inr (0, 6)) := rfl
theorem sh_31 : SH[(31 : Nat)]? = some (.inr (0, 6)) := rfl
theorem sh_32 : SH[(32 : Nat)]? = some (.inr (0, 200)) := rfl
theorem sh_33 : SH[(33 : Nat)]? = some (.inl 2) := rfl
theorem sh_34 : SH[(34 : Nat)]? = some (.inl 2) := rfl
theorem sh_35 : SH[(35 : Nat)]? = some (.inl 2) := rfl
theorem sh_36 : SH[(36 : Nat)]? = some (.inl 2) := rfl
theorem sh_37 : SH[(37 : Nat)]? = some (.inl 2) := rfl
theorem sh_38 : SH[(38 : Nat)]? = some (.inl 2) := rfl
theorem sh_39 : SH[(39 : Nat)]? = some (.inl 2) := rfl
theorem sh_40 : SH[(40 : Nat)]? = some (.inl 2) := rfl
theorem sh_41 : SH[(41 : Nat)]? = some (.inl 2) := rfl
theorem sh_42 : SH[(42 : Nat)]? = some (.inl 2) := rfl
theorem sh_43 : SH[(43 : Nat)]? = some (.inl 2) := rfl
theorem sh_44 : SH[(44 : Nat)]? = some (.inl 2) := rfl
theorem sh_45 : SH[(45 : Nat)]? = some (.inl 2) := rfl
theorem sh_46 : SH[(46 : Nat)]? = some (.inl 2) := rfl
theorem sh_47 : SH[(47 : Nat)]? = some (.inl 2) := rfl
theorem sh_48 : SH[(48 : Nat)]? = some (.inl 2) := rfl
theorem sh_49 : SH[(49 : Nat)]? = some (.inr (5, 3)) := rfl
theorem sh_50 : SH[(50 : Nat)]? = some (.inr (2, 3)) := rfl
theorem sh_51 : SH[(51 : Nat)]? = some (.inl 8) := rfl
theorem sh_52 : SH[(52 : Nat)]? = some (.inr (0, 6)) := rfl
theorem sh_53 : SH[(53 : Nat)]? = some (.inr (0, 6)) := rfl
theorem sh_54 : SH[(54 : Nat)]? = some (.inr (0, 6)) := rfl
theorem sh_55 : SH[(55 : Nat)]? = some (.inr (0, 6)) := rfl
theorem sh_56 : SH[(56 : Nat)]? = some (.inr (0, 7260)) := rfl
theorem sh_57 : SH[(57 : Nat)]? = some (.inl 1) := rfl
theorem sh_58 : SH[(58 : Nat)]? = some (.inr (0, 6)) := rfl
theorem sh_59 : SH[(59 : Nat)]? = some (.inr (0, 6)) := rfl
theorem sh_60 : SH[(60 : Nat)]? = some (.inr (0, 33)) := rfl
theorem sh_61 : SH[(61 : Nat)]? = some (.inr (0, 33)) := rfl
theorem sh_62 : SH[(62 : Nat)]? = some (.inl 6) := rfl
theorem sh_63 : SH[(63 : Nat)]? = some (.inr (0, 4)) := rfl
theorem sh_64 : SH[(64 : Nat)]? = some (.inl 0) := rfl
theorem sh_65 : SH[(65 : Nat)]? = some (.inr (0, 12)) := rfl
theorem sh_66 : SH[(66 : Nat)]? = some (.inr (0, 12)) := rfl
theorem sh_67 : SH[(67 : Nat)]? = some (.inr (0, 12)) := rfl
theorem sh_68 : SH[(68 : Nat)]? = some (.inr (0, 12)) := rfl
theorem sh_69 : SH[(69 : Nat)]? = some (.inr (6, 12)) := rfl
theorem sh_70 : SH[(70 : Nat)]? = some (.inr (0, 6)) := rfl
theorem sh_71 : SH[(71 : Nat)]? = some (.inr (0, 6)) := rfl
theorem sh_72 : SH[(72 : Nat)]? = some (.inr (0, 6)) := rfl
theorem sh_73 : SH[(73 : Nat)]? = some (.inr (0, 6)) := rfl
theorem sh_74 : SH[(74 : Nat)]? = some (.inr (0, 6)) := rfl
theorem sh_75 : SH[(75 : Nat)]? = some (.inr (0, 6)) := rfl
theorem sh_76 : SH[(76 : Nat)]? = some (.inr (0, 6)) := rfl
theorem sh_77 : SH[(77 : Nat)]? = some (.inr (0, 6)) := rfl
theorem sh_78 : SH[(78 : Nat)]? = some (.inr (0, 6)) := rfl
theorem sh_79 : SH[(79 : Nat)]? = some (.inr (0, 6)) := rfl
theorem sh_80 : SH[(80 : Nat)]? = some (.inr (0, 6)) := rfl
theorem sh_81 : SH[(81 : Nat)]? = some (.inr (0, 6)) := rfl
theorem sh_82 : SH[(82 : Nat)]? = some (.inr (0, 6)) := rfl
theorem sh_83 : SH[(83 : Nat)]? = some (.inr (0, 6)) := rfl
theorem sh_84 : SH[(84 : Nat)]? = some (.inl 7) := rfl
theorem sh_85 : SH[(85 : Nat)]? = some (.inr (0, 6)) := rfl
theorem sh_86 : SH[(86 : Nat)]? = some (.inr (0, 6)) := rfl
theorem sh_87 : SH[(87 : Nat)]? = some (.inl 5) := rfl
theorem sh_88 : SH[(88 : Nat)]? = some (.inr (4, 16)) := rfl
theorem sh_89 : SH[(89 : Nat)]? = some (.inr (6, 6)) := rfl
theorem sh_90 : SH[(90 : Nat)]? = some (.inr (0, 16)) := rfl
theorem sh_91 : SH[(91 : Nat)]? = some (.inr (0, 16)) := rfl
theorem sh_92 : SH[(92 : Nat)]? = some (.inr (0, 16)) := rfl
theorem sh_93 : SH[(93 : Nat)]? = some (.inr (0, 16)) := rfl
theorem sh_94 : SH[(94 : Nat)]? = some (.inr (0, 16)) := rfl
theorem sh_95 : SH[(95 : Nat)]? = some (.inr (0, 16)) := rfl
theorem sh_96 : SH[(96 : Nat)]? = some (.inr (0, 6)) := rfl
theorem sh_97 : SH[(97 : Nat)]? = some (.inr (0, 6)) := rfl
theorem sh_98 : SH[(98 : Nat)]? = some (.inr (0, 200)) := rfl
theorem sh_99 : SH[(99 : Nat)]? = some (.inl 2) := rfl
theorem sh_100 : SH[(100 : Nat)]? = some (.inl 2) := rfl
theorem sh_101 : SH[(101 : Nat)]? = some (.inl 2) := rfl
theorem sh_102 : SH[(102 : Nat)]? = some (.inl 2) := rfl
theorem sh_103 : SH[(103 : Nat)]? = some (.inl 2) := rfl
theorem sh_104 : SH[(104 : Nat)]? = some (.inl 2) := rfl
theorem sh_105 : SH[(105 : Nat)]? = some (.inl 2) := rfl
theorem sh_106 : SH[(106 : Nat)]? = some (.inl 2) := rfl
theorem sh_107 : SH[(107 : Nat)]? = some (.inl 2) := rfl
theorem sh_108 : SH[(108 : Nat)]? = some (.inl 2) := rfl
theorem sh_109 : SH[(109 : Nat)]? = some (.inl 2) := rfl
theorem sh_110 : SH[(110 : Nat)]? = some (.inl 2) := rfl
theorem sh_111 : SH[(111 : Nat)]? = some (.inl 2) := rfl
theorem sh_112 : SH[(112 : Nat)]? = some (.inl 2) := rfl
theorem sh_113 : SH[(113 : Nat)]? = some (.inl 2) := rfl
theorem sh_114 : SH[(114 : Nat)]? = some (.inl 2) := rfl
theorem sh_115 : SH[(115 : Nat)]? = some (.inl 5) := rfl
theorem sh_116 : SH[(116 : Nat)]? = some (.inr (4, 16)) := rfl
theorem sh_117 : SH[(117 : Nat)]? = some (.inr (6, 6)) := rfl
theorem sh_118 : SH[(118 : Nat)]? = some (.inr (0, 16)) := rfl
theorem sh_119 : SH[(119 : Nat)]? = some (.inr (0, 16)) := rfl
theorem sh_120 : SH[(120 : Nat)]? = some (.inr (0, 16)) := rfl
theorem sh_121 : SH[(121 : Nat)]? = some (.inr (0, 16)) := rfl
theorem sh_122 : SH[(122 : Nat)]? = some (.inr (0, 16)) := rfl
theorem sh_123 : SH[(123 : Nat)]? = some (.inr (0, 16)) := rfl
theorem sh_124 : SH[(124 : Nat)]? = some (.inr (0, 6)) := rfl
theorem sh_125 : SH[(125 : Nat)]? = some (.inr (0, 6)) := rfl
theorem sh_126 : SH[(126 : Nat)]? = some (.inr (0, 200)) := rfl
theorem sh_127 : SH[(127 : Nat)]? = some (.inl 2) := rfl
theorem sh_128 : SH[(128 : Nat)]? = some (.inl 2) := rfl
theorem sh_129 : SH[(129 : Nat)]? = some (.inl 2) := rfl
theorem sh_130 : SH[(130 : Nat)]? = some (.inl 2) := rfl
theorem sh_131 : SH[(131 : Nat)]? = some (.inl 2) := rfl
theorem sh_132 : SH[(132 : Nat)]? = some (.inl 2) := rfl
theorem sh_133 : SH[(133 : Nat)]? = some (.inl 2) := rfl
theorem sh_134 : SH[(134 : Nat)]? = some (.inl 2) := rfl
theorem sh_135 : SH[(135 : Nat)]? = some (.inl 2) := rfl
theorem sh_136 : SH[(136 : Nat)]? = some (.inl 2) := rfl
theorem sh_137 : SH[(137 : Nat)]? = some (.inl 2) := rfl
theorem sh_138 : SH[(138 : Nat)]? = some (.inl 2) := rfl
theorem sh_139 : SH[(139 : Nat)]? = some (.inl 2) := rfl
theorem sh_140 : SH[(140 : Nat)]? = some (.inl 2) := rfl
theorem sh_141 : SH[(141 : Nat)]? = some (.inl 2) := rfl
theorem sh_142 : SH[(142 : Nat)]? = some (.inl 2) := rfl
theorem sh_143 : SH[(143 : Nat)]? = some (.inl 5) := rfl
theorem sh_144 : SH[(144 : Nat)]? = some (.inr (4, 16)) := rfl
theorem sh_145 : SH[(145 : Nat)]? = some (.inr (6, 6)) := rfl
theorem sh_146 : SH[(146 : Nat)]? = some (.inr (0, 16)) := rfl
theorem sh_147 : SH[(147 : Nat)]? = some (.inr (0, 16)) := rfl
theorem sh_148 : SH[(148 : Nat)]? = some (.inr (0, 16)) := rfl
theorem sh_149 : SH[(149 : Nat)]? = some (.inr (0, 16)) := rfl
theorem sh_150 : SH[(150 : Nat)]? = some (.inr (0, 16)) := rfl
theorem sh_151 : SH[(151 : Nat)]? = some (.inr (0, 16)) := rfl
theorem sh_152 : SH[(152 : Nat)]? = some (.inr (0, 6)) := rfl
theorem sh_153 : SH[(153 : Nat)]? = some (.inr (0, 6)) := rfl
theorem sh_154 : SH[(154 : Nat)]? = some (.inr (0, 200)) := rfl
theorem sh_155 : SH[(155 : Nat)]? = some (.inl 2) := rfl
theorem sh_156 : SH[(156 : Nat)]? = some (.inl 2) := rfl
theorem sh_157 : SH[(157 : Nat)]? = some (.inl 2) := rfl
theorem sh_158 : SH[(158 : Nat)]? = some (.inl 2) := rfl
theorem sh_159 : SH[(159 : Nat)]? = some (.inl 2) := rfl
theorem sh_160 : SH[(160 : Nat)]? = some (.inl 2) := rfl
theorem sh_161 : SH[(161 : Nat)]? = some (.inl 2) := rfl
theorem sh_162 : SH[(162 : Nat)]? = some (.inl 2) := rfl
theorem sh_163 : SH[(163 : Nat)]? = some (.inl 2) := rfl
theorem sh_164 : SH[(164 : Nat)]? = some (.inl 2) := rfl
theorem sh_165 : SH[(165 : Nat)]? = some (.inl 2) := rfl
theorem sh_166 : SH[(166 : Nat)]? = some (.inl 2) := rfl
theorem sh_167 : SH[(167 : Nat)]? = some (.inl 2) := rfl
theorem sh_168 : SH[(168 : Nat)]? = some (.inl 2) := rfl
theorem sh_169 : SH[(169 : Nat)]? = some (.inl 2) := rfl
theorem sh_170 : SH[(170 : Nat)]? = some (.inl 2) := rfl
theorem sh_171 : SH[(171 : Nat)]? = some (.inl 10) := rfl
theorem sh_172 : SH[(172 : Nat)]? = some (.inr (1, 500)) := rfl
theorem sh_173 : SH[(173 : Nat)]? = some (.inr (3, 6)) := rfl
theorem sh_174 : SH[(174 : Nat)]? = some (.inr (0, 18)) := rfl
theorem sh_175 : SH[(175 : Nat)]? = some (.inr (0, 32)) := rfl
theorem sh_176 : SH[(176 : Nat)]? = some (.inr (0, 4)) := rfl
theorem sh_177 : SH[(177 : Nat)]? = some (.inr (0, 2)) := rfl
theorem sh_178 : SH[(178 : Nat)]? = some (.inr (0, 18)) := rfl
theorem sh_179 : SH[(179 : Nat)]? = some (.inr (0, 32)) := rfl
theorem sh_180 : SH[(180 : Nat)]? = some (.inr (0, 4)) := rfl
theorem sh_181 : SH[(181 : Nat)]? = some (.inr (0, 2)) := rfl
theorem sh_182 : SH[(182 : Nat)]? = some (.inr (0, 176)) := rfl
theorem sh_183 : SH[(183 : Nat)]? = some (.inr (0, 108)) := rfl
theorem sh_184 : SH[(184 : Nat)]? = some (.inr (0, 6)) := rfl
theorem sh_185 : SH[(185 : Nat)]? = some (.inr (0, 200)) := rfl
theorem sh_186 : SH[(186 : Nat)]? = some (.inr (0, 6)) := rfl
theorem sh_187 : SH[(187 : Nat)]? = some (.inr (0, 18)) := rfl
theorem sh_188 : SH[(188 : Nat)]? = some (.inr (0, 12)) := rfl
theorem sh_189 : SH[(189 : Nat)]? = some (.inr (0, 12)) := rfl
theorem sh_190 : SH[(190 : Nat)]? = some (.inr (0, 12)) := rfl
theorem sh_191 : SH[(191 : Nat)]? = some (.inr (0, 72)) := rfl
theorem sh_192 : SH[(192 : Nat)]? = some (.inr (2, 3)) := rfl
theorem sh_193 : SH[(193 : Nat)]? = some (.inr (0, 3)) := rfl
theorem sh_194 : SH[(194 : Nat)]? = some (.inr (0, 3)) := rfl
theorem sh_195 : SH[(195 : Nat)]? = some (.inr (0, 528)) := rfl
theorem sh_196 : SH[(196 : Nat)]? = some (.inr (0, 324)) := rfl
theorem sh_197 : SH[(197 : Nat)]? = some (.inr (0, 18)) := rfl
theorem sh_198 : SH[(198 : Nat)]? = some (.inr (0, 3)) := rfl
theorem sh_199 : SH[(199 : Nat)]? = some (.inr (0, 600)) := rfl
theorem sh_200 : SH[(200 : Nat)]? = some (.inr (0, 18)) := rfl
theorem sh_201 : SH[(201 : Nat)]? = some (.inr (3, 7260)) := rfl
theorem sh_202 : SH[(202 : Nat)]? = some (.inr (3, 726)) := rfl
theorem sh_203 : SH[(203 : Nat)]? = some (.inr (0, 6)) := rfl
theorem sh_204 : SH[(204 : Nat)]? = some (.inr (0, 6)) := rfl
theorem sh_205 : SH[(205 : Nat)]? = some (.inr (0, 36)) := rfl
theorem sh_206 : SH[(206 : Nat)]? = some (.inr (0, 12)) := rfl
theorem sh_207 : SH[(207 : Nat)]? = some (.inr (0, 12)) := rfl
theorem sh_208 : SH[(208 : Nat)]? = some (.inr (0, 6)) := rfl
theorem rf_0_0 {tw cs : Bool} : RF tw cs 0 0 = some 1 := rfl
theorem rf_0_2 {tw cs : Bool} : RF tw cs 0 2 = some 21 := rfl
theorem rf_0_3 {tw cs : Bool} : RF tw cs 0 3 = some 49 := rfl
theorem rf_0_4 {tw cs : Bool} : RF tw cs 0 4 = some 50 := rfl
theorem rf_0_5 {tw cs : Bool} : RF tw cs 0 5 = some 51 := rfl
theorem rf_0_6 {tw cs : Bool} : RF tw cs 0 6 = some 57 := rfl
theorem rf_0_7 {tw cs : Bool} : RF tw cs 0 7 = some 62 := rfl
theorem rf_0_8 {tw cs : Bool} : RF tw cs 0 8 = some 64 := rfl
theorem rf_0_9 {tw cs : Bool} : RF tw cs 0 9 = some 84 := rfl
theorem rf_1_0 {tw cs : Bool} : RF tw cs 1 0 = some 2 := rfl
theorem rf_1_3 {tw cs : Bool} : RF tw cs 1 3 = some 11 := rfl
theorem rf_1_4 {tw cs : Bool} : RF tw cs 1 4 = some 12 := rfl
theorem rf_3_1 {tw cs : Bool} : RF tw cs 3 1 = some 4 := rfl
theorem rf_3_2 {tw cs : Bool} : RF tw cs 3 2 = some 5 := rfl
theorem rf_3_3 {tw cs : Bool} : RF tw cs 3 3 = some 6 := rfl
theorem rf_3_5 {tw cs : Bool} : RF tw cs 3 5 = some 7 := rfl
theorem rf_3_6 {tw cs : Bool} : RF tw cs 3 6 = some 8 := rfl
theorem rf_3_7 {tw cs : Bool} : RF tw cs 3 7 = some 9 := rfl
theorem rf_3_8 {tw cs : Bool} : RF tw cs 3 8 = some 10 := rfl
theorem rf_13_1 {tw cs : Bool} : RF tw cs 13 1 = some 14 := rfl
theorem rf_13_2 {tw cs : Bool} : RF tw cs 13 2 = some 15 := rfl
theorem rf_13_3 {tw cs : Bool} : RF tw cs 13 3 = some 16 := rfl
theorem rf_13_5 {tw cs : Bool} : RF tw cs 13 5 = some 17 := rfl
theorem rf_13_6 {tw cs : Bool} : RF tw cs 13 6 = some 18 := rfl
theorem rf_13_7 {tw cs : Bool} : RF tw cs 13 7 = some 19 := rfl
theorem rf_13_8 {tw cs : Bool} : RF tw cs 13 8 = some 20 := rfl
theorem rf_21_2 {tw cs : Bool} : RF tw cs 21 2 = some 22 := rfl
theorem rf_21_3 {tw cs : Bool} : RF tw cs 21 3 = some 23 := rfl
theorem rf_21_4 {tw cs : Bool} : RF tw cs 21 4 = some 30 := rfl
theorem rf_21_5 {tw cs : Bool} : RF tw cs 21 5 = some 31 := rfl
theorem rf_21_7 {tw cs : Bool} : RF tw cs 21 7 = some 32 := rfl
theorem rf_22_0 {tw cs : Bool} : RF tw cs 22 0 = some 33 := rfl
theorem rf_22_1 {tw cs : Bool} : RF tw cs 22 1 = some 34 := rfl
theorem rf_22_2 {tw cs : Bool} : RF tw cs 22 2 = some 35 := rfl
theorem rf_22_3 {tw cs : Bool} : RF tw cs 22 3 = some 36 := rfl
theorem rf_22_4 {tw cs : Bool} : RF tw cs 22 4 = some 37 := rfl
theorem rf_22_5 {tw cs : Bool} : RF tw cs 22 5 = some 38 := rfl
theorem rf_22_6 {tw cs : Bool} : RF tw cs 22 6 = some 39 := rfl
theorem rf_22_7 {tw cs : Bool} : RF tw cs 22 7 = some 40 := rfl
theorem rf_22_8 {tw cs : Bool} : RF tw cs 22 8 = some 41 := rfl
theorem rf_22_9 {tw cs : Bool} : RF tw cs 22 9 = some 42 := rfl
theorem rf_22_10 {tw cs : Bool} : RF tw cs 22 10 = some 43 := rfl
theorem rf_22_11 {tw cs : Bool} : RF tw cs 22 11 = some 44 := rfl
theorem rf_22_12 {tw cs : Bool} : RF tw cs 22 12 = some 45 := rfl
theorem rf_22_13 {tw cs : Bool} : RF tw cs 22 13 = some 46 := rfl
theorem rf_22_14 {tw cs : Bool} : RF tw cs 22 14 = some 47 := rfl
theorem rf_22_15 {tw cs : Bool} : RF tw cs 22 15 = some 48 := rfl
theorem rf_23_0 {tw cs : Bool} : RF tw cs 23 0 = some 24 := rfl
theorem rf_23_1 {tw cs : Bool} : RF tw cs 23 1 = some 25 := rfl
theorem rf_23_2 {tw cs : Bool} : RF tw cs 23 2 = some 26 := rfl
theorem rf_23_3 {tw cs : Bool} : RF tw cs 23 3 = some 27 := rfl
theorem rf_23_4 {tw cs : Bool} : RF tw cs 23 4 = some 28 := rfl
theorem rf_23_5 {tw cs : Bool} : RF tw cs 23 5 = some 29 := rfl
theorem rf_49_0 {tw cs : Bool} : RF tw cs 49 0 = some 87 := rfl
theorem rf_49_1 {tw cs : Bool} : RF tw cs 49 1 = some 115 := rfl
theorem rf_49_2 {tw cs : Bool} : RF tw cs 49 2 = some 143 := rfl
theorem rf_51_0 {tw cs : Bool} : RF tw cs 51 0 = some 52 := rfl
theorem rf_51_1 {tw cs : Bool} : RF tw cs 51 1 = some 53 := rfl
theorem rf_51_2 {tw cs : Bool} : RF tw cs 51 2 = some 54 := rfl
theorem rf_51_3 {tw cs : Bool} : RF tw cs 51 3 = some 55 := rfl
theorem rf_51_4 {tw cs : Bool} : RF tw cs 51 4 = some 56 := rfl
theorem rf_57_0 {tw cs : Bool} : RF tw cs 57 0 = some 58 := rfl
theorem rf_57_1 {tw cs : Bool} : RF tw cs 57 1 = some 59 := rfl
theorem rf_62_0 {tw cs : Bool} : RF tw cs 62 0 = some 63 := rfl
theorem rf_64_4 {tw cs : Bool} : RF tw cs 64 4 = some 65 := rfl
theorem rf_64_5 {tw cs : Bool} : RF tw cs 64 5 = some 66 := rfl
theorem rf_64_6 {tw cs : Bool} : RF tw cs 64 6 = some 67 := rfl
theorem rf_64_7 {tw cs : Bool} : RF tw cs 64 7 = some 68 := rfl
theorem rf_64_8 {tw cs : Bool} : RF tw cs 64 8 = some 69 := rfl
theorem rf_64_9 {tw cs : Bool} : RF tw cs 64 9 = some 82 := rfl
theorem rf_64_10 {tw cs : Bool} : RF tw cs 64 10 = some 83 := rfl
theorem rf_69_0 {tw cs : Bool} : RF tw cs 69 0 = some 70 := rfl
theorem rf_69_1 {tw cs : Bool} : RF tw cs 69 1 = some 71 := rfl
theorem rf_69_2 {tw cs : Bool} : RF tw cs 69 2 = some 72 := rfl
theorem rf_69_3 {tw cs : Bool} : RF tw cs 69 3 = some 73 := rfl
theorem rf_69_4 {tw cs : Bool} : RF tw cs 69 4 = some 74 := rfl
theorem rf_69_5 {tw cs : Bool} : RF tw cs 69 5 = some 75 := rfl
theorem rf_69_6 {tw cs : Bool} : RF tw cs 69 6 = some 76 := rfl
theorem rf_69_7 {tw cs : Bool} : RF tw cs 69 7 = some 77 := rfl
theorem rf_69_8 {tw cs : Bool} : RF tw cs 69 8 = some 78 := rfl
theorem rf_69_9 {tw cs : Bool} : RF tw cs 69 9 = some 79 := rfl
theorem rf_69_10 {tw cs : Bool} : RF tw cs 69 10 = some 80 := rfl
theorem rf_69_11 {tw cs : Bool} : RF tw cs 69 11 = some 81 := rfl
theorem rf_84_0 {tw cs : Bool} : RF tw cs 84 0 = some 85 := rfl
theorem rf_84_1 {tw cs : Bool} : RF tw cs 84 1 = some 86 := rfl
theorem rf_87_2 {tw cs : Bool} : RF tw cs 87 2 = some 88 := rfl
theorem rf_87_3 {tw cs : Bool} : RF tw cs 87 3 = some 89 := rfl
theorem rf_87_4 {tw cs : Bool} : RF tw cs 87 4 = some 96 := rfl
theorem rf_87_5 {tw cs : Bool} : RF tw cs 87 5 = some 97 := rfl
theorem rf_87_7 {tw cs : Bool} : RF tw cs 87 7 = some 98 := rfl
theorem rf_88_0 {tw cs : Bool} : RF tw cs 88 0 = some 99 := rfl
theorem rf_88_1 {tw cs : Bool} : RF tw cs 88 1 = some 100 := rfl
theorem rf_88_2 {tw cs : Bool} : RF tw cs 88 2 = some 101 := rfl
theorem rf_88_3 {tw cs : Bool} : RF tw cs 88 3 = some 102 := rfl
theorem rf_88_4 {tw cs : Bool} : RF tw cs 88 4 = some 103 := rfl
theorem rf_88_5 {tw cs : Bool} : RF tw cs 88 5 = some 104 := rfl
theorem rf_88_6 {tw cs : Bool} : RF tw cs 88 6 = some 105 := rfl
theorem rf_88_7 {tw cs : Bool} : RF tw cs 88 7 = some 106 := rfl
theorem rf_88_8 {tw cs : Bool} : RF tw cs 88 8 = some 107 := rfl
theorem rf_88_9 {tw cs : Bool} : RF tw cs 88 9 = some 108 := rfl
theorem rf_88_10 {tw cs : Bool} : RF tw cs 88 10 = some 109 := rfl
theorem rf_88_11 {tw cs : Bool} : RF tw cs 88 11 = some 110 := rfl
theorem rf_88_12 {tw cs : Bool} : RF tw cs 88 12 = some 111 := rfl
theorem rf_88_13 {tw cs : Bool} : RF tw cs 88 13 = some 112 := rfl
theorem rf_88_14 {tw cs : Bool} : RF tw cs 88 14 = some 113 := rfl
theorem rf_88_15 {tw cs : Bool} : RF tw cs 88 15 = some 114 := rfl
theorem rf_89_0 {tw cs : Bool} : RF tw cs 89 0 = some 90 := rfl
theorem rf_89_1 {tw cs : Bool} : RF tw cs 89 1 = some 91 := rfl
theorem rf_89_2 {tw cs : Bool} : RF tw cs 89 2 = some 92 := rfl
theorem rf_89_3 {tw cs : Bool} : RF tw cs 89 3 = some 93 := rfl
theorem rf_89_4 {tw cs : Bool} : RF tw cs 89 4 = some 94 := rfl
theorem rf_89_5 {tw cs : Bool} : RF tw cs 89 5 = some 95 := rfl
theorem rf_115_2 {tw cs : Bool} : RF tw cs 115 2 = some 116 := rfl
theorem rf_115_3 {tw cs : Bool} : RF tw cs 115 3 = some 117 := rfl
theorem rf_115_4 {tw cs : Bool} : RF tw cs 115 4 = some 124 := rfl
theorem rf_115_5 {tw cs : Bool} : RF tw cs 115 5 = some 125 := rfl
theorem rf_115_7 {tw cs : Bool} : RF tw cs 115 7 = some 126 := rfl
theorem rf_116_0 {tw cs : Bool} : RF tw cs 116 0 = some 127 := rfl
theorem rf_116_1 {tw cs : Bool} : RF tw cs 116 1 = some 128 := rfl
theorem rf_116_2 {tw cs : Bool} : RF tw cs 116 2 = some 129 := rfl
theorem rf_116_3 {tw cs : Bool} : RF tw cs 116 3 = some 130 := rfl
theorem rf_116_4 {tw cs : Bool} : RF tw cs 116 4 = some 131 := rfl
theorem rf_116_5 {tw cs : Bool} : RF tw cs 116 5 = some 132 := rfl
theorem rf_116_6 {tw cs : Bool} : RF tw cs 116 6 = some 133 := rfl
theorem rf_116_7 {tw cs : Bool} : RF tw cs 116 7 = some 134 := rfl
theorem rf_116_8 {tw cs : Bool} : RF tw cs 116 8 = some 135 := rfl
theorem rf_116_9 {tw cs : Bool} : RF tw cs 116 9 = some 136 := rfl
theorem rf_116_10 {tw cs : Bool} : RF tw cs 116 10 = some 137 := rfl
theorem rf_116_11 {tw cs : Bool} : RF tw cs 116 11 = some 138 := rfl
theorem rf_116_12 {tw cs : Bool} : RF tw cs 116 12 = some 139 := rfl
theorem rf_116_13 {tw cs : Bool} : RF tw cs 116 13 = some 140 := rfl
theorem rf_116_14 {tw cs : Bool} : RF tw cs 116 14 = some 141 := rfl
theorem rf_116_15 {tw cs : Bool} : RF tw cs 116 15 = some 142 := rfl
theorem rf_117_0 {tw cs : Bool} : RF tw cs 117 0 = some 118 := rfl
theorem rf_117_1 {tw cs : Bool} : RF tw cs 117 1 = some 119 := rfl
theorem rf_117_2 {tw cs : Bool} : RF tw cs 117 2 = some 120 := rfl
theorem rf_117_3 {tw cs : Bool} : RF tw cs 117 3 = some 121 := rfl
theorem rf_117_4 {tw cs : Bool} : RF tw cs 117 4 = some 122 := rfl
theorem rf_117_5 {tw cs : Bool} : RF tw cs 117 5 = some 123 := rfl
theorem rf_143_2 {tw cs : Bool} : RF tw cs 143 2 = some 144 := rfl
theorem rf_143_3 {tw cs : Bool} : RF tw cs 143 3 = some 145 := rfl
theorem rf_143_4 {tw cs : Bool} : RF tw cs 143 4 = some 152 := rfl
theorem rf_143_5 {tw cs : Bool} : RF tw cs 143 5 = some 153 := rfl
theorem rf_143_7 {tw cs : Bool} : RF tw cs 143 7 = some 154 := rfl
theorem rf_144_0 {tw cs : Bool} : RF tw cs 144 0 = some 155 := rfl
theorem rf_144_1 {tw cs : Bool} : RF tw cs 144 1 = some 156 := rfl
theorem rf_144_2 {tw cs : Bool} : RF tw cs 144 2 = some 157 := rfl
theorem rf_144_3 {tw cs : Bool} : RF tw cs 144 3 = some 158 := rfl
theorem rf_144_4 {tw cs : Bool} : RF tw cs 144 4 = some 159 := rfl
theorem rf_144_5 {tw cs : Bool} : RF tw cs 144 5 = some 160 := rfl
theorem rf_144_6 {tw cs : Bool} : RF tw cs 144 6 = some 161 := rfl
theorem rf_144_7 {tw cs : Bool} : RF tw cs 144 7 = some 162 := rfl
theorem rf_144_8 {tw cs : Bool} : RF tw cs 144 8 = some 163 := rfl
theorem rf_144_9 {tw cs : Bool} : RF tw cs 144 9 = some 164 := rfl
theorem rf_144_10 {tw cs : Bool} : RF tw cs 144 10 = some 165 := rfl
theorem rf_144_11 {tw cs : Bool} : RF tw cs 144 11 = some 166 := rfl
theorem rf_144_12 {tw cs : Bool} : RF tw cs 144 12 = some 167 := rfl
theorem rf_144_13 {tw cs : Bool} : RF tw cs 144 13 = some 168 := rfl
theorem rf_144_14 {tw cs : Bool} : RF tw cs 144 14 = some 169 := rfl
theorem rf_144_15 {tw cs : Bool} : RF tw cs 144 15 = some 170 := rfl
theorem rf_145_0 {tw cs : Bool} : RF tw cs 145 0 = some 146 := rfl
theorem rf_145_1 {tw cs : Bool} : RF tw cs 145 1 = some 147 := rfl
theorem rf_145_2 {tw cs : Bool} : RF tw cs 145 2 = some 148 := rfl
theorem rf_145_3 {tw cs : Bool} : RF tw cs 145 3 = some 149 := rfl
theorem rf_145_4 {tw cs : Bool} : RF tw cs 145 4 = some 150 := rfl
theorem rf_145_5 {tw cs : Bool} : RF tw cs 145 5 = some 151 := rfl
theorem rf_171_0 {tw cs : Bool} : RF tw cs 171 0 = some 172 := rfl
theorem rf_171_7 {tw cs : Bool} : RF tw cs 171 7 = some 173 := rfl
theorem rf_171_8 {tw cs : Bool} : RF tw cs 171 8 = some 174 := rfl
theorem rf_171_10 {tw cs : Bool} : RF tw cs 171 10 = some 175 := rfl
theorem rf_171_11 {tw cs : Bool} : RF tw cs 171 11 = some 176 := rfl
theorem rf_171_12 {tw cs : Bool} : RF tw cs 171 12 = some 177 := rfl
theorem rf_171_15 {tw cs : Bool} : RF tw cs 171 15 = some 178 := rfl
theorem rf_171_17 {tw cs : Bool} : RF tw cs 171 17 = some 179 := rfl
theorem rf_171_18 {tw cs : Bool} : RF tw cs 171 18 = some 180 := rfl
theorem rf_171_19 {tw cs : Bool} : RF tw cs 171 19 = some 181 := rfl
theorem rf_171_23 {tw cs : Bool} : RF tw cs 171 23 = some 182 := rfl
theorem rf_171_24 {tw cs : Bool} : RF tw cs 171 24 = some 183 := rfl
theorem rf_171_25 {tw cs : Bool} : RF tw cs 171 25 = some 184 := rfl
theorem rf_171_27 {tw cs : Bool} : RF tw cs 171 27 = some 185 := rfl
theorem rf_171_28 {tw cs : Bool} : RF tw cs 171 28 = some 186 := rfl
theorem rf_171_29 {tw cs : Bool} : RF tw cs 171 29 = some 187 := rfl
theorem rf_171_31 {tw cs : Bool} : RF tw cs 171 31 = some 188 := rfl
theorem rf_171_32 {tw cs : Bool} : RF tw cs 171 32 = some 189 := rfl
theorem rf_171_33 {tw cs : Bool} : RF tw cs 171 33 = some 190 := rfl
theorem rf_171_34 {tw cs : Bool} : RF tw cs 171 34 = some 191 := rfl
theorem rf_171_35 {tw cs : Bool} : RF tw cs 171 35 = some 192 := rfl
theorem rf_171_36 {tw cs : Bool} : RF tw cs 171 36 = some 193 := rfl
theorem rf_171_37 {tw cs : Bool} : RF tw cs 171 37 = some 194 := rfl
theorem rf_171_38 {tw cs : Bool} : RF tw cs 171 38 = some 195 := rfl
theorem rf_171_39 {tw cs : Bool} : RF tw cs 171 39 = some 196 := rfl
theorem rf_171_40 {tw cs : Bool} : RF tw cs 171 40 = some 197 := rfl
theorem rf_171_41 {tw cs : Bool} : RF tw cs 171 41 = some 198 := rfl
theorem rf_171_42 {tw cs : Bool} : RF tw cs 171 42 = some 199 := rfl
theorem rf_171_43 {tw cs : Bool} : RF tw cs 171 43 = some 200 := rfl
theorem rf_171_45 {tw cs : Bool} : RF tw cs 171 45 = some 201 := rfl
theorem rf_171_46 {tw cs : Bool} : RF tw cs 171 46 = some 202 := rfl
theorem rf_171_48 {tw cs : Bool} : RF tw cs 171 48 = some 203 := rfl
theorem rf_171_49 {tw cs : Bool} : RF tw cs 171 49 = some 204 := rfl
theorem rf_171_50 {tw cs : Bool} : RF tw cs 171 50 = some 205 := rfl
theorem rf_171_51 {tw cs : Bool} : RF tw cs 171 51 = some 206 := rfl
theorem rf_171_52 {tw cs : Bool} : RF tw cs 171 52 = some 207 := rfl
theorem rf_171_53 {tw cs : Bool} : RF tw cs 171 53 = some 208 := rfl
theorem rf_town {tw cs : Bool} : RF tw cs 0 1 = some (if tw then 3 else 13) := rfl
theorem rf_draft {tw cs : Bool} : RF tw cs 1 2 = some (if tw then 13 else 3) := rfl
def isCity (a : Nat) : Prop := a = 3 ∨ a = 13
theorem sh_city {a : Nat} (h : isCity a) : SH[a]? = some (.inl 3) := by rcases h with rfl | rfl <;> rfl
theorem sh_city_1 {a : Nat} (h : isCity a) : SH[(a + 1)]? = some (.inr (0, 6)) := by rcases h with rfl | rfl <;> rfl
theorem rf_city_1 {a : Nat} (h : isCity a) {tw cs : Bool} : RF tw cs a 1 = some (a + 1) := by rcases h with rfl | rfl <;> rfl
theorem sh_city_2 {a : Nat} (h : isCity a) : SH[(a + 2)]? = some (.inr (0, 6)) := by rcases h with rfl | rfl <;> rfl
theorem rf_city_2 {a : Nat} (h : isCity a) {tw cs : Bool} : RF tw cs a 2 = some (a + 2) := by rcases h with rfl | rfl <;> rfl
theorem sh_city_3 {a : Nat} (h : isCity a) : SH[(a + 3)]? = some (.inr (0, 6)) := by rcases h with rfl | rfl <;> rfl
theorem rf_city_3 {a : Nat} (h : isCity a) {tw cs : Bool} : RF tw cs a 3 = some (a + 3) := by rcases h with rfl | rfl <;> rfl
theorem sh_city_4 {a : Nat} (h : isCity a) : SH[(a + 4)]? = some (.inr (0, 6)) := by rcases h with rfl | rfl <;> rfl
theorem rf_city_5 {a : Nat} (h : isCity a) {tw cs : Bool} : RF tw cs a 5 = some (a + 4) := by rcases h with rfl | rfl <;> rfl
theorem sh_city_5 {a : Nat} (h : isCity a) : SH[(a + 5)]? = some (.inr (0, 8)) := by rcases h with rfl | rfl <;> rfl
theorem rf_city_6 {a : Nat} (h : isCity a) {tw cs : Bool} : RF tw cs a 6 = some (a + 5) := by rcases h with rfl | rfl <;> rfl
theorem sh_city_6 {a : Nat} (h : isCity a) : SH[(a + 6)]? = some (.inr (0, 8)) := by rcases h with rfl | rfl <;> rfl
theorem rf_city_7 {a : Nat} (h : isCity a) {tw cs : Bool} : RF tw cs a 7 = some (a + 6) := by rcases h with rfl | rfl <;> rfl
theorem sh_city_7 {a : Nat} (h : isCity a) : SH[(a + 7)]? = some (.inr (0, 8)) := by rcases h with rfl | rfl <;> rfl
theorem rf_city_8 {a : Nat} (h : isCity a) {tw cs : Bool} : RF tw cs a 8 = some (a + 7) := by rcases h with rfl | rfl <;> rfl
def isDay (d : Nat) : Prop := d = 21 ∨ d = 87 ∨ d = 115 ∨ d = 143
theorem sh_day {d : Nat} (h : isDay d) : SH[d]? = some (.inl 5) := by rcases h with rfl | rfl | rfl | rfl <;> rfl
theorem sh_day_1 {d : Nat} (h : isDay d) : SH[(d + 1)]? = some (.inr (4, 16)) := by rcases h with rfl | rfl | rfl | rfl <;> rfl
theorem rf_day_2 {d : Nat} (h : isDay d) {tw cs : Bool} : RF tw cs d 2 = some (d + 1) := by rcases h with rfl | rfl | rfl | rfl <;> rfl
theorem sh_day_2 {d : Nat} (h : isDay d) : SH[(d + 2)]? = some (.inr (6, 6)) := by rcases h with rfl | rfl | rfl | rfl <;> rfl
theorem rf_day_3 {d : Nat} (h : isDay d) {tw cs : Bool} : RF tw cs d 3 = some (d + 2) := by rcases h with rfl | rfl | rfl | rfl <;> rfl
theorem sh_day_9 {d : Nat} (h : isDay d) : SH[(d + 9)]? = some (.inr (0, 6)) := by rcases h with rfl | rfl | rfl | rfl <;> rfl
theorem rf_day_4 {d : Nat} (h : isDay d) {tw cs : Bool} : RF tw cs d 4 = some (d + 9) := by rcases h with rfl | rfl | rfl | rfl <;> rfl
theorem sh_day_10 {d : Nat} (h : isDay d) : SH[(d + 10)]? = some (.inr (0, 6)) := by rcases h with rfl | rfl | rfl | rfl <;> rfl
theorem rf_day_5 {d : Nat} (h : isDay d) {tw cs : Bool} : RF tw cs d 5 = some (d + 10) := by rcases h with rfl | rfl | rfl | rfl <;> rfl
theorem sh_day_11 {d : Nat} (h : isDay d) : SH[(d + 11)]? = some (.inr (0, 200)) := by rcases h with rfl | rfl | rfl | rfl <;> rfl
theorem rf_day_7 {d : Nat} (h : isDay d) {tw cs : Bool} : RF tw cs d 7 = some (d + 11) := by rcases h with rfl | rfl | rfl | rfl <;> rfl
theorem aw_fin {P : Int → Prop} {n : Nat} (h : ∀ k : Fin n, P ((k.val : Nat) : Int)) {i : Int} (hi : 0 ≤ i ∧ i < (n : Int)) : P i := by
  have h1 := h ⟨i.toNat, by omega⟩
  have h2 : ((i.toNat : Nat) : Int) = i := Int.toNat_of_nonneg hi.1
  rw [h2] at h1
  exact h1
theorem sh_cab {d : Nat} (h : isDay d) {i : Int} (hi : 0 ≤ i ∧ i < ((16 : Nat) : Int)) : SH[(d + 12 + i.toNat)]? = some (.inl 2) := by
  rcases h with rfl | rfl | rfl | rfl <;> exact aw_fin (P := fun i => SH[(_ + 12 + i.toNat)]? = some (.inl 2)) (by decide) hi
theorem rf_cab {d : Nat} (h : isDay d) {i : Int} (hi : 0 ≤ i ∧ i < ((16 : Nat) : Int)) {tw cs : Bool} : RF tw cs (d + 1) i = some (d + 12 + i.toNat) := by
  rcases h with rfl | rfl | rfl | rfl <;> exact aw_fin (P := fun i => RF tw cs (_ + 1) i = some (_ + 12 + i.toNat)) (by cases tw <;> cases cs <;> decide) hi
theorem sh_row {d : Nat} (h : isDay d) {i : Int} (hi : 0 ≤ i ∧ i < ((6 : Nat) : Int)) : SH[(d + 3 + i.toNat)]? = some (.inr (0, 16)) := by
  rcases h with rfl | rfl | rfl | rfl <;> exact aw_fin (P := fun i => SH[(_ + 3 + i.toNat)]? = some (.inr (0, 16))) (by decide) hi
theorem rf_row {d : Nat} (h : isDay d) {i : Int} (hi : 0 ≤ i ∧ i < ((6 : Nat) : Int)) {tw cs : Bool} : RF tw cs (d + 2) i = some (d + 3 + i.toNat) := by
  rcases h with rfl | rfl | rfl | rfl <;> exact aw_fin (P := fun i => RF tw cs (_ + 2) i = some (_ + 3 + i.toNat)) (by cases tw <;> cases cs <;> decide) hi
theorem rd_si {σ : aw_S} {a b : Nat} {k j v : Int} : (aw_si σ a k v).1 b j = if b = a ∧ j = k then v else σ.1 b j := rfl
theorem rd_si_eq {σ : aw_S} {a : Nat} {k v : Int} : (aw_si σ a k v).1 a k = v := if_pos ⟨rfl, rfl⟩
theorem rd_si_ne {σ : aw_S} {a b : Nat} {k j v : Int} (h : b ≠ a) : (aw_si σ a k v).1 b j = σ.1 b j := if_neg (fun e => h e.1)
theorem rd_si_ni {σ : aw_S} {a b : Nat} {k j v : Int} (h : j ≠ k) : (aw_si σ a k v).1 b j = σ.1 b j := if_neg (fun e => h e.2)
