/-! Facts of the tables (made by gen33.py). -/
theorem qs_0 : mj_s 0 = false ∧ mj_isI 0 = true := by decide +kernel
theorem qs_1 : mj_s 1 = false ∧ mj_isI 1 = false := by decide +kernel
theorem qs_2 : mj_s 2 = false ∧ mj_isI 2 = false := by decide +kernel
theorem qs_3 : mj_s 3 = false ∧ mj_isI 3 = false := by decide +kernel
theorem qs_4 : mj_s 4 = false ∧ mj_isI 4 = false := by decide +kernel
theorem qs_5 : mj_s 5 = false ∧ mj_isI 5 = false := by decide +kernel
theorem qs_6 : mj_s 6 = false ∧ mj_isI 6 = false := by decide +kernel
theorem qs_7 : mj_s 7 = false ∧ mj_isI 7 = false := by decide +kernel
theorem qs_8 : mj_s 8 = false ∧ mj_isI 8 = false := by decide +kernel
theorem qs_9 : mj_s 9 = false ∧ mj_isI 9 = false := by decide +kernel
theorem qs_10 : mj_s 10 = false ∧ mj_isI 10 = false := by decide +kernel
theorem qs_11 : mj_s 11 = false ∧ mj_isI 11 = false := by decide +kernel
theorem qs_12 : mj_s 12 = false ∧ mj_isI 12 = true := by decide +kernel
theorem qs_13 : mj_s 13 = false ∧ mj_isI 13 = false := by decide +kernel
theorem qs_14 : mj_s 14 = false ∧ mj_isI 14 = false := by decide +kernel
theorem qs_15 : mj_s 15 = false ∧ mj_isI 15 = false := by decide +kernel
theorem qs_16 : mj_s 16 = false ∧ mj_isI 16 = false := by decide +kernel
theorem qs_17 : mj_s 17 = false ∧ mj_isI 17 = false := by decide +kernel
theorem qs_18 : mj_s 18 = false ∧ mj_isI 18 = false := by decide +kernel
theorem qs_19 : mj_s 19 = false ∧ mj_isI 19 = false := by decide +kernel
theorem qs_20 : mj_s 20 = false ∧ mj_isI 20 = false := by decide +kernel
theorem qs_21 : mj_s 21 = false ∧ mj_isI 21 = false := by decide +kernel
theorem qs_22 : mj_s 22 = false ∧ mj_isI 22 = false := by decide +kernel
theorem qs_23 : mj_s 23 = false ∧ mj_isI 23 = true := by decide +kernel
theorem qs_24 : mj_s 24 = false ∧ mj_isI 24 = false := by decide +kernel
theorem qs_25 : mj_s 25 = false ∧ mj_isI 25 = false := by decide +kernel
theorem qs_26 : mj_s 26 = false ∧ mj_isI 26 = true := by decide +kernel
theorem qs_27 : mj_s 27 = false ∧ mj_isI 27 = false := by decide +kernel
theorem qs_28 : mj_s 28 = false ∧ mj_isI 28 = false := by decide +kernel
theorem qs_29 : mj_s 29 = false ∧ mj_isI 29 = false := by decide +kernel
theorem qs_30 : mj_s 30 = false ∧ mj_isI 30 = false := by decide +kernel
theorem qs_31 : mj_s 31 = false ∧ mj_isI 31 = false := by decide +kernel
theorem qs_32 : mj_s 32 = false ∧ mj_isI 32 = false := by decide +kernel
theorem qs_33 : mj_s 33 = false ∧ mj_isI 33 = false := by decide +kernel
theorem qs_34 : mj_s 34 = false ∧ mj_isI 34 = false := by decide +kernel
theorem qs_35 : mj_s 35 = false ∧ mj_isI 35 = false := by decide +kernel
theorem qs_36 : mj_s 36 = false ∧ mj_isI 36 = false := by decide +kernel
theorem qs_37 : mj_s 37 = false ∧ mj_isI 37 = false := by decide +kernel
theorem qs_38 : mj_s 38 = false ∧ mj_isI 38 = false := by decide +kernel
theorem qs_39 : mj_s 39 = false ∧ mj_isI 39 = true := by decide +kernel
theorem qs_40 : mj_s 40 = false ∧ mj_isI 40 = false := by decide +kernel
theorem qs_41 : mj_s 41 = false ∧ mj_isI 41 = false := by decide +kernel
theorem qs_42 : mj_s 42 = false ∧ mj_isI 42 = false := by decide +kernel
theorem qs_43 : mj_s 43 = false ∧ mj_isI 43 = false := by decide +kernel
theorem qs_44 : mj_s 44 = false ∧ mj_isI 44 = false := by decide +kernel
theorem qs_45 : mj_s 45 = false ∧ mj_isI 45 = false := by decide +kernel
theorem qs_46 : mj_s 46 = false ∧ mj_isI 46 = false := by decide +kernel
theorem qs_47 : mj_s 47 = false ∧ mj_isI 47 = false := by decide +kernel
theorem qs_48 : mj_s 48 = false ∧ mj_isI 48 = false := by decide +kernel
theorem qs_49 : mj_s 49 = false ∧ mj_isI 49 = false := by decide +kernel
theorem qs_50 : mj_s 50 = false ∧ mj_isI 50 = false := by decide +kernel
theorem qs_51 : mj_s 51 = false ∧ mj_isI 51 = false := by decide +kernel
theorem qs_52 : mj_s 52 = false ∧ mj_isI 52 = false := by decide +kernel
theorem qs_53 : mj_s 53 = true ∧ mj_isI 53 = false := by decide +kernel
theorem qs_54 : mj_s 54 = true ∧ mj_isI 54 = false := by decide +kernel
theorem qs_55 : mj_s 55 = true ∧ mj_isI 55 = false := by decide +kernel
theorem qs_56 : mj_s 56 = false ∧ mj_isI 56 = false := by decide +kernel
theorem qs_57 : mj_s 57 = false ∧ mj_isI 57 = false := by decide +kernel
theorem qs_58 : mj_s 58 = false ∧ mj_isI 58 = false := by decide +kernel
theorem qs_59 : mj_s 59 = false ∧ mj_isI 59 = false := by decide +kernel
theorem qs_60 : mj_s 60 = false ∧ mj_isI 60 = true := by decide +kernel
theorem qs_61 : mj_s 61 = false ∧ mj_isI 61 = false := by decide +kernel
theorem qs_62 : mj_s 62 = false ∧ mj_isI 62 = false := by decide +kernel
theorem qs_63 : mj_s 63 = false ∧ mj_isI 63 = false := by decide +kernel
theorem qs_64 : mj_s 64 = false ∧ mj_isI 64 = false := by decide +kernel
theorem qs_65 : mj_s 65 = false ∧ mj_isI 65 = false := by decide +kernel
theorem qs_66 : mj_s 66 = false ∧ mj_isI 66 = false := by decide +kernel
theorem qs_67 : mj_s 67 = false ∧ mj_isI 67 = false := by decide +kernel
theorem qs_68 : mj_s 68 = false ∧ mj_isI 68 = false := by decide +kernel
theorem qs_69 : mj_s 69 = false ∧ mj_isI 69 = false := by decide +kernel
theorem qs_70 : mj_s 70 = false ∧ mj_isI 70 = false := by decide +kernel
theorem qs_71 : mj_s 71 = false ∧ mj_isI 71 = true := by decide +kernel
theorem qs_72 : mj_s 72 = false ∧ mj_isI 72 = false := by decide +kernel
theorem qs_73 : mj_s 73 = false ∧ mj_isI 73 = false := by decide +kernel
theorem qs_74 : mj_s 74 = false ∧ mj_isI 74 = false := by decide +kernel
theorem qs_75 : mj_s 75 = false ∧ mj_isI 75 = false := by decide +kernel
theorem qs_76 : mj_s 76 = false ∧ mj_isI 76 = false := by decide +kernel
theorem qs_77 : mj_s 77 = false ∧ mj_isI 77 = true := by decide +kernel
theorem qs_78 : mj_s 78 = false ∧ mj_isI 78 = false := by decide +kernel
theorem qs_79 : mj_s 79 = false ∧ mj_isI 79 = false := by decide +kernel
theorem qs_80 : mj_s 80 = false ∧ mj_isI 80 = false := by decide +kernel
theorem qs_81 : mj_s 81 = false ∧ mj_isI 81 = true := by decide +kernel
theorem qs_82 : mj_s 82 = false ∧ mj_isI 82 = false := by decide +kernel
theorem qs_83 : mj_s 83 = false ∧ mj_isI 83 = false := by decide +kernel
theorem qs_84 : mj_s 84 = false ∧ mj_isI 84 = false := by decide +kernel
theorem qs_85 : mj_s 85 = false ∧ mj_isI 85 = false := by decide +kernel
theorem qs_86 : mj_s 86 = false ∧ mj_isI 86 = false := by decide +kernel
theorem qs_87 : mj_s 87 = false ∧ mj_isI 87 = false := by decide +kernel
theorem qs_88 : mj_s 88 = false ∧ mj_isI 88 = false := by decide +kernel
theorem qs_89 : mj_s 89 = false ∧ mj_isI 89 = false := by decide +kernel
theorem qs_90 : mj_s 90 = false ∧ mj_isI 90 = false := by decide +kernel
theorem qs_91 : mj_s 91 = false ∧ mj_isI 91 = false := by decide +kernel
theorem qs_92 : mj_s 92 = false ∧ mj_isI 92 = false := by decide +kernel
theorem qs_93 : mj_s 93 = false ∧ mj_isI 93 = false := by decide +kernel
theorem qs_94 : mj_s 94 = false ∧ mj_isI 94 = false := by decide +kernel
theorem qs_95 : mj_s 95 = false ∧ mj_isI 95 = false := by decide +kernel
theorem qs_96 : mj_s 96 = false ∧ mj_isI 96 = false := by decide +kernel
theorem qs_97 : mj_s 97 = false ∧ mj_isI 97 = false := by decide +kernel
theorem qs_98 : mj_s 98 = false ∧ mj_isI 98 = false := by decide +kernel
theorem qs_99 : mj_s 99 = false ∧ mj_isI 99 = false := by decide +kernel
theorem qs_100 : mj_s 100 = true ∧ mj_isI 100 = false := by decide +kernel
theorem qs_101 : mj_s 101 = false ∧ mj_isI 101 = false := by decide +kernel
theorem qs_102 : mj_s 102 = true ∧ mj_isI 102 = false := by decide +kernel
theorem qs_103 : mj_s 103 = false ∧ mj_isI 103 = false := by decide +kernel
theorem qs_104 : mj_s 104 = true ∧ mj_isI 104 = false := by decide +kernel
theorem qs_105 : mj_s 105 = false ∧ mj_isI 105 = false := by decide +kernel
theorem qs_106 : mj_s 106 = false ∧ mj_isI 106 = false := by decide +kernel
theorem qs_107 : mj_s 107 = false ∧ mj_isI 107 = true := by decide +kernel
theorem qs_108 : mj_s 108 = false ∧ mj_isI 108 = true := by decide +kernel
theorem qs_109 : mj_s 109 = false ∧ mj_isI 109 = false := by decide +kernel
theorem qs_110 : mj_s 110 = false ∧ mj_isI 110 = false := by decide +kernel
theorem qs_111 : mj_s 111 = true ∧ mj_isI 111 = false := by decide +kernel
theorem qs_112 : mj_s 112 = false ∧ mj_isI 112 = false := by decide +kernel
theorem qs_113 : mj_s 113 = false ∧ mj_isI 113 = false := by decide +kernel
theorem qs_114 : mj_s 114 = false ∧ mj_isI 114 = false := by decide +kernel
theorem qs_115 : mj_s 115 = false ∧ mj_isI 115 = false := by decide +kernel
theorem qs_116 : mj_s 116 = true ∧ mj_isI 116 = false := by decide +kernel
theorem qs_117 : mj_s 117 = false ∧ mj_isI 117 = false := by decide +kernel
theorem qs_118 : mj_s 118 = false ∧ mj_isI 118 = false := by decide +kernel
theorem qs_119 : mj_s 119 = false ∧ mj_isI 119 = false := by decide +kernel
theorem qs_120 : mj_s 120 = false ∧ mj_isI 120 = false := by decide +kernel
theorem qs_121 : mj_s 121 = false ∧ mj_isI 121 = false := by decide +kernel
theorem qs_122 : mj_s 122 = false ∧ mj_isI 122 = false := by decide +kernel
theorem qs_123 : mj_s 123 = false ∧ mj_isI 123 = false := by decide +kernel
theorem qs_124 : mj_s 124 = false ∧ mj_isI 124 = false := by decide +kernel
theorem qs_125 : mj_s 125 = false ∧ mj_isI 125 = false := by decide +kernel
theorem qs_126 : mj_s 126 = false ∧ mj_isI 126 = false := by decide +kernel
theorem qs_127 : mj_s 127 = false ∧ mj_isI 127 = false := by decide +kernel
theorem qs_128 : mj_s 128 = false ∧ mj_isI 128 = false := by decide +kernel
theorem qs_129 : mj_s 129 = false ∧ mj_isI 129 = false := by decide +kernel
theorem qs_130 : mj_s 130 = false ∧ mj_isI 130 = false := by decide +kernel
theorem qs_131 : mj_s 131 = false ∧ mj_isI 131 = false := by decide +kernel
theorem qs_132 : mj_s 132 = false ∧ mj_isI 132 = false := by decide +kernel
theorem qs_133 : mj_s 133 = false ∧ mj_isI 133 = false := by decide +kernel
theorem qs_134 : mj_s 134 = false ∧ mj_isI 134 = false := by decide +kernel
theorem qs_135 : mj_s 135 = false ∧ mj_isI 135 = false := by decide +kernel
theorem qs_136 : mj_s 136 = false ∧ mj_isI 136 = false := by decide +kernel
theorem qs_137 : mj_s 137 = false ∧ mj_isI 137 = false := by decide +kernel
theorem qs_138 : mj_s 138 = false ∧ mj_isI 138 = false := by decide +kernel
theorem qs_139 : mj_s 139 = false ∧ mj_isI 139 = false := by decide +kernel
theorem qs_140 : mj_s 140 = false ∧ mj_isI 140 = false := by decide +kernel
theorem qs_141 : mj_s 141 = false ∧ mj_isI 141 = false := by decide +kernel
theorem qs_142 : mj_s 142 = false ∧ mj_isI 142 = false := by decide +kernel
theorem qs_143 : mj_s 143 = false ∧ mj_isI 143 = false := by decide +kernel
theorem qs_144 : mj_s 144 = false ∧ mj_isI 144 = false := by decide +kernel
theorem qs_145 : mj_s 145 = false ∧ mj_isI 145 = false := by decide +kernel
theorem qs_146 : mj_s 146 = true ∧ mj_isI 146 = false := by decide +kernel
theorem qs_147 : mj_s 147 = false ∧ mj_isI 147 = false := by decide +kernel
theorem qs_148 : mj_s 148 = false ∧ mj_isI 148 = false := by decide +kernel
theorem qs_149 : mj_s 149 = false ∧ mj_isI 149 = false := by decide +kernel
theorem qs_150 : mj_s 150 = false ∧ mj_isI 150 = false := by decide +kernel
theorem qs_151 : mj_s 151 = false ∧ mj_isI 151 = false := by decide +kernel
theorem qs_152 : mj_s 152 = false ∧ mj_isI 152 = false := by decide +kernel
theorem qs_153 : mj_s 153 = false ∧ mj_isI 153 = false := by decide +kernel
theorem qs_154 : mj_s 154 = false ∧ mj_isI 154 = false := by decide +kernel
theorem qs_155 : mj_s 155 = false ∧ mj_isI 155 = false := by decide +kernel
theorem qs_156 : mj_s 156 = false ∧ mj_isI 156 = false := by decide +kernel
theorem qs_157 : mj_s 157 = false ∧ mj_isI 157 = false := by decide +kernel
theorem qs_158 : mj_s 158 = false ∧ mj_isI 158 = false := by decide +kernel
theorem qs_159 : mj_s 159 = false ∧ mj_isI 159 = false := by decide +kernel
theorem qs_160 : mj_s 160 = false ∧ mj_isI 160 = false := by decide +kernel
theorem qs_161 : mj_s 161 = false ∧ mj_isI 161 = false := by decide +kernel
theorem qs_162 : mj_s 162 = false ∧ mj_isI 162 = false := by decide +kernel
theorem qs_163 : mj_s 163 = false ∧ mj_isI 163 = false := by decide +kernel
theorem qs_164 : mj_s 164 = false ∧ mj_isI 164 = false := by decide +kernel
theorem qs_165 : mj_s 165 = false ∧ mj_isI 165 = false := by decide +kernel
theorem qs_166 : mj_s 166 = true ∧ mj_isI 166 = false := by decide +kernel
theorem qs_167 : mj_s 167 = true ∧ mj_isI 167 = false := by decide +kernel
theorem qs_168 : mj_s 168 = true ∧ mj_isI 168 = false := by decide +kernel
theorem qs_169 : mj_s 169 = true ∧ mj_isI 169 = false := by decide +kernel
theorem qs_170 : mj_s 170 = true ∧ mj_isI 170 = false := by decide +kernel
theorem qs_171 : mj_s 171 = true ∧ mj_isI 171 = false := by decide +kernel
theorem qs_172 : mj_s 172 = true ∧ mj_isI 172 = false := by decide +kernel
theorem qs_173 : mj_s 173 = true ∧ mj_isI 173 = false := by decide +kernel
theorem qs_174 : mj_s 174 = true ∧ mj_isI 174 = false := by decide +kernel
theorem qs_175 : mj_s 175 = true ∧ mj_isI 175 = false := by decide +kernel
theorem qs_176 : mj_s 176 = true ∧ mj_isI 176 = false := by decide +kernel
theorem qs_177 : mj_s 177 = true ∧ mj_isI 177 = false := by decide +kernel
theorem qs_178 : mj_s 178 = true ∧ mj_isI 178 = false := by decide +kernel
theorem qs_179 : mj_s 179 = true ∧ mj_isI 179 = false := by decide +kernel
theorem qs_180 : mj_s 180 = true ∧ mj_isI 180 = false := by decide +kernel
theorem qs_181 : mj_s 181 = true ∧ mj_isI 181 = false := by decide +kernel
theorem mj_fit0 {M : Nat} {as : List MV} (hs : mj_s M = true) (hl : (mj_ents as).length ≤ mj_l M) : mj_fits 0 M as = true := by
  unfold mj_fits
  rw [decide_eq_true hl, if_pos rfl, hs]
  rfl
theorem mj_fit1 {M ci n a : Nat} {as : List MV} (hs : mj_s M = false ∧ mj_isI M = false) (ho : mj_o M = ci) (hl : (mj_ents (vR (some (ci, n, a)) :: as)).length ≤ mj_l M) : mj_fits 1 M (vR (some (ci, n, a)) :: as) = true := by
  unfold mj_fits
  rw [decide_eq_true hl, if_neg (by decide), if_pos rfl, hs.1, hs.2]
  show (true && (!false && !false && (ci == mj_o M))) = true
  rw [ho]
  simp
theorem mj_fit2 {M ci n a : Nat} {as : List MV} (hs : mj_s M = false ∧ mj_isI M = true) (ho : mj_o M = ci) (hl : (mj_ents (vR (some (ci, n, a)) :: as)).length ≤ mj_l M) : mj_fits 2 M (vR (some (ci, n, a)) :: as) = true := by
  unfold mj_fits
  rw [decide_eq_true hl, if_neg (by decide), if_neg (by decide), hs.1, hs.2]
  show (true && (!false && true && (ci == mj_o M))) = true
  rw [ho]
  simp
theorem mK_v {d M pc nx : Nat} {ls : List (Option MV)} {rest : List MV} {Q : MRes → MWd → Prop} {v : MV} {w1 : MWd} : mK d M pc nx ls rest Q (.inl (some v)) w1 = mR d w1 M nx ls (v :: rest) Q := rfl
theorem mK_n {d M pc nx : Nat} {ls : List (Option MV)} {rest : List MV} {Q : MRes → MWd → Prop} {w1 : MWd} : mK d M pc nx ls rest Q (.inl none) w1 = mR d w1 M nx ls rest Q := rfl
theorem mK_x {d M pc nx : Nat} {ls : List (Option MV)} {rest : List MV} {Q : MRes → MWd → Prop} {E : Nat} {po : Option Ptr} {w1 : MWd} (h : mj_hs (mj_o M) pc E (mj_h M) = none) : mK d M pc nx ls rest Q (.inr (E, po)) w1 = Q (.inr (E, po)) w1 := by
  unfold mK
  dsimp only
  rw [h]
theorem qm_0_3 : mj_mth 0 3 = some (1, 0) := by decide +kernel
theorem qf_0_9 : mj_fld 0 9 = some (0, 0) ∧ mj_ft 0 0 = 2 ∧ mj_fin 0 0 = true := by decide +kernel
theorem qf_0_15 : mj_fld 0 15 = some (0, 1) ∧ mj_ft 0 1 = 2 ∧ mj_fin 0 1 = true := by decide +kernel
theorem qf_0_19 : mj_fld 0 19 = some (0, 2) ∧ mj_ft 0 2 = 0 ∧ mj_fin 0 2 = false := by decide +kernel
theorem qf_0_23 : mj_fld 0 23 = some (0, 3) ∧ mj_ft 0 3 = 0 ∧ mj_fin 0 3 = false := by decide +kernel
theorem qf_0_26 : mj_fld 0 26 = some (0, 4) ∧ mj_ft 0 4 = 0 ∧ mj_fin 0 4 = false := by decide +kernel
theorem qf_0_29 : mj_fld 0 29 = some (0, 5) ∧ mj_ft 0 5 = 0 ∧ mj_fin 0 5 = false := by decide +kernel
theorem qf_0_32 : mj_fld 0 32 = some (0, 6) ∧ mj_ft 0 6 = 0 ∧ mj_fin 0 6 = false := by decide +kernel
theorem qf_0_35 : mj_fld 0 35 = some (7, 1) ∧ mj_ft 7 1 = 0 ∧ mj_fin 7 1 = false := by decide +kernel
theorem qm_0_38 : mj_mth 0 38 = some (0, 24) := by decide +kernel
theorem qm_0_44 : mj_mth 0 44 = some (0, 5) := by decide +kernel
theorem qf_0_48 : mj_fld 0 48 = some (0, 8) ∧ mj_ft 0 8 = 0 ∧ mj_fin 0 8 = false := by decide +kernel
theorem qm_0_51 : mj_mth 0 51 = some (0, 73) := by decide +kernel
theorem qm_0_57 : mj_mth 0 57 = some (0, 6) := by decide +kernel
theorem qm_0_61 : mj_mth 0 61 = some (0, 7) := by decide +kernel
theorem qm_0_65 : mj_mth 0 65 = some (0, 2) := by decide +kernel
theorem qf_0_69 : mj_fld 0 69 = some (0, 7) ∧ mj_ft 0 7 = 0 ∧ mj_fin 0 7 = false := by decide +kernel
theorem qm_0_72 : mj_mth 0 72 = some (0, 80) := by decide +kernel
theorem qm_0_76 : mj_mth 0 76 = some (0, 17) := by decide +kernel
theorem qm_0_81 : mj_mth 0 81 = some (0, 18) := by decide +kernel
theorem qm_0_84 : mj_mth 0 84 = some (0, 8) := by decide +kernel
theorem qf_0_88 : mj_fld 0 88 = some (5, 5) ∧ mj_ft 5 5 = 1 ∧ mj_fin 5 5 = false := by decide +kernel
theorem qm_0_94 : mj_mth 0 94 = some (0, 9) := by decide +kernel
theorem qf_0_98 : mj_fld 0 98 = some (5, 4) ∧ mj_ft 5 4 = 1 ∧ mj_fin 5 4 = false := by decide +kernel
theorem qf_0_101 : mj_fld 0 101 = some (5, 3) ∧ mj_ft 5 3 = 0 ∧ mj_fin 5 3 = false := by decide +kernel
theorem qm_0_104 : mj_mth 0 104 = some (0, 10) := by decide +kernel
theorem qf_0_108 : mj_fld 0 108 = some (5, 13) ∧ mj_ft 5 13 = 1 ∧ mj_fin 5 13 = false := by decide +kernel
theorem qm_0_111 : mj_mth 0 111 = some (0, 11) := by decide +kernel
theorem qf_0_115 : mj_fld 0 115 = some (5, 9) ∧ mj_ft 5 9 = 0 ∧ mj_fin 5 9 = false := by decide +kernel
theorem qf_0_118 : mj_fld 0 118 = some (5, 7) ∧ mj_ft 5 7 = 0 ∧ mj_fin 5 7 = false := by decide +kernel
theorem qm_0_121 : mj_mth 0 121 = some (0, 69) := by decide +kernel
theorem qf_0_124 : mj_fld 0 124 = some (5, 11) ∧ mj_ft 5 11 = 0 ∧ mj_fin 5 11 = false := by decide +kernel
theorem qm_0_127 : mj_mth 0 127 = some (0, 67) := by decide +kernel
theorem qf_0_130 : mj_fld 0 130 = some (5, 8) ∧ mj_ft 5 8 = 0 ∧ mj_fin 5 8 = false := by decide +kernel
theorem qf_0_133 : mj_fld 0 133 = some (5, 10) ∧ mj_ft 5 10 = 0 ∧ mj_fin 5 10 = false := by decide +kernel
theorem qm_0_136 : mj_mth 0 136 = some (0, 66) := by decide +kernel
theorem qm_1_3 : mj_mth 1 3 = some (1, 0) := by decide +kernel
theorem qf_1_9 : mj_fld 1 9 = some (1, 0) ∧ mj_ft 1 0 = 2 ∧ mj_fin 1 0 = true := by decide +kernel
theorem qf_1_15 : mj_fld 1 15 = some (1, 1) ∧ mj_ft 1 1 = 2 ∧ mj_fin 1 1 = true := by decide +kernel
theorem qf_1_18 : mj_fld 1 18 = some (1, 2) ∧ mj_ft 1 2 = 2 ∧ mj_fin 1 2 = true := by decide +kernel
theorem qf_1_21 : mj_fld 1 21 = some (1, 3) ∧ mj_ft 1 3 = 2 ∧ mj_fin 1 3 = true := by decide +kernel
theorem qf_1_24 : mj_fld 1 24 = some (1, 4) ∧ mj_ft 1 4 = 2 ∧ mj_fin 1 4 = true := by decide +kernel
theorem qf_1_27 : mj_fld 1 27 = some (1, 5) ∧ mj_ft 1 5 = 2 ∧ mj_fin 1 5 = true := by decide +kernel
theorem qf_1_31 : mj_fld 1 31 = some (1, 6) ∧ mj_ft 1 6 = 2 ∧ mj_fin 1 6 = true := by decide +kernel
theorem qf_1_34 : mj_fld 1 34 = some (1, 7) ∧ mj_ft 1 7 = 0 ∧ mj_fin 1 7 = false := by decide +kernel
theorem qm_1_38 : mj_mth 1 38 = some (0, 16) := by decide +kernel
theorem qm_1_42 : mj_mth 1 42 = some (0, 22) := by decide +kernel
theorem qm_1_45 : mj_mth 1 45 = some (0, 17) := by decide +kernel
theorem qm_1_49 : mj_mth 1 49 = some (3, 0) := by decide +kernel
theorem qm_2_3 : mj_mth 2 3 = some (1, 0) := by decide +kernel
theorem qc_2_9 : mj_cls 2 9 = some 1 := by decide +kernel
theorem qf_2_11 : mj_fld 2 11 = some (2, 0) ∧ mj_ft 2 0 = 2 ∧ mj_fin 2 0 = true := by decide +kernel
theorem qm_2_17 : mj_mth 2 17 = some (0, 12) := by decide +kernel
theorem qm_2_18 : mj_mth 2 18 = some (0, 104) := by decide +kernel
theorem qm_2_22 : mj_mth 2 22 = some (0, 24) := by decide +kernel
theorem qf_2_26 : mj_fld 2 26 = some (1, 7) ∧ mj_ft 1 7 = 0 ∧ mj_fin 1 7 = false := by decide +kernel
theorem qm_3_3 : mj_mth 3 3 = some (1, 0) := by decide +kernel
theorem qf_3_9 : mj_fld 3 9 = some (3, 0) ∧ mj_ft 3 0 = 2 ∧ mj_fin 3 0 = true := by decide +kernel
theorem qf_3_15 : mj_fld 3 15 = some (3, 1) ∧ mj_ft 3 1 = 2 ∧ mj_fin 3 1 = true := by decide +kernel
theorem qf_3_18 : mj_fld 3 18 = some (3, 2) ∧ mj_ft 3 2 = 2 ∧ mj_fin 3 2 = true := by decide +kernel
theorem qf_3_21 : mj_fld 3 21 = some (3, 3) ∧ mj_ft 3 3 = 2 ∧ mj_fin 3 3 = true := by decide +kernel
theorem qf_3_24 : mj_fld 3 24 = some (3, 4) ∧ mj_ft 3 4 = 2 ∧ mj_fin 3 4 = true := by decide +kernel
theorem qf_3_27 : mj_fld 3 27 = some (3, 5) ∧ mj_ft 3 5 = 2 ∧ mj_fin 3 5 = true := by decide +kernel
theorem qf_3_30 : mj_fld 3 30 = some (3, 6) ∧ mj_ft 3 6 = 2 ∧ mj_fin 3 6 = true := by decide +kernel
theorem qf_3_33 : mj_fld 3 33 = some (3, 7) ∧ mj_ft 3 7 = 2 ∧ mj_fin 3 7 = true := by decide +kernel
theorem qf_3_36 : mj_fld 3 36 = some (3, 8) ∧ mj_ft 3 8 = 2 ∧ mj_fin 3 8 = true := by decide +kernel
theorem qm_3_39 : mj_mth 3 39 = some (0, 28) := by decide +kernel
theorem qm_3_43 : mj_mth 3 43 = some (0, 33) := by decide +kernel
theorem qm_3_46 : mj_mth 3 46 = some (0, 37) := by decide +kernel
theorem qf_3_50 : mj_fld 3 50 = some (3, 9) ∧ mj_ft 3 9 = 0 ∧ mj_fin 3 9 = false := by decide +kernel
theorem qm_3_54 : mj_mth 3 54 = some (0, 29) := by decide +kernel
theorem qm_3_58 : mj_mth 3 58 = some (0, 30) := by decide +kernel
theorem qm_3_62 : mj_mth 3 62 = some (0, 74) := by decide +kernel
theorem qf_3_68 : mj_fld 3 68 = some (5, 8) ∧ mj_ft 5 8 = 0 ∧ mj_fin 5 8 = false := by decide +kernel
theorem qm_3_73 : mj_mth 3 73 = some (0, 66) := by decide +kernel
theorem qf_3_77 : mj_fld 3 77 = some (5, 9) ∧ mj_ft 5 9 = 0 ∧ mj_fin 5 9 = false := by decide +kernel
theorem qm_3_80 : mj_mth 3 80 = some (0, 73) := by decide +kernel
theorem qm_3_84 : mj_mth 3 84 = some (0, 69) := by decide +kernel
theorem qm_3_87 : mj_mth 3 87 = some (0, 31) := by decide +kernel
theorem qm_3_91 : mj_mth 3 91 = some (0, 32) := by decide +kernel
theorem qm_3_95 : mj_mth 3 95 = some (3, 0) := by decide +kernel
theorem qm_3_101 : mj_mth 3 101 = some (0, 34) := by decide +kernel
theorem qm_3_104 : mj_mth 3 104 = some (0, 35) := by decide +kernel
theorem qm_3_108 : mj_mth 3 108 = some (0, 36) := by decide +kernel
theorem qm_3_112 : mj_mth 3 112 = some (0, 13) := by decide +kernel
theorem qm_3_117 : mj_mth 3 117 = some (0, 38) := by decide +kernel
theorem qf_3_121 : mj_fld 3 121 = some (1, 7) ∧ mj_ft 1 7 = 0 ∧ mj_fin 1 7 = false := by decide +kernel
theorem qm_3_122 : mj_mth 3 122 = some (0, 15) := by decide +kernel
theorem qm_3_126 : mj_mth 3 126 = some (0, 14) := by decide +kernel
theorem qm_4_3 : mj_mth 4 3 = some (1, 0) := by decide +kernel
theorem qf_4_9 : mj_fld 4 9 = some (4, 0) ∧ mj_ft 4 0 = 2 ∧ mj_fin 4 0 = true := by decide +kernel
theorem qf_4_15 : mj_fld 4 15 = some (4, 1) ∧ mj_ft 4 1 = 2 ∧ mj_fin 4 1 = true := by decide +kernel
theorem qf_4_18 : mj_fld 4 18 = some (4, 2) ∧ mj_ft 4 2 = 2 ∧ mj_fin 4 2 = true := by decide +kernel
theorem qf_4_21 : mj_fld 4 21 = some (4, 3) ∧ mj_ft 4 3 = 2 ∧ mj_fin 4 3 = true := by decide +kernel
theorem qm_4_25 : mj_mth 4 25 = some (0, 79) := by decide +kernel
theorem qf_4_31 : mj_fld 4 31 = some (4, 4) ∧ mj_ft 4 4 = 0 ∧ mj_fin 4 4 = false := by decide +kernel
theorem qf_4_35 : mj_fld 4 35 = some (4, 5) ∧ mj_ft 4 5 = 0 ∧ mj_fin 4 5 = false := by decide +kernel
theorem qf_4_38 : mj_fld 4 38 = some (4, 6) ∧ mj_ft 4 6 = 0 ∧ mj_fin 4 6 = false := by decide +kernel
theorem qm_4_41 : mj_mth 4 41 = some (0, 42) := by decide +kernel
theorem qm_4_45 : mj_mth 4 45 = some (0, 63) := by decide +kernel
theorem qm_4_51 : mj_mth 4 51 = some (0, 52) := by decide +kernel
theorem qm_4_55 : mj_mth 4 55 = some (0, 41) := by decide +kernel
theorem qf_4_59 : mj_fld 4 59 = some (7, 1) ∧ mj_ft 7 1 = 0 ∧ mj_fin 7 1 = false := by decide +kernel
theorem qm_4_62 : mj_mth 4 62 = some (0, 51) := by decide +kernel
theorem qm_4_65 : mj_mth 4 65 = some (0, 64) := by decide +kernel
theorem qm_4_68 : mj_mth 4 68 = some (0, 43) := by decide +kernel
theorem qm_4_71 : mj_mth 4 71 = some (0, 57) := by decide +kernel
theorem qm_4_74 : mj_mth 4 74 = some (0, 44) := by decide +kernel
theorem qm_4_77 : mj_mth 4 77 = some (0, 55) := by decide +kernel
theorem qm_4_81 : mj_mth 4 81 = some (0, 58) := by decide +kernel
theorem qm_4_84 : mj_mth 4 84 = some (0, 45) := by decide +kernel
theorem qm_4_87 : mj_mth 4 87 = some (0, 65) := by decide +kernel
theorem qm_4_91 : mj_mth 4 91 = some (0, 46) := by decide +kernel
theorem qf_4_94 : mj_fld 4 94 = some (5, 6) ∧ mj_ft 5 6 = 0 ∧ mj_fin 5 6 = false := by decide +kernel
theorem qm_4_97 : mj_mth 4 97 = some (0, 47) := by decide +kernel
theorem qm_4_100 : mj_mth 4 100 = some (0, 54) := by decide +kernel
theorem qm_4_103 : mj_mth 4 103 = some (0, 56) := by decide +kernel
theorem qm_4_106 : mj_mth 4 106 = some (0, 50) := by decide +kernel
theorem qm_4_110 : mj_mth 4 110 = some (0, 48) := by decide +kernel
theorem qm_4_113 : mj_mth 4 113 = some (0, 53) := by decide +kernel
theorem qm_4_116 : mj_mth 4 116 = some (0, 49) := by decide +kernel
theorem qm_4_119 : mj_mth 4 119 = some (0, 62) := by decide +kernel
theorem qm_4_122 : mj_mth 4 122 = some (0, 59) := by decide +kernel
theorem qm_5_3 : mj_mth 5 3 = some (1, 0) := by decide +kernel
theorem qf_5_9 : mj_fld 5 9 = some (5, 0) ∧ mj_ft 5 0 = 2 ∧ mj_fin 5 0 = true := by decide +kernel
theorem qf_5_15 : mj_fld 5 15 = some (5, 1) ∧ mj_ft 5 1 = 2 ∧ mj_fin 5 1 = true := by decide +kernel
theorem qf_5_18 : mj_fld 5 18 = some (5, 2) ∧ mj_ft 5 2 = 0 ∧ mj_fin 5 2 = false := by decide +kernel
theorem qf_5_22 : mj_fld 5 22 = some (5, 3) ∧ mj_ft 5 3 = 0 ∧ mj_fin 5 3 = false := by decide +kernel
theorem qf_5_25 : mj_fld 5 25 = some (5, 4) ∧ mj_ft 5 4 = 1 ∧ mj_fin 5 4 = false := by decide +kernel
theorem qf_5_29 : mj_fld 5 29 = some (5, 5) ∧ mj_ft 5 5 = 1 ∧ mj_fin 5 5 = false := by decide +kernel
theorem qf_5_32 : mj_fld 5 32 = some (5, 6) ∧ mj_ft 5 6 = 0 ∧ mj_fin 5 6 = false := by decide +kernel
theorem qf_5_35 : mj_fld 5 35 = some (5, 7) ∧ mj_ft 5 7 = 0 ∧ mj_fin 5 7 = false := by decide +kernel
theorem qf_5_38 : mj_fld 5 38 = some (5, 8) ∧ mj_ft 5 8 = 0 ∧ mj_fin 5 8 = false := by decide +kernel
theorem qf_5_41 : mj_fld 5 41 = some (5, 10) ∧ mj_ft 5 10 = 0 ∧ mj_fin 5 10 = false := by decide +kernel
theorem qf_5_44 : mj_fld 5 44 = some (5, 9) ∧ mj_ft 5 9 = 0 ∧ mj_fin 5 9 = false := by decide +kernel
theorem qf_5_47 : mj_fld 5 47 = some (5, 12) ∧ mj_ft 5 12 = 1 ∧ mj_fin 5 12 = false := by decide +kernel
theorem qf_5_50 : mj_fld 5 50 = some (5, 11) ∧ mj_ft 5 11 = 0 ∧ mj_fin 5 11 = false := by decide +kernel
theorem qf_5_53 : mj_fld 5 53 = some (5, 13) ∧ mj_ft 5 13 = 1 ∧ mj_fin 5 13 = false := by decide +kernel
theorem qm_5_56 : mj_mth 5 56 = some (0, 65) := by decide +kernel
theorem qf_5_60 : mj_fld 5 60 = some (5, 14) ∧ mj_ft 5 14 = 0 ∧ mj_fin 5 14 = false := by decide +kernel
theorem qm_5_63 : mj_mth 5 63 = some (0, 67) := by decide +kernel
theorem qm_5_67 : mj_mth 5 67 = some (0, 166) := by decide +kernel
theorem qm_6_3 : mj_mth 6 3 = some (1, 0) := by decide +kernel
theorem qc_6_9 : mj_cls 6 9 = some 5 := by decide +kernel
theorem qf_6_11 : mj_fld 6 11 = some (6, 0) ∧ mj_ft 6 0 = 2 ∧ mj_fin 6 0 = true := by decide +kernel
theorem qm_6_17 : mj_mth 6 17 = some (0, 60) := by decide +kernel
theorem qf_6_18 : mj_fld 6 18 = some (6, 1) ∧ mj_ft 6 1 = 0 ∧ mj_fin 6 1 = false := by decide +kernel
theorem qm_6_22 : mj_mth 6 22 = some (0, 73) := by decide +kernel
theorem qf_6_26 : mj_fld 6 26 = some (5, 2) ∧ mj_ft 5 2 = 0 ∧ mj_fin 5 2 = false := by decide +kernel
theorem qm_7_3 : mj_mth 7 3 = some (1, 0) := by decide +kernel
theorem qf_7_9 : mj_fld 7 9 = some (7, 0) ∧ mj_ft 7 0 = 2 ∧ mj_fin 7 0 = true := by decide +kernel
theorem qf_7_15 : mj_fld 7 15 = some (7, 1) ∧ mj_ft 7 1 = 0 ∧ mj_fin 7 1 = false := by decide +kernel
theorem qm_7_19 : mj_mth 7 19 = some (0, 79) := by decide +kernel
theorem qm_8_1 : mj_mth 8 1 = some (1, 0) := by decide +kernel
theorem qc_8_7 : mj_cls 8 7 = some 7 := by decide +kernel
theorem qm_8_9 : mj_mth 8 9 = some (0, 77) := by decide +kernel
theorem qf_8_10 : mj_fld 8 10 = some (8, 0) ∧ mj_ft 8 0 = 2 ∧ mj_fin 8 0 = true := by decide +kernel
theorem qc_8_16 : mj_cls 8 16 = some 6 := by decide +kernel
theorem qm_8_18 : mj_mth 8 18 = some (0, 71) := by decide +kernel
theorem qf_8_19 : mj_fld 8 19 = some (8, 1) ∧ mj_ft 8 1 = 2 ∧ mj_fin 8 1 = true := by decide +kernel
theorem qc_8_23 : mj_cls 8 23 = some 4 := by decide +kernel
theorem qm_8_25 : mj_mth 8 25 = some (0, 39) := by decide +kernel
theorem qf_8_26 : mj_fld 8 26 = some (8, 2) ∧ mj_ft 8 2 = 2 ∧ mj_fin 8 2 = true := by decide +kernel
theorem qc_8_30 : mj_cls 8 30 = some 3 := by decide +kernel
theorem qm_8_32 : mj_mth 8 32 = some (0, 26) := by decide +kernel
theorem qf_8_33 : mj_fld 8 33 = some (8, 3) ∧ mj_ft 8 3 = 2 ∧ mj_fin 8 3 = true := by decide +kernel
theorem qc_8_37 : mj_cls 8 37 = some 0 := by decide +kernel
theorem qm_8_39 : mj_mth 8 39 = some (0, 0) := by decide +kernel
theorem qf_8_40 : mj_fld 8 40 = some (8, 4) ∧ mj_ft 8 4 = 2 ∧ mj_fin 8 4 = true := by decide +kernel
theorem qc_8_44 : mj_cls 8 44 = some 2 := by decide +kernel
theorem qm_8_46 : mj_mth 8 46 = some (0, 23) := by decide +kernel
theorem qf_8_47 : mj_fld 8 47 = some (8, 5) ∧ mj_ft 8 5 = 2 ∧ mj_fin 8 5 = false := by decide +kernel
theorem qf_8_51 : mj_fld 8 51 = some (8, 6) ∧ mj_ft 8 6 = 2 ∧ mj_fin 8 6 = false := by decide +kernel
theorem qf_8_54 : mj_fld 8 54 = some (8, 9) ∧ mj_ft 8 9 = 0 ∧ mj_fin 8 9 = false := by decide +kernel
theorem qf_8_58 : mj_fld 8 58 = some (7, 1) ∧ mj_ft 7 1 = 0 ∧ mj_fin 7 1 = false := by decide +kernel
theorem qm_8_68 : mj_mth 8 68 = some (0, 78) := by decide +kernel
theorem qm_8_77 : mj_mth 8 77 = some (0, 104) := by decide +kernel
theorem qm_8_83 : mj_mth 8 83 = some (0, 75) := by decide +kernel
theorem qm_8_89 : mj_mth 8 89 = some (0, 61) := by decide +kernel
theorem qm_8_95 : mj_mth 8 95 = some (0, 40) := by decide +kernel
theorem qf_8_99 : mj_fld 8 99 = some (5, 12) ∧ mj_ft 5 12 = 1 ∧ mj_fin 5 12 = false := by decide +kernel
theorem qm_8_103 : mj_mth 8 103 = some (0, 68) := by decide +kernel
theorem qm_8_106 : mj_mth 8 106 = some (0, 76) := by decide +kernel
theorem qm_8_109 : mj_mth 8 109 = some (0, 73) := by decide +kernel
theorem qm_8_118 : mj_mth 8 118 = some (0, 70) := by decide +kernel
theorem qm_8_124 : mj_mth 8 124 = some (0, 105) := by decide +kernel
theorem qm_8_127 : mj_mth 8 127 = some (0, 24) := by decide +kernel
theorem qm_8_131 : mj_mth 8 131 = some (0, 27) := by decide +kernel
theorem qf_8_137 : mj_fld 8 137 = some (6, 1) ∧ mj_ft 6 1 = 0 ∧ mj_fin 6 1 = false := by decide +kernel
theorem qf_8_138 : mj_fld 8 138 = some (8, 8) ∧ mj_ft 8 8 = 0 ∧ mj_fin 8 8 = false := by decide +kernel
theorem qf_8_141 : mj_fld 8 141 = some (8, 7) ∧ mj_ft 8 7 = 1 ∧ mj_fin 8 7 = false := by decide +kernel
theorem qm_8_144 : mj_mth 8 144 = some (0, 25) := by decide +kernel
theorem qf_8_150 : mj_fld 8 150 = some (1, 7) ∧ mj_ft 1 7 = 0 ∧ mj_fin 1 7 = false := by decide +kernel
theorem qm_8_153 : mj_mth 8 153 = some (0, 16) := by decide +kernel
theorem qm_8_158 : mj_mth 8 158 = some (0, 17) := by decide +kernel
theorem qm_8_164 : mj_mth 8 164 = some (0, 18) := by decide +kernel
theorem qm_8_167 : mj_mth 8 167 = some (0, 72) := by decide +kernel
theorem qm_8_172 : mj_mth 8 172 = some (0, 106) := by decide +kernel
theorem qm_8_175 : mj_mth 8 175 = some (0, 19) := by decide +kernel
theorem qm_8_180 : mj_mth 8 180 = some (0, 21) := by decide +kernel
theorem qm_8_186 : mj_mth 8 186 = some (0, 20) := by decide +kernel
theorem qm_8_191 : mj_mth 8 191 = some (0, 1) := by decide +kernel
theorem qf_8_195 : mj_fld 8 195 = some (0, 2) ∧ mj_ft 0 2 = 0 ∧ mj_fin 0 2 = false := by decide +kernel
theorem qm_8_198 : mj_mth 8 198 = some (0, 2) := by decide +kernel
theorem qm_8_203 : mj_mth 8 203 = some (0, 3) := by decide +kernel
theorem qm_8_206 : mj_mth 8 206 = some (0, 4) := by decide +kernel
theorem qm_8_211 : mj_mth 8 211 = some (0, 100) := by decide +kernel
theorem qm_8_215 : mj_mth 8 215 = some (0, 101) := by decide +kernel
theorem qm_8_219 : mj_mth 8 219 = some (0, 102) := by decide +kernel
theorem qm_8_223 : mj_mth 8 223 = some (0, 103) := by decide +kernel
theorem qf_8_228 : mj_fld 8 228 = some (5, 2) ∧ mj_ft 5 2 = 0 ∧ mj_fin 5 2 = false := by decide +kernel
theorem qm_9_1 : mj_mth 9 1 = some (2, 0) := by decide +kernel
theorem qm_10_1 : mj_mth 10 1 = some (1, 0) := by decide +kernel
theorem qf_10_9 : mj_fld 10 9 = some (10, 1) ∧ mj_ft 10 1 = 2 ∧ mj_fin 10 1 = true := by decide +kernel
theorem qf_10_13 : mj_fld 10 13 = some (10, 3) ∧ mj_ft 10 3 = 0 ∧ mj_fin 10 3 = false := by decide +kernel
theorem qf_10_17 : mj_fld 10 17 = some (10, 5) ∧ mj_ft 10 5 = 2 ∧ mj_fin 10 5 = true := by decide +kernel
theorem qf_10_20 : mj_fld 10 20 = some (10, 6) ∧ mj_ft 10 6 = 2 ∧ mj_fin 10 6 = true := by decide +kernel
theorem qf_10_23 : mj_fld 10 23 = some (10, 7) ∧ mj_ft 10 7 = 2 ∧ mj_fin 10 7 = true := by decide +kernel
theorem qf_10_27 : mj_fld 10 27 = some (10, 8) ∧ mj_ft 10 8 = 2 ∧ mj_fin 10 8 = true := by decide +kernel
theorem qf_10_30 : mj_fld 10 30 = some (10, 9) ∧ mj_ft 10 9 = 2 ∧ mj_fin 10 9 = true := by decide +kernel
theorem qf_10_33 : mj_fld 10 33 = some (10, 10) ∧ mj_ft 10 10 = 2 ∧ mj_fin 10 10 = true := by decide +kernel
theorem qf_10_36 : mj_fld 10 36 = some (10, 11) ∧ mj_ft 10 11 = 2 ∧ mj_fin 10 11 = true := by decide +kernel
theorem qf_10_39 : mj_fld 10 39 = some (10, 12) ∧ mj_ft 10 12 = 2 ∧ mj_fin 10 12 = true := by decide +kernel
theorem qf_10_42 : mj_fld 10 42 = some (10, 13) ∧ mj_ft 10 13 = 2 ∧ mj_fin 10 13 = true := by decide +kernel
theorem qf_10_45 : mj_fld 10 45 = some (10, 14) ∧ mj_ft 10 14 = 2 ∧ mj_fin 10 14 = true := by decide +kernel
theorem qf_10_48 : mj_fld 10 48 = some (10, 15) ∧ mj_ft 10 15 = 2 ∧ mj_fin 10 15 = true := by decide +kernel
theorem qf_10_51 : mj_fld 10 51 = some (10, 16) ∧ mj_ft 10 16 = 2 ∧ mj_fin 10 16 = true := by decide +kernel
theorem qf_10_54 : mj_fld 10 54 = some (10, 17) ∧ mj_ft 10 17 = 2 ∧ mj_fin 10 17 = true := by decide +kernel
theorem qf_10_57 : mj_fld 10 57 = some (10, 25) ∧ mj_ft 10 25 = 2 ∧ mj_fin 10 25 = true := by decide +kernel
theorem qf_10_62 : mj_fld 10 62 = some (10, 26) ∧ mj_ft 10 26 = 2 ∧ mj_fin 10 26 = true := by decide +kernel
theorem qf_10_65 : mj_fld 10 65 = some (10, 27) ∧ mj_ft 10 27 = 2 ∧ mj_fin 10 27 = true := by decide +kernel
theorem qf_10_68 : mj_fld 10 68 = some (10, 28) ∧ mj_ft 10 28 = 2 ∧ mj_fin 10 28 = true := by decide +kernel
theorem qf_10_71 : mj_fld 10 71 = some (10, 30) ∧ mj_ft 10 30 = 2 ∧ mj_fin 10 30 = true := by decide +kernel
theorem qf_10_74 : mj_fld 10 74 = some (10, 31) ∧ mj_ft 10 31 = 2 ∧ mj_fin 10 31 = true := by decide +kernel
theorem qf_10_77 : mj_fld 10 77 = some (10, 32) ∧ mj_ft 10 32 = 2 ∧ mj_fin 10 32 = true := by decide +kernel
theorem qf_10_80 : mj_fld 10 80 = some (10, 33) ∧ mj_ft 10 33 = 2 ∧ mj_fin 10 33 = true := by decide +kernel
theorem qf_10_83 : mj_fld 10 83 = some (10, 34) ∧ mj_ft 10 34 = 2 ∧ mj_fin 10 34 = true := by decide +kernel
theorem qf_10_86 : mj_fld 10 86 = some (10, 35) ∧ mj_ft 10 35 = 2 ∧ mj_fin 10 35 = true := by decide +kernel
theorem qf_10_90 : mj_fld 10 90 = some (10, 36) ∧ mj_ft 10 36 = 2 ∧ mj_fin 10 36 = true := by decide +kernel
theorem qf_10_93 : mj_fld 10 93 = some (10, 37) ∧ mj_ft 10 37 = 2 ∧ mj_fin 10 37 = true := by decide +kernel
theorem qf_10_96 : mj_fld 10 96 = some (10, 39) ∧ mj_ft 10 39 = 2 ∧ mj_fin 10 39 = true := by decide +kernel
theorem qf_10_99 : mj_fld 10 99 = some (10, 40) ∧ mj_ft 10 40 = 2 ∧ mj_fin 10 40 = true := by decide +kernel
theorem qf_10_102 : mj_fld 10 102 = some (10, 41) ∧ mj_ft 10 41 = 2 ∧ mj_fin 10 41 = true := by decide +kernel
theorem qf_10_105 : mj_fld 10 105 = some (10, 0) ∧ mj_ft 10 0 = 0 ∧ mj_fin 10 0 = false := by decide +kernel
theorem qf_10_108 : mj_fld 10 108 = some (10, 2) ∧ mj_ft 10 2 = 0 ∧ mj_fin 10 2 = false := by decide +kernel
theorem qm_10_111 : mj_mth 10 111 = some (0, 110) := by decide +kernel
theorem qm_10_115 : mj_mth 10 115 = some (0, 113) := by decide +kernel
theorem qm_10_119 : mj_mth 10 119 = some (0, 111) := by decide +kernel
theorem qf_10_123 : mj_fld 10 123 = some (10, 18) ∧ mj_ft 10 18 = 0 ∧ mj_fin 10 18 = false := by decide +kernel
theorem qm_10_130 : mj_mth 10 130 = some (0, 119) := by decide +kernel
theorem qf_10_133 : mj_fld 10 133 = some (10, 20) ∧ mj_ft 10 20 = 0 ∧ mj_fin 10 20 = false := by decide +kernel
theorem qf_10_136 : mj_fld 10 136 = some (10, 21) ∧ mj_ft 10 21 = 0 ∧ mj_fin 10 21 = false := by decide +kernel
theorem qf_10_139 : mj_fld 10 139 = some (10, 22) ∧ mj_ft 10 22 = 1 ∧ mj_fin 10 22 = false := by decide +kernel
theorem qm_10_143 : mj_mth 10 143 = some (0, 115) := by decide +kernel
theorem qm_10_147 : mj_mth 10 147 = some (0, 116) := by decide +kernel
theorem qm_10_151 : mj_mth 10 151 = some (0, 121) := by decide +kernel
theorem qm_10_154 : mj_mth 10 154 = some (0, 118) := by decide +kernel
theorem qm_10_158 : mj_mth 10 158 = some (0, 120) := by decide +kernel
theorem qf_10_162 : mj_fld 10 162 = some (10, 4) ∧ mj_ft 10 4 = 0 ∧ mj_fin 10 4 = false := by decide +kernel
theorem qm_10_165 : mj_mth 10 165 = some (0, 123) := by decide +kernel
theorem qf_10_168 : mj_fld 10 168 = some (10, 19) ∧ mj_ft 10 19 = 0 ∧ mj_fin 10 19 = false := by decide +kernel
theorem qm_10_171 : mj_mth 10 171 = some (0, 117) := by decide +kernel
theorem qm_10_174 : mj_mth 10 174 = some (0, 125) := by decide +kernel
theorem qm_10_177 : mj_mth 10 177 = some (0, 122) := by decide +kernel
theorem qm_10_180 : mj_mth 10 180 = some (0, 124) := by decide +kernel
theorem qm_10_183 : mj_mth 10 183 = some (0, 126) := by decide +kernel
theorem qf_10_186 : mj_fld 10 186 = some (9, 6) ∧ mj_ft 9 6 = 0 ∧ mj_fin 9 6 = true := by decide +kernel
theorem qm_10_188 : mj_mth 10 188 = some (0, 130) := by decide +kernel
theorem qm_10_191 : mj_mth 10 191 = some (0, 129) := by decide +kernel
theorem qm_10_194 : mj_mth 10 194 = some (0, 128) := by decide +kernel
theorem qm_10_198 : mj_mth 10 198 = some (0, 166) := by decide +kernel
theorem qm_10_203 : mj_mth 10 203 = some (0, 132) := by decide +kernel
theorem qf_10_206 : mj_fld 10 206 = some (10, 38) ∧ mj_ft 10 38 = 0 ∧ mj_fin 10 38 = false := by decide +kernel
theorem qm_10_209 : mj_mth 10 209 = some (0, 134) := by decide +kernel
theorem qm_10_212 : mj_mth 10 212 = some (0, 136) := by decide +kernel
theorem qm_10_216 : mj_mth 10 216 = some (0, 137) := by decide +kernel
theorem qf_10_219 : mj_fld 10 219 = some (10, 29) ∧ mj_ft 10 29 = 0 ∧ mj_fin 10 29 = false := by decide +kernel
theorem qm_10_222 : mj_mth 10 222 = some (0, 139) := by decide +kernel
theorem qm_10_226 : mj_mth 10 226 = some (0, 138) := by decide +kernel
theorem qm_10_229 : mj_mth 10 229 = some (4, 0) := by decide +kernel
theorem qm_10_234 : mj_mth 10 234 = some (0, 143) := by decide +kernel
theorem qm_10_237 : mj_mth 10 237 = some (0, 142) := by decide +kernel
theorem qm_10_240 : mj_mth 10 240 = some (0, 140) := by decide +kernel
theorem qm_10_243 : mj_mth 10 243 = some (0, 141) := by decide +kernel
theorem qm_10_246 : mj_mth 10 246 = some (0, 144) := by decide +kernel
theorem qm_10_249 : mj_mth 10 249 = some (3, 0) := by decide +kernel
theorem qf_10_255 : mj_fld 10 255 = some (10, 23) ∧ mj_ft 10 23 = 1 ∧ mj_fin 10 23 = false := by decide +kernel
theorem qf_10_258 : mj_fld 10 258 = some (10, 24) ∧ mj_ft 10 24 = 0 ∧ mj_fin 10 24 = false := by decide +kernel
theorem qm_10_261 : mj_mth 10 261 = some (0, 146) := by decide +kernel
theorem qm_10_264 : mj_mth 10 264 = some (0, 147) := by decide +kernel
theorem qm_10_267 : mj_mth 10 267 = some (0, 151) := by decide +kernel
theorem qm_10_270 : mj_mth 10 270 = some (0, 152) := by decide +kernel
theorem qm_10_273 : mj_mth 10 273 = some (5, 0) := by decide +kernel
theorem qm_10_276 : mj_mth 10 276 = some (0, 158) := by decide +kernel
theorem qm_10_279 : mj_mth 10 279 = some (0, 157) := by decide +kernel
theorem qm_10_282 : mj_mth 10 282 = some (0, 159) := by decide +kernel
theorem qm_10_284 : mj_mth 10 284 = some (0, 156) := by decide +kernel
theorem qm_10_288 : mj_mth 10 288 = some (0, 160) := by decide +kernel
theorem qm_11_7 : mj_mth 11 7 = some (0, 82) := by decide +kernel
theorem qm_11_15 : mj_mth 11 15 = some (0, 83) := by decide +kernel
theorem qm_11_21 : mj_mth 11 21 = some (0, 84) := by decide +kernel
theorem qm_11_25 : mj_mth 11 25 = some (0, 86) := by decide +kernel
theorem qm_11_31 : mj_mth 11 31 = some (0, 87) := by decide +kernel
theorem qm_11_34 : mj_mth 11 34 = some (0, 88) := by decide +kernel
theorem qm_11_38 : mj_mth 11 38 = some (0, 89) := by decide +kernel
theorem qm_11_41 : mj_mth 11 41 = some (0, 90) := by decide +kernel
theorem qm_11_45 : mj_mth 11 45 = some (0, 91) := by decide +kernel
theorem qm_11_48 : mj_mth 11 48 = some (0, 92) := by decide +kernel
theorem qm_11_52 : mj_mth 11 52 = some (0, 93) := by decide +kernel
theorem qm_11_56 : mj_mth 11 56 = some (0, 94) := by decide +kernel
theorem qm_11_59 : mj_mth 11 59 = some (0, 95) := by decide +kernel
theorem qm_11_62 : mj_mth 11 62 = some (0, 96) := by decide +kernel
theorem qm_11_65 : mj_mth 11 65 = some (0, 97) := by decide +kernel
theorem qc_11_8 : mj_cls 11 8 = some 8 := by decide +kernel
theorem qm_11_68 : mj_mth 11 68 = some (0, 81) := by decide +kernel
theorem qc_11_69 : mj_cls 11 69 = some 10 := by decide +kernel
theorem qm_11_71 : mj_mth 11 71 = some (0, 108) := by decide +kernel
theorem qm_11_72 : mj_mth 11 72 = some (0, 167) := by decide +kernel
theorem qm_11_77 : mj_mth 11 77 = some (0, 112) := by decide +kernel
theorem qm_11_78 : mj_mth 11 78 = some (0, 109) := by decide +kernel
theorem qm_11_81 : mj_mth 11 81 = some (0, 168) := by decide +kernel
theorem qm_11_84 : mj_mth 11 84 = some (0, 114) := by decide +kernel
theorem qm_11_85 : mj_mth 11 85 = some (0, 169) := by decide +kernel
theorem qm_11_88 : mj_mth 11 88 = some (0, 127) := by decide +kernel
theorem qm_11_89 : mj_mth 11 89 = some (0, 85) := by decide +kernel
theorem qm_11_92 : mj_mth 11 92 = some (0, 131) := by decide +kernel
theorem qm_11_93 : mj_mth 11 93 = some (0, 170) := by decide +kernel
theorem qm_11_96 : mj_mth 11 96 = some (0, 133) := by decide +kernel
theorem qm_11_97 : mj_mth 11 97 = some (0, 171) := by decide +kernel
theorem qm_11_99 : mj_mth 11 99 = some (0, 135) := by decide +kernel
theorem qm_11_100 : mj_mth 11 100 = some (0, 172) := by decide +kernel
theorem qm_11_103 : mj_mth 11 103 = some (0, 145) := by decide +kernel
theorem qm_11_104 : mj_mth 11 104 = some (0, 173) := by decide +kernel
theorem qm_11_106 : mj_mth 11 106 = some (0, 148) := by decide +kernel
theorem qm_11_107 : mj_mth 11 107 = some (0, 174) := by decide +kernel
theorem qm_11_110 : mj_mth 11 110 = some (0, 149) := by decide +kernel
theorem qm_11_111 : mj_mth 11 111 = some (0, 175) := by decide +kernel
theorem qm_11_113 : mj_mth 11 113 = some (0, 150) := by decide +kernel
theorem qm_11_114 : mj_mth 11 114 = some (0, 176) := by decide +kernel
theorem qm_11_116 : mj_mth 11 116 = some (0, 153) := by decide +kernel
theorem qm_11_117 : mj_mth 11 117 = some (0, 177) := by decide +kernel
theorem qm_11_119 : mj_mth 11 119 = some (0, 154) := by decide +kernel
theorem qm_11_120 : mj_mth 11 120 = some (0, 178) := by decide +kernel
theorem qm_11_122 : mj_mth 11 122 = some (0, 155) := by decide +kernel
theorem qm_11_123 : mj_mth 11 123 = some (0, 179) := by decide +kernel
theorem qm_11_125 : mj_mth 11 125 = some (0, 161) := by decide +kernel
theorem qm_11_126 : mj_mth 11 126 = some (0, 180) := by decide +kernel
theorem qm_11_128 : mj_mth 11 128 = some (0, 162) := by decide +kernel
theorem qm_11_129 : mj_mth 11 129 = some (0, 181) := by decide +kernel
theorem qm_11_131 : mj_mth 11 131 = some (0, 163) := by decide +kernel
theorem qm_11_132 : mj_mth 11 132 = some (0, 98) := by decide +kernel
theorem qm_11_136 : mj_mth 11 136 = some (0, 164) := by decide +kernel
theorem qm_11_137 : mj_mth 11 137 = some (0, 99) := by decide +kernel
theorem qm_11_141 : mj_mth 11 141 = some (0, 165) := by decide +kernel
