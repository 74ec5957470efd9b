/-! small numbers, the literals -/
theorem wn_0 : w32 0 = 0 := rfl
theorem wn_1 : w32 1 = 1 := rfl
theorem wn_2 : w32 2 = 2 := rfl
theorem wn_3 : w32 3 = 3 := rfl
theorem wn_4 : w32 4 = 4 := rfl
theorem wn_5 : w32 5 = 5 := rfl
theorem wn_6 : w32 6 = 6 := rfl
theorem wn_7 : w32 7 = 7 := rfl
theorem wn_8 : w32 8 = 8 := rfl
theorem wn_9 : w32 9 = 9 := rfl
theorem wn_10 : w32 10 = 10 := rfl
theorem wn_11 : w32 11 = 11 := rfl
theorem wn_12 : w32 12 = 12 := rfl
theorem wn_13 : w32 13 = 13 := rfl
theorem wn_14 : w32 14 = 14 := rfl
theorem wn_15 : w32 15 = 15 := rfl
theorem wn_16 : w32 16 = 16 := rfl
theorem wn_17 : w32 17 = 17 := rfl
theorem wn_18 : w32 18 = 18 := rfl
theorem wn_19 : w32 19 = 19 := rfl
theorem wn_20 : w32 20 = 20 := rfl
theorem wn_21 : w32 21 = 21 := rfl
theorem wn_22 : w32 22 = 22 := rfl
theorem wn_23 : w32 23 = 23 := rfl
theorem wn_24 : w32 24 = 24 := rfl
theorem wn_25 : w32 25 = 25 := rfl
theorem wn_26 : w32 26 = 26 := rfl
theorem wn_27 : w32 27 = 27 := rfl
theorem wn_28 : w32 28 = 28 := rfl
theorem wn_29 : w32 29 = 29 := rfl
theorem wn_30 : w32 30 = 30 := rfl
theorem wn_31 : w32 31 = 31 := rfl
theorem wn_32 : w32 32 = 32 := rfl
theorem wn_33 : w32 33 = 33 := rfl
theorem wn_34 : w32 34 = 34 := rfl
theorem wn_35 : w32 35 = 35 := rfl
theorem wn_36 : w32 36 = 36 := rfl
theorem wn_37 : w32 37 = 37 := rfl
theorem wn_38 : w32 38 = 38 := rfl
theorem wn_39 : w32 39 = 39 := rfl
theorem wn_40 : w32 40 = 40 := rfl
theorem wn_41 : w32 41 = 41 := rfl
theorem wn_42 : w32 42 = 42 := rfl
theorem wn_43 : w32 43 = 43 := rfl
theorem wn_44 : w32 44 = 44 := rfl
theorem wn_45 : w32 45 = 45 := rfl
theorem wn_46 : w32 46 = 46 := rfl
theorem wn_47 : w32 47 = 47 := rfl
theorem wn_48 : w32 48 = 48 := rfl
theorem wn_49 : w32 49 = 49 := rfl
theorem wn_50 : w32 50 = 50 := rfl
theorem wn_51 : w32 51 = 51 := rfl
theorem wn_52 : w32 52 = 52 := rfl
theorem wn_53 : w32 53 = 53 := rfl
theorem wn_54 : w32 54 = 54 := rfl
theorem wn_55 : w32 55 = 55 := rfl
theorem wn_56 : w32 56 = 56 := rfl
theorem wn_57 : w32 57 = 57 := rfl
theorem wn_58 : w32 58 = 58 := rfl
theorem wn_59 : w32 59 = 59 := rfl
theorem wn_60 : w32 60 = 60 := rfl
theorem wn_61 : w32 61 = 61 := rfl
theorem wn_62 : w32 62 = 62 := rfl
theorem wn_63 : w32 63 = 63 := rfl
theorem wn_64 : w32 64 = 64 := rfl
theorem wn_65 : w32 65 = 65 := rfl
theorem wn_66 : w32 66 = 66 := rfl
theorem wn_67 : w32 67 = 67 := rfl
theorem wn_68 : w32 68 = 68 := rfl
theorem wn_69 : w32 69 = 69 := rfl
theorem wn_70 : w32 70 = 70 := rfl
theorem wn_71 : w32 71 = 71 := rfl
theorem wn_72 : w32 72 = 72 := rfl
theorem wn_73 : w32 73 = 73 := rfl
theorem wn_74 : w32 74 = 74 := rfl
theorem wn_75 : w32 75 = 75 := rfl
theorem wn_76 : w32 76 = 76 := rfl
theorem wn_77 : w32 77 = 77 := rfl
theorem wn_78 : w32 78 = 78 := rfl
theorem wn_79 : w32 79 = 79 := rfl
theorem wn_80 : w32 80 = 80 := rfl
theorem wn_81 : w32 81 = 81 := rfl
theorem wn_82 : w32 82 = 82 := rfl
theorem wn_83 : w32 83 = 83 := rfl
theorem wn_84 : w32 84 = 84 := rfl
theorem wn_85 : w32 85 = 85 := rfl
theorem wn_86 : w32 86 = 86 := rfl
theorem wn_87 : w32 87 = 87 := rfl
theorem wn_88 : w32 88 = 88 := rfl
theorem wn_89 : w32 89 = 89 := rfl
theorem wn_90 : w32 90 = 90 := rfl
theorem wn_91 : w32 91 = 91 := rfl
theorem wn_92 : w32 92 = 92 := rfl
theorem wn_93 : w32 93 = 93 := rfl
theorem wn_94 : w32 94 = 94 := rfl
theorem wn_95 : w32 95 = 95 := rfl
theorem wn_96 : w32 96 = 96 := rfl
theorem wn_97 : w32 97 = 97 := rfl
theorem wn_98 : w32 98 = 98 := rfl
theorem wn_99 : w32 99 = 99 := rfl
theorem wn_100 : w32 100 = 100 := rfl
theorem wn_101 : w32 101 = 101 := rfl
theorem wn_102 : w32 102 = 102 := rfl
theorem wn_103 : w32 103 = 103 := rfl
theorem wn_104 : w32 104 = 104 := rfl
theorem wn_105 : w32 105 = 105 := rfl
theorem wn_106 : w32 106 = 106 := rfl
theorem wn_107 : w32 107 = 107 := rfl
theorem wn_108 : w32 108 = 108 := rfl
theorem wn_109 : w32 109 = 109 := rfl
theorem wn_110 : w32 110 = 110 := rfl
theorem wn_111 : w32 111 = 111 := rfl
theorem wn_112 : w32 112 = 112 := rfl
theorem wn_113 : w32 113 = 113 := rfl
theorem wn_114 : w32 114 = 114 := rfl
theorem wn_115 : w32 115 = 115 := rfl
theorem wn_116 : w32 116 = 116 := rfl
theorem wn_117 : w32 117 = 117 := rfl
theorem wn_118 : w32 118 = 118 := rfl
theorem wn_119 : w32 119 = 119 := rfl
theorem wn_120 : w32 120 = 120 := rfl
theorem wn_121 : w32 121 = 121 := rfl
theorem wn_122 : w32 122 = 122 := rfl
theorem wn_123 : w32 123 = 123 := rfl
theorem wn_124 : w32 124 = 124 := rfl
theorem wn_125 : w32 125 = 125 := rfl
theorem wn_126 : w32 126 = 126 := rfl
theorem wn_127 : w32 127 = 127 := rfl
theorem wn_128 : w32 128 = 128 := rfl
theorem wn_129 : w32 129 = 129 := rfl
theorem wn_130 : w32 130 = 130 := rfl
theorem wn_131 : w32 131 = 131 := rfl
theorem wn_132 : w32 132 = 132 := rfl
theorem wn_133 : w32 133 = 133 := rfl
theorem wn_134 : w32 134 = 134 := rfl
theorem wn_135 : w32 135 = 135 := rfl
theorem wn_136 : w32 136 = 136 := rfl
theorem wn_137 : w32 137 = 137 := rfl
theorem wn_138 : w32 138 = 138 := rfl
theorem wn_139 : w32 139 = 139 := rfl
theorem wn_140 : w32 140 = 140 := rfl
theorem wn_141 : w32 141 = 141 := rfl
theorem wn_142 : w32 142 = 142 := rfl
theorem wn_143 : w32 143 = 143 := rfl
theorem wn_144 : w32 144 = 144 := rfl
theorem wn_145 : w32 145 = 145 := rfl
theorem wn_146 : w32 146 = 146 := rfl
theorem wn_147 : w32 147 = 147 := rfl
theorem wn_148 : w32 148 = 148 := rfl
theorem wn_149 : w32 149 = 149 := rfl
theorem wn_150 : w32 150 = 150 := rfl
theorem wn_151 : w32 151 = 151 := rfl
theorem wn_152 : w32 152 = 152 := rfl
theorem wn_153 : w32 153 = 153 := rfl
theorem wn_154 : w32 154 = 154 := rfl
theorem wn_155 : w32 155 = 155 := rfl
theorem wn_156 : w32 156 = 156 := rfl
theorem wn_157 : w32 157 = 157 := rfl
theorem wn_158 : w32 158 = 158 := rfl
theorem wn_159 : w32 159 = 159 := rfl
theorem wn_160 : w32 160 = 160 := rfl
section
variable {L : Nat}
theorem h1_901 : (sh L 901).1 = 28 := rfl
theorem sl_901 : ((strs.getD (901 - 901) []).length : Int) = 12 := by decide +kernel
theorem h1_902 : (sh L 902).1 = 28 := rfl
theorem sl_902 : ((strs.getD (902 - 901) []).length : Int) = 132 := by decide +kernel
theorem h1_903 : (sh L 903).1 = 28 := rfl
theorem sl_903 : ((strs.getD (903 - 901) []).length : Int) = 132 := by decide +kernel
theorem h1_904 : (sh L 904).1 = 28 := rfl
theorem sl_904 : ((strs.getD (904 - 901) []).length : Int) = 12 := by decide +kernel
theorem h1_905 : (sh L 905).1 = 28 := rfl
theorem sl_905 : ((strs.getD (905 - 901) []).length : Int) = 106 := by decide +kernel
theorem sc_901_0 : (strs.getD (901 - 901) []).getD 0 0 = 43 := rfl
theorem sc_901_1 : (strs.getD (901 - 901) []).getD 1 0 = 61 := rfl
theorem sc_901_2 : (strs.getD (901 - 901) []).getD 2 0 = 45 := rfl
theorem sc_901_3 : (strs.getD (901 - 901) []).getD 3 0 = 61 := rfl
theorem sc_901_4 : (strs.getD (901 - 901) []).getD 4 0 = 60 := rfl
theorem sc_901_5 : (strs.getD (901 - 901) []).getD 5 0 = 60 := rfl
theorem sc_901_6 : (strs.getD (901 - 901) []).getD 6 0 = 62 := rfl
theorem sc_901_7 : (strs.getD (901 - 901) []).getD 7 0 = 62 := rfl
theorem sc_901_8 : (strs.getD (901 - 901) []).getD 8 0 = 94 := rfl
theorem sc_901_9 : (strs.getD (901 - 901) []).getD 9 0 = 61 := rfl
theorem sc_901_10 : (strs.getD (901 - 901) []).getD 10 0 = 60 := rfl
theorem sc_901_11 : (strs.getD (901 - 901) []).getD 11 0 = 62 := rfl
theorem sc_904_0 : (strs.getD (904 - 901) []).getD 0 0 = 43 := rfl
theorem sc_904_1 : (strs.getD (904 - 901) []).getD 1 0 = 61 := rfl
theorem sc_904_2 : (strs.getD (904 - 901) []).getD 2 0 = 45 := rfl
theorem sc_904_3 : (strs.getD (904 - 901) []).getD 3 0 = 61 := rfl
theorem sc_904_4 : (strs.getD (904 - 901) []).getD 4 0 = 60 := rfl
theorem sc_904_5 : (strs.getD (904 - 901) []).getD 5 0 = 60 := rfl
theorem sc_904_6 : (strs.getD (904 - 901) []).getD 6 0 = 62 := rfl
theorem sc_904_7 : (strs.getD (904 - 901) []).getD 7 0 = 62 := rfl
theorem sc_904_8 : (strs.getD (904 - 901) []).getD 8 0 = 94 := rfl
theorem sc_904_9 : (strs.getD (904 - 901) []).getD 9 0 = 61 := rfl
theorem sc_904_10 : (strs.getD (904 - 901) []).getD 10 0 = 60 := rfl
theorem sc_904_11 : (strs.getD (904 - 901) []).getD 11 0 = 62 := rfl
end
