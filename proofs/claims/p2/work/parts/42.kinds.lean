theorem kq_0 : kS true 0 = 11 := by decide +kernel
theorem lq_0 : LN 0 = 0 := by decide +kernel
theorem kq_1 : kS true 1 = 13 := by decide +kernel
theorem lq_1 : LN 1 = 8000 := by decide +kernel
theorem kq_2 : kS true 2 = 13 := by decide +kernel
theorem lq_2 : LN 2 = 12000 := by decide +kernel
theorem kq_3 : kS true 3 = 14 := by decide +kernel
theorem lq_3 : LN 3 = 6 := by decide +kernel
theorem kq_4 : kS true 4 = 14 := by decide +kernel
theorem lq_4 : LN 4 = 7 := by decide +kernel
theorem kq_5 : kS true 5 = 6 := by decide +kernel
theorem lq_5 : LN 5 = 0 := by decide +kernel
theorem kq_6 : kS true 6 = 13 := by decide +kernel
theorem lq_6 : LN 6 = 60000 := by decide +kernel
theorem kq_7 : kS true 7 = 14 := by decide +kernel
theorem lq_7 : LN 7 = 12 := by decide +kernel
theorem kq_8 : kS true 8 = 14 := by decide +kernel
theorem lq_8 : LN 8 = 12 := by decide +kernel
theorem kq_9 : kS true 9 = 21 := by decide +kernel
theorem lq_9 : LN 9 = 13 := by decide +kernel
theorem kq_10 : kS true 10 = 14 := by decide +kernel
theorem lq_10 : LN 10 = 16000 := by decide +kernel
theorem kq_11 : kS true 11 = 14 := by decide +kernel
theorem lq_11 : LN 11 = 16000 := by decide +kernel
theorem kq_12 : kS true 12 = 14 := by decide +kernel
theorem lq_12 : LN 12 = 16000 := by decide +kernel
theorem kq_13 : kS true 13 = 14 := by decide +kernel
theorem lq_13 : LN 13 = 16000 := by decide +kernel
theorem kq_14 : kS true 14 = 14 := by decide +kernel
theorem lq_14 : LN 14 = 16000 := by decide +kernel
theorem kq_15 : kS true 15 = 14 := by decide +kernel
theorem lq_15 : LN 15 = 16000 := by decide +kernel
theorem kq_16 : kS true 16 = 14 := by decide +kernel
theorem lq_16 : LN 16 = 16000 := by decide +kernel
theorem kq_17 : kS true 17 = 14 := by decide +kernel
theorem lq_17 : LN 17 = 16000 := by decide +kernel
theorem kq_18 : kS true 18 = 14 := by decide +kernel
theorem lq_18 : LN 18 = 16000 := by decide +kernel
theorem kq_19 : kS true 19 = 14 := by decide +kernel
theorem lq_19 : LN 19 = 16000 := by decide +kernel
theorem kq_20 : kS true 20 = 14 := by decide +kernel
theorem lq_20 : LN 20 = 16000 := by decide +kernel
theorem kq_21 : kS true 21 = 14 := by decide +kernel
theorem lq_21 : LN 21 = 16000 := by decide +kernel
theorem kq_22 : kS true 22 = 14 := by decide +kernel
theorem lq_22 : LN 22 = 16000 := by decide +kernel
theorem kq_23 : kS true 23 = 9 := by decide +kernel
theorem lq_23 : LN 23 = 0 := by decide +kernel
theorem kq_24 : kS true 24 = 0 := by decide +kernel
theorem lq_24 : LN 24 = 0 := by decide +kernel
theorem kq_25 : kS true 25 = 14 := by decide +kernel
theorem lq_25 : LN 25 = 20000 := by decide +kernel
theorem kq_26 : kS true 26 = 14 := by decide +kernel
theorem lq_26 : LN 26 = 25 := by decide +kernel
theorem kq_27 : kS true 27 = 2 := by decide +kernel
theorem lq_27 : LN 27 = 0 := by decide +kernel
theorem kq_28 : kS true 28 = 8 := by decide +kernel
theorem lq_28 : LN 28 = 0 := by decide +kernel
theorem kq_29 : kS true 29 = 14 := by decide +kernel
theorem lq_29 : LN 29 = 16 := by decide +kernel
theorem kq_30 : kS true 30 = 14 := by decide +kernel
theorem lq_30 : LN 30 = 119 := by decide +kernel
theorem kq_31 : kS true 31 = 14 := by decide +kernel
theorem lq_31 : LN 31 = 4352 := by decide +kernel
theorem kq_32 : kS true 32 = 17 := by decide +kernel
theorem lq_32 : LN 32 = 400 := by decide +kernel
theorem kq_33 : kS true 33 = 14 := by decide +kernel
theorem lq_33 : LN 33 = 2470 := by decide +kernel
theorem kq_34 : kS true 34 = 14 := by decide +kernel
theorem lq_34 : LN 34 = 15808 := by decide +kernel
theorem kq_35 : kS true 35 = 14 := by decide +kernel
theorem lq_35 : LN 35 = 8 := by decide +kernel
theorem kq_36 : kS true 36 = 8 := by decide +kernel
theorem lq_36 : LN 36 = 0 := by decide +kernel
theorem kq_37 : kS true 37 = 14 := by decide +kernel
theorem lq_37 : LN 37 = 16 := by decide +kernel
theorem kq_38 : kS true 38 = 20 := by decide +kernel
theorem lq_38 : LN 38 = 16 := by decide +kernel
theorem kq_39 : kS true 39 = 10 := by decide +kernel
theorem lq_39 : LN 39 = 0 := by decide +kernel
theorem kq_40 : kS true 40 = 15 := by decide +kernel
theorem lq_40 : LN 40 = 16 := by decide +kernel
theorem kq_41 : kS true 41 = 8 := by decide +kernel
theorem lq_41 : LN 41 = 0 := by decide +kernel
theorem kq_42 : kS true 42 = 14 := by decide +kernel
theorem lq_42 : LN 42 = 16 := by decide +kernel
theorem kq_43 : kS true 43 = 13 := by decide +kernel
theorem lq_43 : LN 43 = 24000 := by decide +kernel
theorem kq_44 : kS true 44 = 14 := by decide +kernel
theorem lq_44 : LN 44 = 16 := by decide +kernel
theorem kq_45 : kS true 45 = 1 := by decide +kernel
theorem lq_45 : LN 45 = 0 := by decide +kernel
theorem kq_46 : kS true 46 = 7 := by decide +kernel
theorem lq_46 : LN 46 = 0 := by decide +kernel
theorem kq_47 : kS true 47 = 14 := by decide +kernel
theorem lq_47 : LN 47 = 40 := by decide +kernel
theorem kq_48 : kS true 48 = 4 := by decide +kernel
theorem lq_48 : LN 48 = 0 := by decide +kernel
theorem kq_49 : kS true 49 = 14 := by decide +kernel
theorem lq_49 : LN 49 = 20 := by decide +kernel
theorem kq_50 : kS true 50 = 10 := by decide +kernel
theorem lq_50 : LN 50 = 0 := by decide +kernel
theorem kq_51 : kS true 51 = 15 := by decide +kernel
theorem lq_51 : LN 51 = 16 := by decide +kernel
theorem kq_52 : kS true 52 = 14 := by decide +kernel
theorem lq_52 : LN 52 = 8 := by decide +kernel
theorem kq_53 : kS true 53 = 14 := by decide +kernel
theorem lq_53 : LN 53 = 8 := by decide +kernel
theorem kq_54 : kS true 54 = 1 := by decide +kernel
theorem lq_54 : LN 54 = 0 := by decide +kernel
theorem kq_55 : kS true 55 = 7 := by decide +kernel
theorem lq_55 : LN 55 = 0 := by decide +kernel
theorem kq_56 : kS true 56 = 14 := by decide +kernel
theorem lq_56 : LN 56 = 40 := by decide +kernel
theorem kq_57 : kS true 57 = 4 := by decide +kernel
theorem lq_57 : LN 57 = 0 := by decide +kernel
theorem kq_58 : kS true 58 = 14 := by decide +kernel
theorem lq_58 : LN 58 = 20 := by decide +kernel
theorem kq_59 : kS true 59 = 10 := by decide +kernel
theorem lq_59 : LN 59 = 0 := by decide +kernel
theorem kq_60 : kS true 60 = 15 := by decide +kernel
theorem lq_60 : LN 60 = 16 := by decide +kernel
theorem kq_61 : kS true 61 = 14 := by decide +kernel
theorem lq_61 : LN 61 = 8 := by decide +kernel
theorem kq_62 : kS true 62 = 14 := by decide +kernel
theorem lq_62 : LN 62 = 8 := by decide +kernel
theorem kq_63 : kS true 63 = 18 := by decide +kernel
theorem lq_63 : LN 63 = 3 := by decide +kernel
theorem kq_64 : kS true 64 = 19 := by decide +kernel
theorem lq_64 : LN 64 = 4 := by decide +kernel
theorem kq_65 : kS true 65 = 14 := by decide +kernel
theorem lq_65 : LN 65 = 12 := by decide +kernel
theorem kq_66 : kS true 66 = 10 := by decide +kernel
theorem lq_66 : LN 66 = 0 := by decide +kernel
theorem kq_67 : kS true 67 = 15 := by decide +kernel
theorem lq_67 : LN 67 = 16 := by decide +kernel
theorem kq_68 : kS true 68 = 10 := by decide +kernel
theorem lq_68 : LN 68 = 0 := by decide +kernel
theorem kq_69 : kS true 69 = 15 := by decide +kernel
theorem lq_69 : LN 69 = 16 := by decide +kernel
theorem kq_70 : kS true 70 = 10 := by decide +kernel
theorem lq_70 : LN 70 = 0 := by decide +kernel
theorem kq_71 : kS true 71 = 15 := by decide +kernel
theorem lq_71 : LN 71 = 16 := by decide +kernel
theorem kq_72 : kS true 72 = 10 := by decide +kernel
theorem lq_72 : LN 72 = 0 := by decide +kernel
theorem kq_73 : kS true 73 = 15 := by decide +kernel
theorem lq_73 : LN 73 = 16 := by decide +kernel
theorem kq_74 : kS true 74 = 10 := by decide +kernel
theorem lq_74 : LN 74 = 0 := by decide +kernel
theorem kq_75 : kS true 75 = 15 := by decide +kernel
theorem lq_75 : LN 75 = 16 := by decide +kernel
theorem kq_76 : kS true 76 = 10 := by decide +kernel
theorem lq_76 : LN 76 = 0 := by decide +kernel
theorem kq_77 : kS true 77 = 15 := by decide +kernel
theorem lq_77 : LN 77 = 16 := by decide +kernel
theorem kq_78 : kS true 78 = 10 := by decide +kernel
theorem lq_78 : LN 78 = 0 := by decide +kernel
theorem kq_79 : kS true 79 = 15 := by decide +kernel
theorem lq_79 : LN 79 = 16 := by decide +kernel
theorem kq_80 : kS true 80 = 10 := by decide +kernel
theorem lq_80 : LN 80 = 0 := by decide +kernel
theorem kq_81 : kS true 81 = 15 := by decide +kernel
theorem lq_81 : LN 81 = 16 := by decide +kernel
theorem kq_82 : kS true 82 = 10 := by decide +kernel
theorem lq_82 : LN 82 = 0 := by decide +kernel
theorem kq_83 : kS true 83 = 15 := by decide +kernel
theorem lq_83 : LN 83 = 16 := by decide +kernel
theorem kq_84 : kS true 84 = 10 := by decide +kernel
theorem lq_84 : LN 84 = 0 := by decide +kernel
theorem kq_85 : kS true 85 = 15 := by decide +kernel
theorem lq_85 : LN 85 = 16 := by decide +kernel
theorem kq_86 : kS true 86 = 10 := by decide +kernel
theorem lq_86 : LN 86 = 0 := by decide +kernel
theorem kq_87 : kS true 87 = 15 := by decide +kernel
theorem lq_87 : LN 87 = 16 := by decide +kernel
theorem kq_88 : kS true 88 = 10 := by decide +kernel
theorem lq_88 : LN 88 = 0 := by decide +kernel
theorem kq_89 : kS true 89 = 15 := by decide +kernel
theorem lq_89 : LN 89 = 16 := by decide +kernel
theorem kq_90 : kS true 90 = 10 := by decide +kernel
theorem lq_90 : LN 90 = 0 := by decide +kernel
theorem kq_91 : kS true 91 = 15 := by decide +kernel
theorem lq_91 : LN 91 = 16 := by decide +kernel
theorem kq_92 : kS true 92 = 10 := by decide +kernel
theorem lq_92 : LN 92 = 0 := by decide +kernel
theorem kq_93 : kS true 93 = 15 := by decide +kernel
theorem lq_93 : LN 93 = 16 := by decide +kernel
theorem kq_94 : kS true 94 = 10 := by decide +kernel
theorem lq_94 : LN 94 = 0 := by decide +kernel
theorem kq_95 : kS true 95 = 15 := by decide +kernel
theorem lq_95 : LN 95 = 16 := by decide +kernel
theorem kq_96 : kS true 96 = 10 := by decide +kernel
theorem lq_96 : LN 96 = 0 := by decide +kernel
theorem kq_97 : kS true 97 = 15 := by decide +kernel
theorem lq_97 : LN 97 = 16 := by decide +kernel
theorem kq_98 : kS true 98 = 1 := by decide +kernel
theorem lq_98 : LN 98 = 0 := by decide +kernel
theorem kq_99 : kS true 99 = 7 := by decide +kernel
theorem lq_99 : LN 99 = 0 := by decide +kernel
theorem kq_100 : kS true 100 = 14 := by decide +kernel
theorem lq_100 : LN 100 = 40 := by decide +kernel
theorem kq_101 : kS true 101 = 4 := by decide +kernel
theorem lq_101 : LN 101 = 0 := by decide +kernel
theorem kq_102 : kS true 102 = 14 := by decide +kernel
theorem lq_102 : LN 102 = 20 := by decide +kernel
theorem kq_103 : kS true 103 = 10 := by decide +kernel
theorem lq_103 : LN 103 = 0 := by decide +kernel
theorem kq_104 : kS true 104 = 15 := by decide +kernel
theorem lq_104 : LN 104 = 16 := by decide +kernel
theorem kq_105 : kS true 105 = 14 := by decide +kernel
theorem lq_105 : LN 105 = 8 := by decide +kernel
theorem kq_106 : kS true 106 = 14 := by decide +kernel
theorem lq_106 : LN 106 = 8 := by decide +kernel
theorem kq_107 : kS true 107 = 1 := by decide +kernel
theorem lq_107 : LN 107 = 0 := by decide +kernel
theorem kq_108 : kS true 108 = 7 := by decide +kernel
theorem lq_108 : LN 108 = 0 := by decide +kernel
theorem kq_109 : kS true 109 = 14 := by decide +kernel
theorem lq_109 : LN 109 = 40 := by decide +kernel
theorem kq_110 : kS true 110 = 4 := by decide +kernel
theorem lq_110 : LN 110 = 0 := by decide +kernel
theorem kq_111 : kS true 111 = 14 := by decide +kernel
theorem lq_111 : LN 111 = 20 := by decide +kernel
theorem kq_112 : kS true 112 = 10 := by decide +kernel
theorem lq_112 : LN 112 = 0 := by decide +kernel
theorem kq_113 : kS true 113 = 15 := by decide +kernel
theorem lq_113 : LN 113 = 16 := by decide +kernel
theorem kq_114 : kS true 114 = 14 := by decide +kernel
theorem lq_114 : LN 114 = 8 := by decide +kernel
theorem kq_115 : kS true 115 = 14 := by decide +kernel
theorem lq_115 : LN 115 = 8 := by decide +kernel
theorem kq_116 : kS true 116 = 1 := by decide +kernel
theorem lq_116 : LN 116 = 0 := by decide +kernel
theorem kq_117 : kS true 117 = 7 := by decide +kernel
theorem lq_117 : LN 117 = 0 := by decide +kernel
theorem kq_118 : kS true 118 = 14 := by decide +kernel
theorem lq_118 : LN 118 = 40 := by decide +kernel
theorem kq_119 : kS true 119 = 4 := by decide +kernel
theorem lq_119 : LN 119 = 0 := by decide +kernel
theorem kq_120 : kS true 120 = 14 := by decide +kernel
theorem lq_120 : LN 120 = 20 := by decide +kernel
theorem kq_121 : kS true 121 = 10 := by decide +kernel
theorem lq_121 : LN 121 = 0 := by decide +kernel
theorem kq_122 : kS true 122 = 15 := by decide +kernel
theorem lq_122 : LN 122 = 16 := by decide +kernel
theorem kq_123 : kS true 123 = 14 := by decide +kernel
theorem lq_123 : LN 123 = 8 := by decide +kernel
theorem kq_124 : kS true 124 = 14 := by decide +kernel
theorem lq_124 : LN 124 = 8 := by decide +kernel
theorem kq_125 : kS true 125 = 5 := by decide +kernel
theorem lq_125 : LN 125 = 0 := by decide +kernel
theorem kq_126 : kS true 126 = 5 := by decide +kernel
theorem lq_126 : LN 126 = 0 := by decide +kernel
theorem kq_127 : kS true 127 = 5 := by decide +kernel
theorem lq_127 : LN 127 = 0 := by decide +kernel
theorem kq_128 : kS true 128 = 5 := by decide +kernel
theorem lq_128 : LN 128 = 0 := by decide +kernel
theorem kq_129 : kS true 129 = 3 := by decide +kernel
theorem lq_129 : LN 129 = 0 := by decide +kernel
theorem kq_130 : kS true 130 = 15 := by decide +kernel
theorem lq_130 : LN 130 = 12 := by decide +kernel
theorem kq_131 : kS true 131 = 13 := by decide +kernel
theorem lq_131 : LN 131 = 12000 := by decide +kernel
theorem kq_132 : kS true 132 = 16 := by decide +kernel
theorem lq_132 : LN 132 = 16384 := by decide +kernel
theorem kq_133 : kS false 133 = 12 := by decide +kernel
theorem lq_133 : LN 133 = 0 := by decide +kernel
theorem kq_134 : kS false 134 = 14 := by decide +kernel
theorem lq_134 : LN 134 = 192 := by decide +kernel
theorem kq_135 : kS false 135 = 14 := by decide +kernel
theorem lq_135 : LN 135 = 960 := by decide +kernel
theorem kq_136 : kS false 136 = 17 := by decide +kernel
theorem lq_136 : LN 136 = 17 := by decide +kernel
theorem kq_137 : kS false 137 = 17 := by decide +kernel
theorem lq_137 : LN 137 = 17 := by decide +kernel
theorem kq_138 : kS false 138 = 14 := by decide +kernel
theorem lq_138 : LN 138 = 119 := by decide +kernel
theorem kq_139 : kS false 139 = 14 := by decide +kernel
theorem lq_139 : LN 139 = 4096 := by decide +kernel
theorem kq_140 : kS false 140 = 17 := by decide +kernel
theorem lq_140 : LN 140 = 400 := by decide +kernel
theorem kq_141 : kS false 141 = 14 := by decide +kernel
theorem lq_141 : LN 141 = 2000 := by decide +kernel
theorem kq_142 : kS false 142 = 14 := by decide +kernel
theorem lq_142 : LN 142 = 12800 := by decide +kernel
theorem kq_143 : kS false 143 = 17 := by decide +kernel
theorem lq_143 : LN 143 = 16 := by decide +kernel
theorem kq_144 : kS false 144 = 17 := by decide +kernel
theorem lq_144 : LN 144 = 16 := by decide +kernel
theorem kq_145 : kS false 145 = 14 := by decide +kernel
theorem lq_145 : LN 145 = 16 := by decide +kernel
theorem kq_146 : kS false 146 = 14 := by decide +kernel
theorem lq_146 : LN 146 = 16 := by decide +kernel
theorem kq_147 : kS false 147 = 14 := by decide +kernel
theorem lq_147 : LN 147 = 256 := by decide +kernel
theorem kq_148 : kS false 148 = 17 := by decide +kernel
theorem lq_148 : LN 148 = 16 := by decide +kernel
theorem kq_149 : kS false 149 = 17 := by decide +kernel
theorem lq_149 : LN 149 = 16 := by decide +kernel
theorem kq_150 : kS false 150 = 14 := by decide +kernel
theorem lq_150 : LN 150 = 16 := by decide +kernel
theorem kq_151 : kS false 151 = 13 := by decide +kernel
theorem lq_151 : LN 151 = 24000 := by decide +kernel
theorem kq_152 : kS false 152 = 13 := by decide +kernel
theorem lq_152 : LN 152 = 12000 := by decide +kernel
theorem kq_153 : kS false 153 = 14 := by decide +kernel
theorem lq_153 : LN 153 = 7 := by decide +kernel
theorem kq_154 : kS false 154 = 14 := by decide +kernel
theorem lq_154 : LN 154 = 6 := by decide +kernel
theorem kq_155 : kS false 155 = 13 := by decide +kernel
theorem lq_155 : LN 155 = 8000 := by decide +kernel
theorem kq_156 : kS false 156 = 13 := by decide +kernel
theorem lq_156 : LN 156 = 6000 := by decide +kernel
theorem kq_157 : kS false 157 = 13 := by decide +kernel
theorem lq_157 : LN 157 = 64000 := by decide +kernel
theorem kq_158 : kS false 158 = 13 := by decide +kernel
theorem lq_158 : LN 158 = 768000 := by decide +kernel
theorem kq_159 : kS false 159 = 14 := by decide +kernel
theorem lq_159 : LN 159 = 12 := by decide +kernel
theorem kq_160 : kS false 160 = 14 := by decide +kernel
theorem lq_160 : LN 160 = 12 := by decide +kernel
theorem kq_161 : kS false 161 = 13 := by decide +kernel
theorem lq_161 : LN 161 = 60008 := by decide +kernel
theorem kq_162 : kS false 162 = 14 := by decide +kernel
theorem lq_162 : LN 162 = 12 := by decide +kernel
theorem kq_163 : kS false 163 = 14 := by decide +kernel
theorem lq_163 : LN 163 = 20 := by decide +kernel
theorem kq_164 : kS false 164 = 17 := by decide +kernel
theorem lq_164 : LN 164 = 17 := by decide +kernel
theorem kq_165 : kS false 165 = 14 := by decide +kernel
theorem lq_165 : LN 165 = 148 := by decide +kernel
theorem kq_166 : kS false 166 = 14 := by decide +kernel
theorem lq_166 : LN 166 = 148 := by decide +kernel
theorem kq_167 : kS false 167 = 14 := by decide +kernel
theorem lq_167 : LN 167 = 640 := by decide +kernel
theorem kq_168 : kS false 168 = 14 := by decide +kernel
theorem lq_168 : LN 168 = 640 := by decide +kernel
theorem kq_169 : kS false 169 = 14 := by decide +kernel
theorem lq_169 : LN 169 = 12 := by decide +kernel
theorem kq_170 : kS false 170 = 14 := by decide +kernel
theorem lq_170 : LN 170 = 400 := by decide +kernel
theorem kq_171 : kS false 171 = 15 := by decide +kernel
theorem lq_171 : LN 171 = 400 := by decide +kernel
theorem kq_172 : kS false 172 = 15 := by decide +kernel
theorem lq_172 : LN 172 = 40 := by decide +kernel
theorem kq_173 : kS false 173 = 15 := by decide +kernel
theorem lq_173 : LN 173 = 40 := by decide +kernel
