/-! TABLES of the abstract machine, by program (wip/tools/gen2.py) out of the claim's listing and words -/
def ah_P (y : Nat) : Option ah_M := bif Nat.blt y 139 then (bif Nat.blt y 69 then (bif Nat.blt y 34 then (bif Nat.blt y 17 then (bif Nat.blt y 8 then (bif Nat.blt y 4 then (bif Nat.blt y 2 then (bif Nat.blt y 1 then (bif Nat.beq y 0 then some mt_0 else none) else (bif Nat.beq y 1 then some mt_1 else none)) else (bif Nat.blt y 3 then (bif Nat.beq y 2 then some mt_2 else none) else (bif Nat.beq y 3 then some mt_3 else none))) else (bif Nat.blt y 6 then (bif Nat.blt y 5 then (bif Nat.beq y 4 then some mt_4 else none) else (bif Nat.beq y 5 then some mt_5 else none)) else (bif Nat.blt y 7 then (bif Nat.beq y 6 then some mt_6 else none) else (bif Nat.beq y 7 then some mt_7 else none)))) else (bif Nat.blt y 12 then (bif Nat.blt y 10 then (bif Nat.blt y 9 then (bif Nat.beq y 8 then some mt_8 else none) else (bif Nat.beq y 9 then some mt_9 else none)) else (bif Nat.blt y 11 then (bif Nat.beq y 10 then some mt_10 else none) else (bif Nat.beq y 11 then some mt_11 else none))) else (bif Nat.blt y 14 then (bif Nat.blt y 13 then (bif Nat.beq y 12 then some mt_12 else none) else (bif Nat.beq y 13 then some mt_13 else none)) else (bif Nat.blt y 15 then (bif Nat.beq y 14 then some mt_14 else none) else (bif Nat.blt y 16 then (bif Nat.beq y 15 then some mt_15 else none) else (bif Nat.beq y 16 then some mt_16 else none)))))) else (bif Nat.blt y 25 then (bif Nat.blt y 21 then (bif Nat.blt y 19 then (bif Nat.blt y 18 then (bif Nat.beq y 17 then some mt_17 else none) else (bif Nat.beq y 18 then some mt_18 else none)) else (bif Nat.blt y 20 then (bif Nat.beq y 19 then some mt_19 else none) else (bif Nat.beq y 20 then some mt_20 else none))) else (bif Nat.blt y 23 then (bif Nat.blt y 22 then (bif Nat.beq y 21 then some mt_21 else none) else (bif Nat.beq y 22 then some mt_22 else none)) else (bif Nat.blt y 24 then (bif Nat.beq y 23 then some mt_23 else none) else (bif Nat.beq y 24 then some mt_24 else none)))) else (bif Nat.blt y 29 then (bif Nat.blt y 27 then (bif Nat.blt y 26 then (bif Nat.beq y 25 then some mt_25 else none) else (bif Nat.beq y 26 then some mt_26 else none)) else (bif Nat.blt y 28 then (bif Nat.beq y 27 then some mt_27 else none) else (bif Nat.beq y 28 then some mt_28 else none))) else (bif Nat.blt y 31 then (bif Nat.blt y 30 then (bif Nat.beq y 29 then some mt_29 else none) else (bif Nat.beq y 30 then some mt_30 else none)) else (bif Nat.blt y 32 then (bif Nat.beq y 31 then some mt_31 else none) else (bif Nat.blt y 33 then (bif Nat.beq y 32 then some mt_32 else none) else (bif Nat.beq y 33 then some mt_33 else none))))))) else (bif Nat.blt y 51 then (bif Nat.blt y 42 then (bif Nat.blt y 38 then (bif Nat.blt y 36 then (bif Nat.blt y 35 then (bif Nat.beq y 34 then some mt_34 else none) else (bif Nat.beq y 35 then some mt_35 else none)) else (bif Nat.blt y 37 then (bif Nat.beq y 36 then some mt_36 else none) else (bif Nat.beq y 37 then some mt_37 else none))) else (bif Nat.blt y 40 then (bif Nat.blt y 39 then (bif Nat.beq y 38 then some mt_38 else none) else (bif Nat.beq y 39 then some mt_39 else none)) else (bif Nat.blt y 41 then (bif Nat.beq y 40 then some mt_40 else none) else (bif Nat.beq y 41 then some mt_41 else none)))) else (bif Nat.blt y 46 then (bif Nat.blt y 44 then (bif Nat.blt y 43 then (bif Nat.beq y 42 then some mt_42 else none) else (bif Nat.beq y 43 then some mt_43 else none)) else (bif Nat.blt y 45 then (bif Nat.beq y 44 then some mt_44 else none) else (bif Nat.beq y 45 then some mt_45 else none))) else (bif Nat.blt y 48 then (bif Nat.blt y 47 then (bif Nat.beq y 46 then some mt_46 else none) else (bif Nat.beq y 47 then some mt_47 else none)) else (bif Nat.blt y 49 then (bif Nat.beq y 48 then some mt_48 else none) else (bif Nat.blt y 50 then (bif Nat.beq y 49 then some mt_49 else none) else (bif Nat.beq y 50 then some mt_50 else none)))))) else (bif Nat.blt y 60 then (bif Nat.blt y 55 then (bif Nat.blt y 53 then (bif Nat.blt y 52 then (bif Nat.beq y 51 then some mt_51 else none) else (bif Nat.beq y 52 then some mt_52 else none)) else (bif Nat.blt y 54 then (bif Nat.beq y 53 then some mt_53 else none) else (bif Nat.beq y 54 then some mt_54 else none))) else (bif Nat.blt y 57 then (bif Nat.blt y 56 then (bif Nat.beq y 55 then some mt_55 else none) else (bif Nat.beq y 56 then some mt_56 else none)) else (bif Nat.blt y 58 then (bif Nat.beq y 57 then some mt_57 else none) else (bif Nat.blt y 59 then (bif Nat.beq y 58 then some mt_58 else none) else (bif Nat.beq y 59 then some mt_59 else none))))) else (bif Nat.blt y 64 then (bif Nat.blt y 62 then (bif Nat.blt y 61 then (bif Nat.beq y 60 then some mt_60 else none) else (bif Nat.beq y 61 then some mt_61 else none)) else (bif Nat.blt y 63 then (bif Nat.beq y 62 then some mt_62 else none) else (bif Nat.beq y 63 then some mt_63 else none))) else (bif Nat.blt y 66 then (bif Nat.blt y 65 then (bif Nat.beq y 64 then some mt_64 else none) else (bif Nat.beq y 65 then some mt_65 else none)) else (bif Nat.blt y 67 then (bif Nat.beq y 66 then some mt_66 else none) else (bif Nat.blt y 68 then (bif Nat.beq y 67 then some mt_67 else none) else (bif Nat.beq y 68 then some mt_68 else none)))))))) else (bif Nat.blt y 104 then (bif Nat.blt y 86 then (bif Nat.blt y 77 then (bif Nat.blt y 73 then (bif Nat.blt y 71 then (bif Nat.blt y 70 then (bif Nat.beq y 69 then some mt_69 else none) else (bif Nat.beq y 70 then some mt_70 else none)) else (bif Nat.blt y 72 then (bif Nat.beq y 71 then some mt_71 else none) else (bif Nat.beq y 72 then some mt_72 else none))) else (bif Nat.blt y 75 then (bif Nat.blt y 74 then (bif Nat.beq y 73 then some mt_73 else none) else (bif Nat.beq y 74 then some mt_74 else none)) else (bif Nat.blt y 76 then (bif Nat.beq y 75 then some mt_75 else none) else (bif Nat.beq y 76 then some mt_76 else none)))) else (bif Nat.blt y 81 then (bif Nat.blt y 79 then (bif Nat.blt y 78 then (bif Nat.beq y 77 then some mt_77 else none) else (bif Nat.beq y 78 then some mt_78 else none)) else (bif Nat.blt y 80 then (bif Nat.beq y 79 then some mt_79 else none) else (bif Nat.beq y 80 then some mt_80 else none))) else (bif Nat.blt y 83 then (bif Nat.blt y 82 then (bif Nat.beq y 81 then some mt_81 else none) else (bif Nat.beq y 82 then some mt_82 else none)) else (bif Nat.blt y 84 then (bif Nat.beq y 83 then some mt_83 else none) else (bif Nat.blt y 85 then (bif Nat.beq y 84 then some mt_84 else none) else (bif Nat.beq y 85 then some mt_85 else none)))))) else (bif Nat.blt y 95 then (bif Nat.blt y 90 then (bif Nat.blt y 88 then (bif Nat.blt y 87 then (bif Nat.beq y 86 then some mt_86 else none) else (bif Nat.beq y 87 then some mt_87 else none)) else (bif Nat.blt y 89 then (bif Nat.beq y 88 then some mt_88 else none) else (bif Nat.beq y 89 then some mt_89 else none))) else (bif Nat.blt y 92 then (bif Nat.blt y 91 then (bif Nat.beq y 90 then some mt_90 else none) else (bif Nat.beq y 91 then some mt_91 else none)) else (bif Nat.blt y 93 then (bif Nat.beq y 92 then some mt_92 else none) else (bif Nat.blt y 94 then (bif Nat.beq y 93 then some mt_93 else none) else (bif Nat.beq y 94 then some mt_94 else none))))) else (bif Nat.blt y 99 then (bif Nat.blt y 97 then (bif Nat.blt y 96 then (bif Nat.beq y 95 then some mt_95 else none) else (bif Nat.beq y 96 then some mt_96 else none)) else (bif Nat.blt y 98 then (bif Nat.beq y 97 then some mt_97 else none) else (bif Nat.beq y 98 then some mt_98 else none))) else (bif Nat.blt y 101 then (bif Nat.blt y 100 then (bif Nat.beq y 99 then some mt_99 else none) else (bif Nat.beq y 100 then some mt_100 else none)) else (bif Nat.blt y 102 then (bif Nat.beq y 101 then some mt_101 else none) else (bif Nat.blt y 103 then (bif Nat.beq y 102 then some mt_102 else none) else (bif Nat.beq y 103 then some mt_103 else none))))))) else (bif Nat.blt y 121 then (bif Nat.blt y 112 then (bif Nat.blt y 108 then (bif Nat.blt y 106 then (bif Nat.blt y 105 then (bif Nat.beq y 104 then some mt_104 else none) else (bif Nat.beq y 105 then some mt_105 else none)) else (bif Nat.blt y 107 then (bif Nat.beq y 106 then some mt_106 else none) else (bif Nat.beq y 107 then some mt_107 else none))) else (bif Nat.blt y 110 then (bif Nat.blt y 109 then (bif Nat.beq y 108 then some mt_108 else none) else (bif Nat.beq y 109 then some mt_109 else none)) else (bif Nat.blt y 111 then (bif Nat.beq y 110 then some mt_110 else none) else (bif Nat.beq y 111 then some mt_111 else none)))) else (bif Nat.blt y 116 then (bif Nat.blt y 114 then (bif Nat.blt y 113 then (bif Nat.beq y 112 then some mt_112 else none) else (bif Nat.beq y 113 then some mt_113 else none)) else (bif Nat.blt y 115 then (bif Nat.beq y 114 then some mt_114 else none) else (bif Nat.beq y 115 then some mt_115 else none))) else (bif Nat.blt y 118 then (bif Nat.blt y 117 then (bif Nat.beq y 116 then some mt_116 else none) else (bif Nat.beq y 117 then some mt_117 else none)) else (bif Nat.blt y 119 then (bif Nat.beq y 118 then some mt_118 else none) else (bif Nat.blt y 120 then (bif Nat.beq y 119 then some mt_119 else none) else (bif Nat.beq y 120 then some mt_120 else none)))))) else (bif Nat.blt y 130 then (bif Nat.blt y 125 then (bif Nat.blt y 123 then (bif Nat.blt y 122 then (bif Nat.beq y 121 then some mt_121 else none) else (bif Nat.beq y 122 then some mt_122 else none)) else (bif Nat.blt y 124 then (bif Nat.beq y 123 then some mt_123 else none) else (bif Nat.beq y 124 then some mt_124 else none))) else (bif Nat.blt y 127 then (bif Nat.blt y 126 then (bif Nat.beq y 125 then some mt_125 else none) else (bif Nat.beq y 126 then some mt_126 else none)) else (bif Nat.blt y 128 then (bif Nat.beq y 127 then some mt_127 else none) else (bif Nat.blt y 129 then (bif Nat.beq y 128 then some mt_128 else none) else (bif Nat.beq y 129 then some mt_129 else none))))) else (bif Nat.blt y 134 then (bif Nat.blt y 132 then (bif Nat.blt y 131 then (bif Nat.beq y 130 then some mt_130 else none) else (bif Nat.beq y 131 then some mt_131 else none)) else (bif Nat.blt y 133 then (bif Nat.beq y 132 then some mt_132 else none) else (bif Nat.beq y 133 then some mt_133 else none))) else (bif Nat.blt y 136 then (bif Nat.blt y 135 then (bif Nat.beq y 134 then some mt_134 else none) else (bif Nat.beq y 135 then some mt_135 else none)) else (bif Nat.blt y 137 then (bif Nat.beq y 136 then some mt_136 else none) else (bif Nat.blt y 138 then (bif Nat.beq y 137 then some mt_137 else none) else (bif Nat.beq y 138 then some mt_138 else none))))))))) else (bif Nat.blt y 209 then (bif Nat.blt y 174 then (bif Nat.blt y 156 then (bif Nat.blt y 147 then (bif Nat.blt y 143 then (bif Nat.blt y 141 then (bif Nat.blt y 140 then (bif Nat.beq y 139 then some mt_139 else none) else (bif Nat.beq y 140 then some mt_140 else none)) else (bif Nat.blt y 142 then (bif Nat.beq y 141 then some mt_141 else none) else (bif Nat.beq y 142 then some mt_142 else none))) else (bif Nat.blt y 145 then (bif Nat.blt y 144 then (bif Nat.beq y 143 then some mt_143 else none) else (bif Nat.beq y 144 then some mt_144 else none)) else (bif Nat.blt y 146 then (bif Nat.beq y 145 then some mt_145 else none) else (bif Nat.beq y 146 then some mt_146 else none)))) else (bif Nat.blt y 151 then (bif Nat.blt y 149 then (bif Nat.blt y 148 then (bif Nat.beq y 147 then some mt_147 else none) else (bif Nat.beq y 148 then some mt_148 else none)) else (bif Nat.blt y 150 then (bif Nat.beq y 149 then some mt_149 else none) else (bif Nat.beq y 150 then some mt_150 else none))) else (bif Nat.blt y 153 then (bif Nat.blt y 152 then (bif Nat.beq y 151 then some mt_151 else none) else (bif Nat.beq y 152 then some mt_152 else none)) else (bif Nat.blt y 154 then (bif Nat.beq y 153 then some mt_153 else none) else (bif Nat.blt y 155 then (bif Nat.beq y 154 then some mt_154 else none) else (bif Nat.beq y 155 then some mt_155 else none)))))) else (bif Nat.blt y 165 then (bif Nat.blt y 160 then (bif Nat.blt y 158 then (bif Nat.blt y 157 then (bif Nat.beq y 156 then some mt_156 else none) else (bif Nat.beq y 157 then some mt_157 else none)) else (bif Nat.blt y 159 then (bif Nat.beq y 158 then some mt_158 else none) else (bif Nat.beq y 159 then some mt_159 else none))) else (bif Nat.blt y 162 then (bif Nat.blt y 161 then (bif Nat.beq y 160 then some mt_160 else none) else (bif Nat.beq y 161 then some mt_161 else none)) else (bif Nat.blt y 163 then (bif Nat.beq y 162 then some mt_162 else none) else (bif Nat.blt y 164 then (bif Nat.beq y 163 then some mt_163 else none) else (bif Nat.beq y 164 then some mt_164 else none))))) else (bif Nat.blt y 169 then (bif Nat.blt y 167 then (bif Nat.blt y 166 then (bif Nat.beq y 165 then some mt_165 else none) else (bif Nat.beq y 166 then some mt_166 else none)) else (bif Nat.blt y 168 then (bif Nat.beq y 167 then some mt_167 else none) else (bif Nat.beq y 168 then some mt_168 else none))) else (bif Nat.blt y 171 then (bif Nat.blt y 170 then (bif Nat.beq y 169 then some mt_169 else none) else (bif Nat.beq y 170 then some mt_170 else none)) else (bif Nat.blt y 172 then (bif Nat.beq y 171 then some mt_171 else none) else (bif Nat.blt y 173 then (bif Nat.beq y 172 then some mt_172 else none) else (bif Nat.beq y 173 then some mt_173 else none))))))) else (bif Nat.blt y 191 then (bif Nat.blt y 182 then (bif Nat.blt y 178 then (bif Nat.blt y 176 then (bif Nat.blt y 175 then (bif Nat.beq y 174 then some mt_174 else none) else (bif Nat.beq y 175 then some mt_175 else none)) else (bif Nat.blt y 177 then (bif Nat.beq y 176 then some mt_176 else none) else (bif Nat.beq y 177 then some mt_177 else none))) else (bif Nat.blt y 180 then (bif Nat.blt y 179 then (bif Nat.beq y 178 then some mt_178 else none) else (bif Nat.beq y 179 then some mt_179 else none)) else (bif Nat.blt y 181 then (bif Nat.beq y 180 then some mt_180 else none) else (bif Nat.beq y 181 then some mt_181 else none)))) else (bif Nat.blt y 186 then (bif Nat.blt y 184 then (bif Nat.blt y 183 then (bif Nat.beq y 182 then some mt_182 else none) else (bif Nat.beq y 183 then some mt_183 else none)) else (bif Nat.blt y 185 then (bif Nat.beq y 184 then some mt_184 else none) else (bif Nat.beq y 185 then some mt_185 else none))) else (bif Nat.blt y 188 then (bif Nat.blt y 187 then (bif Nat.beq y 186 then some mt_186 else none) else (bif Nat.beq y 187 then some mt_187 else none)) else (bif Nat.blt y 189 then (bif Nat.beq y 188 then some mt_188 else none) else (bif Nat.blt y 190 then (bif Nat.beq y 189 then some mt_189 else none) else (bif Nat.beq y 190 then some mt_190 else none)))))) else (bif Nat.blt y 200 then (bif Nat.blt y 195 then (bif Nat.blt y 193 then (bif Nat.blt y 192 then (bif Nat.beq y 191 then some mt_191 else none) else (bif Nat.beq y 192 then some mt_192 else none)) else (bif Nat.blt y 194 then (bif Nat.beq y 193 then some mt_193 else none) else (bif Nat.beq y 194 then some mt_194 else none))) else (bif Nat.blt y 197 then (bif Nat.blt y 196 then (bif Nat.beq y 195 then some mt_195 else none) else (bif Nat.beq y 196 then some mt_196 else none)) else (bif Nat.blt y 198 then (bif Nat.beq y 197 then some mt_197 else none) else (bif Nat.blt y 199 then (bif Nat.beq y 198 then some mt_198 else none) else (bif Nat.beq y 199 then some mt_199 else none))))) else (bif Nat.blt y 204 then (bif Nat.blt y 202 then (bif Nat.blt y 201 then (bif Nat.beq y 200 then some mt_200 else none) else (bif Nat.beq y 201 then some mt_201 else none)) else (bif Nat.blt y 203 then (bif Nat.beq y 202 then some mt_202 else none) else (bif Nat.beq y 203 then some mt_203 else none))) else (bif Nat.blt y 206 then (bif Nat.blt y 205 then (bif Nat.beq y 204 then some mt_204 else none) else (bif Nat.beq y 205 then some mt_205 else none)) else (bif Nat.blt y 207 then (bif Nat.beq y 206 then some mt_206 else none) else (bif Nat.blt y 208 then (bif Nat.beq y 207 then some mt_207 else none) else (bif Nat.beq y 208 then some mt_208 else none)))))))) else (bif Nat.blt y 244 then (bif Nat.blt y 226 then (bif Nat.blt y 217 then (bif Nat.blt y 213 then (bif Nat.blt y 211 then (bif Nat.blt y 210 then (bif Nat.beq y 209 then some mt_209 else none) else (bif Nat.beq y 210 then some mt_210 else none)) else (bif Nat.blt y 212 then (bif Nat.beq y 211 then some mt_211 else none) else (bif Nat.beq y 212 then some mt_212 else none))) else (bif Nat.blt y 215 then (bif Nat.blt y 214 then (bif Nat.beq y 213 then some mt_213 else none) else (bif Nat.beq y 214 then some mt_214 else none)) else (bif Nat.blt y 216 then (bif Nat.beq y 215 then some mt_215 else none) else (bif Nat.beq y 216 then some mt_216 else none)))) else (bif Nat.blt y 221 then (bif Nat.blt y 219 then (bif Nat.blt y 218 then (bif Nat.beq y 217 then some mt_217 else none) else (bif Nat.beq y 218 then some mt_218 else none)) else (bif Nat.blt y 220 then (bif Nat.beq y 219 then some mt_219 else none) else (bif Nat.beq y 220 then some mt_220 else none))) else (bif Nat.blt y 223 then (bif Nat.blt y 222 then (bif Nat.beq y 221 then some mt_221 else none) else (bif Nat.beq y 222 then some mt_222 else none)) else (bif Nat.blt y 224 then (bif Nat.beq y 223 then some mt_223 else none) else (bif Nat.blt y 225 then (bif Nat.beq y 224 then some mt_224 else none) else (bif Nat.beq y 225 then some mt_225 else none)))))) else (bif Nat.blt y 235 then (bif Nat.blt y 230 then (bif Nat.blt y 228 then (bif Nat.blt y 227 then (bif Nat.beq y 226 then some mt_226 else none) else (bif Nat.beq y 227 then some mt_227 else none)) else (bif Nat.blt y 229 then (bif Nat.beq y 228 then some mt_228 else none) else (bif Nat.beq y 229 then some mt_229 else none))) else (bif Nat.blt y 232 then (bif Nat.blt y 231 then (bif Nat.beq y 230 then some mt_230 else none) else (bif Nat.beq y 231 then some mt_231 else none)) else (bif Nat.blt y 233 then (bif Nat.beq y 232 then some mt_232 else none) else (bif Nat.blt y 234 then (bif Nat.beq y 233 then some mt_233 else none) else (bif Nat.beq y 234 then some mt_234 else none))))) else (bif Nat.blt y 239 then (bif Nat.blt y 237 then (bif Nat.blt y 236 then (bif Nat.beq y 235 then some mt_235 else none) else (bif Nat.beq y 236 then some mt_236 else none)) else (bif Nat.blt y 238 then (bif Nat.beq y 237 then some mt_237 else none) else (bif Nat.beq y 238 then some mt_238 else none))) else (bif Nat.blt y 241 then (bif Nat.blt y 240 then (bif Nat.beq y 239 then some mt_239 else none) else (bif Nat.beq y 240 then some mt_240 else none)) else (bif Nat.blt y 242 then (bif Nat.beq y 241 then some mt_241 else none) else (bif Nat.blt y 243 then (bif Nat.beq y 242 then some mt_242 else none) else (bif Nat.beq y 243 then some mt_243 else none))))))) else (bif Nat.blt y 261 then (bif Nat.blt y 252 then (bif Nat.blt y 248 then (bif Nat.blt y 246 then (bif Nat.blt y 245 then (bif Nat.beq y 244 then some mt_244 else none) else (bif Nat.beq y 245 then some mt_245 else none)) else (bif Nat.blt y 247 then (bif Nat.beq y 246 then some mt_246 else none) else (bif Nat.beq y 247 then some mt_247 else none))) else (bif Nat.blt y 250 then (bif Nat.blt y 249 then (bif Nat.beq y 248 then some mt_248 else none) else (bif Nat.beq y 249 then some mt_249 else none)) else (bif Nat.blt y 251 then (bif Nat.beq y 250 then some mt_250 else none) else (bif Nat.beq y 251 then some mt_251 else none)))) else (bif Nat.blt y 256 then (bif Nat.blt y 254 then (bif Nat.blt y 253 then (bif Nat.beq y 252 then some mt_252 else none) else (bif Nat.beq y 253 then some mt_253 else none)) else (bif Nat.blt y 255 then (bif Nat.beq y 254 then some mt_254 else none) else (bif Nat.beq y 255 then some mt_255 else none))) else (bif Nat.blt y 258 then (bif Nat.blt y 257 then (bif Nat.beq y 256 then some mt_256 else none) else (bif Nat.beq y 257 then some mt_257 else none)) else (bif Nat.blt y 259 then (bif Nat.beq y 258 then some mt_258 else none) else (bif Nat.blt y 260 then (bif Nat.beq y 259 then some mt_259 else none) else (bif Nat.beq y 260 then some mt_260 else none)))))) else (bif Nat.blt y 270 then (bif Nat.blt y 265 then (bif Nat.blt y 263 then (bif Nat.blt y 262 then (bif Nat.beq y 261 then some mt_261 else none) else (bif Nat.beq y 262 then some mt_262 else none)) else (bif Nat.blt y 264 then (bif Nat.beq y 263 then some mt_263 else none) else (bif Nat.beq y 264 then some mt_264 else none))) else (bif Nat.blt y 267 then (bif Nat.blt y 266 then (bif Nat.beq y 265 then some mt_265 else none) else (bif Nat.beq y 266 then some mt_266 else none)) else (bif Nat.blt y 268 then (bif Nat.beq y 267 then some mt_267 else none) else (bif Nat.blt y 269 then (bif Nat.beq y 268 then some mt_268 else none) else (bif Nat.beq y 269 then some mt_269 else none))))) else (bif Nat.blt y 274 then (bif Nat.blt y 272 then (bif Nat.blt y 271 then (bif Nat.beq y 270 then some mt_270 else none) else (bif Nat.beq y 271 then some mt_271 else none)) else (bif Nat.blt y 273 then (bif Nat.beq y 272 then some mt_272 else none) else (bif Nat.beq y 273 then some mt_273 else none))) else (bif Nat.blt y 276 then (bif Nat.blt y 275 then (bif Nat.beq y 274 then some mt_274 else none) else (bif Nat.beq y 275 then some mt_275 else none)) else (bif Nat.blt y 277 then (bif Nat.beq y 276 then some mt_276 else none) else (bif Nat.blt y 278 then (bif Nat.beq y 277 then some mt_277 else none) else (bif Nat.beq y 278 then some mt_278 else none)))))))))
theorem hM_0 : ah_P 0 = some mt_0 := rfl
theorem hM_1 : ah_P 1 = some mt_1 := rfl
theorem hM_2 : ah_P 2 = some mt_2 := rfl
theorem hM_3 : ah_P 3 = some mt_3 := rfl
theorem hM_4 : ah_P 4 = some mt_4 := rfl
theorem hM_5 : ah_P 5 = some mt_5 := rfl
theorem hM_6 : ah_P 6 = some mt_6 := rfl
theorem hM_7 : ah_P 7 = some mt_7 := rfl
theorem hM_8 : ah_P 8 = some mt_8 := rfl
theorem hM_9 : ah_P 9 = some mt_9 := rfl
theorem hM_10 : ah_P 10 = some mt_10 := rfl
theorem hM_11 : ah_P 11 = some mt_11 := rfl
theorem hM_12 : ah_P 12 = some mt_12 := rfl
theorem hM_13 : ah_P 13 = some mt_13 := rfl
theorem hM_14 : ah_P 14 = some mt_14 := rfl
theorem hM_15 : ah_P 15 = some mt_15 := rfl
theorem hM_16 : ah_P 16 = some mt_16 := rfl
theorem hM_17 : ah_P 17 = some mt_17 := rfl
theorem hM_18 : ah_P 18 = some mt_18 := rfl
theorem hM_19 : ah_P 19 = some mt_19 := rfl
theorem hM_20 : ah_P 20 = some mt_20 := rfl
theorem hM_21 : ah_P 21 = some mt_21 := rfl
theorem hM_22 : ah_P 22 = some mt_22 := rfl
theorem hM_23 : ah_P 23 = some mt_23 := rfl
theorem hM_24 : ah_P 24 = some mt_24 := rfl
theorem hM_25 : ah_P 25 = some mt_25 := rfl
theorem hM_26 : ah_P 26 = some mt_26 := rfl
theorem hM_27 : ah_P 27 = some mt_27 := rfl
theorem hM_28 : ah_P 28 = some mt_28 := rfl
theorem hM_29 : ah_P 29 = some mt_29 := rfl
theorem hM_30 : ah_P 30 = some mt_30 := rfl
theorem hM_31 : ah_P 31 = some mt_31 := rfl
theorem hM_32 : ah_P 32 = some mt_32 := rfl
theorem hM_33 : ah_P 33 = some mt_33 := rfl
theorem hM_34 : ah_P 34 = some mt_34 := rfl
theorem hM_35 : ah_P 35 = some mt_35 := rfl
theorem hM_36 : ah_P 36 = some mt_36 := rfl
theorem hM_37 : ah_P 37 = some mt_37 := rfl
theorem hM_38 : ah_P 38 = some mt_38 := rfl
theorem hM_39 : ah_P 39 = some mt_39 := rfl
theorem hM_40 : ah_P 40 = some mt_40 := rfl
theorem hM_41 : ah_P 41 = some mt_41 := rfl
theorem hM_42 : ah_P 42 = some mt_42 := rfl
theorem hM_43 : ah_P 43 = some mt_43 := rfl
theorem hM_44 : ah_P 44 = some mt_44 := rfl
theorem hM_45 : ah_P 45 = some mt_45 := rfl
theorem hM_46 : ah_P 46 = some mt_46 := rfl
theorem hM_47 : ah_P 47 = some mt_47 := rfl
theorem hM_48 : ah_P 48 = some mt_48 := rfl
theorem hM_49 : ah_P 49 = some mt_49 := rfl
theorem hM_50 : ah_P 50 = some mt_50 := rfl
theorem hM_51 : ah_P 51 = some mt_51 := rfl
theorem hM_52 : ah_P 52 = some mt_52 := rfl
theorem hM_53 : ah_P 53 = some mt_53 := rfl
theorem hM_54 : ah_P 54 = some mt_54 := rfl
theorem hM_55 : ah_P 55 = some mt_55 := rfl
theorem hM_56 : ah_P 56 = some mt_56 := rfl
theorem hM_57 : ah_P 57 = some mt_57 := rfl
theorem hM_58 : ah_P 58 = some mt_58 := rfl
theorem hM_59 : ah_P 59 = some mt_59 := rfl
theorem hM_60 : ah_P 60 = some mt_60 := rfl
theorem hM_61 : ah_P 61 = some mt_61 := rfl
theorem hM_62 : ah_P 62 = some mt_62 := rfl
theorem hM_63 : ah_P 63 = some mt_63 := rfl
theorem hM_64 : ah_P 64 = some mt_64 := rfl
theorem hM_65 : ah_P 65 = some mt_65 := rfl
theorem hM_66 : ah_P 66 = some mt_66 := rfl
theorem hM_67 : ah_P 67 = some mt_67 := rfl
theorem hM_68 : ah_P 68 = some mt_68 := rfl
theorem hM_69 : ah_P 69 = some mt_69 := rfl
theorem hM_70 : ah_P 70 = some mt_70 := rfl
theorem hM_71 : ah_P 71 = some mt_71 := rfl
theorem hM_72 : ah_P 72 = some mt_72 := rfl
theorem hM_73 : ah_P 73 = some mt_73 := rfl
theorem hM_74 : ah_P 74 = some mt_74 := rfl
theorem hM_75 : ah_P 75 = some mt_75 := rfl
theorem hM_76 : ah_P 76 = some mt_76 := rfl
theorem hM_77 : ah_P 77 = some mt_77 := rfl
theorem hM_78 : ah_P 78 = some mt_78 := rfl
theorem hM_79 : ah_P 79 = some mt_79 := rfl
theorem hM_80 : ah_P 80 = some mt_80 := rfl
theorem hM_81 : ah_P 81 = some mt_81 := rfl
theorem hM_82 : ah_P 82 = some mt_82 := rfl
theorem hM_83 : ah_P 83 = some mt_83 := rfl
theorem hM_84 : ah_P 84 = some mt_84 := rfl
theorem hM_85 : ah_P 85 = some mt_85 := rfl
theorem hM_86 : ah_P 86 = some mt_86 := rfl
theorem hM_87 : ah_P 87 = some mt_87 := rfl
theorem hM_88 : ah_P 88 = some mt_88 := rfl
theorem hM_89 : ah_P 89 = some mt_89 := rfl
theorem hM_90 : ah_P 90 = some mt_90 := rfl
theorem hM_91 : ah_P 91 = some mt_91 := rfl
theorem hM_92 : ah_P 92 = some mt_92 := rfl
theorem hM_93 : ah_P 93 = some mt_93 := rfl
theorem hM_94 : ah_P 94 = some mt_94 := rfl
theorem hM_95 : ah_P 95 = some mt_95 := rfl
theorem hM_96 : ah_P 96 = some mt_96 := rfl
theorem hM_97 : ah_P 97 = some mt_97 := rfl
theorem hM_98 : ah_P 98 = some mt_98 := rfl
theorem hM_99 : ah_P 99 = some mt_99 := rfl
theorem hM_100 : ah_P 100 = some mt_100 := rfl
theorem hM_101 : ah_P 101 = some mt_101 := rfl
theorem hM_102 : ah_P 102 = some mt_102 := rfl
theorem hM_103 : ah_P 103 = some mt_103 := rfl
theorem hM_104 : ah_P 104 = some mt_104 := rfl
theorem hM_105 : ah_P 105 = some mt_105 := rfl
theorem hM_106 : ah_P 106 = some mt_106 := rfl
theorem hM_107 : ah_P 107 = some mt_107 := rfl
theorem hM_108 : ah_P 108 = some mt_108 := rfl
theorem hM_109 : ah_P 109 = some mt_109 := rfl
theorem hM_110 : ah_P 110 = some mt_110 := rfl
theorem hM_111 : ah_P 111 = some mt_111 := rfl
theorem hM_112 : ah_P 112 = some mt_112 := rfl
theorem hM_113 : ah_P 113 = some mt_113 := rfl
theorem hM_114 : ah_P 114 = some mt_114 := rfl
theorem hM_115 : ah_P 115 = some mt_115 := rfl
theorem hM_116 : ah_P 116 = some mt_116 := rfl
theorem hM_117 : ah_P 117 = some mt_117 := rfl
theorem hM_118 : ah_P 118 = some mt_118 := rfl
theorem hM_119 : ah_P 119 = some mt_119 := rfl
theorem hM_120 : ah_P 120 = some mt_120 := rfl
theorem hM_121 : ah_P 121 = some mt_121 := rfl
theorem hM_122 : ah_P 122 = some mt_122 := rfl
theorem hM_123 : ah_P 123 = some mt_123 := rfl
theorem hM_124 : ah_P 124 = some mt_124 := rfl
theorem hM_125 : ah_P 125 = some mt_125 := rfl
theorem hM_126 : ah_P 126 = some mt_126 := rfl
theorem hM_127 : ah_P 127 = some mt_127 := rfl
theorem hM_128 : ah_P 128 = some mt_128 := rfl
theorem hM_129 : ah_P 129 = some mt_129 := rfl
theorem hM_130 : ah_P 130 = some mt_130 := rfl
theorem hM_131 : ah_P 131 = some mt_131 := rfl
theorem hM_132 : ah_P 132 = some mt_132 := rfl
theorem hM_133 : ah_P 133 = some mt_133 := rfl
theorem hM_134 : ah_P 134 = some mt_134 := rfl
theorem hM_135 : ah_P 135 = some mt_135 := rfl
theorem hM_136 : ah_P 136 = some mt_136 := rfl
theorem hM_137 : ah_P 137 = some mt_137 := rfl
theorem hM_138 : ah_P 138 = some mt_138 := rfl
theorem hM_139 : ah_P 139 = some mt_139 := rfl
theorem hM_140 : ah_P 140 = some mt_140 := rfl
theorem hM_141 : ah_P 141 = some mt_141 := rfl
theorem hM_142 : ah_P 142 = some mt_142 := rfl
theorem hM_143 : ah_P 143 = some mt_143 := rfl
theorem hM_144 : ah_P 144 = some mt_144 := rfl
theorem hM_145 : ah_P 145 = some mt_145 := rfl
theorem hM_146 : ah_P 146 = some mt_146 := rfl
theorem hM_147 : ah_P 147 = some mt_147 := rfl
theorem hM_148 : ah_P 148 = some mt_148 := rfl
theorem hM_149 : ah_P 149 = some mt_149 := rfl
theorem hM_150 : ah_P 150 = some mt_150 := rfl
theorem hM_151 : ah_P 151 = some mt_151 := rfl
theorem hM_152 : ah_P 152 = some mt_152 := rfl
theorem hM_153 : ah_P 153 = some mt_153 := rfl
theorem hM_154 : ah_P 154 = some mt_154 := rfl
theorem hM_155 : ah_P 155 = some mt_155 := rfl
theorem hM_156 : ah_P 156 = some mt_156 := rfl
theorem hM_157 : ah_P 157 = some mt_157 := rfl
theorem hM_158 : ah_P 158 = some mt_158 := rfl
theorem hM_159 : ah_P 159 = some mt_159 := rfl
theorem hM_160 : ah_P 160 = some mt_160 := rfl
theorem hM_161 : ah_P 161 = some mt_161 := rfl
theorem hM_162 : ah_P 162 = some mt_162 := rfl
theorem hM_163 : ah_P 163 = some mt_163 := rfl
theorem hM_164 : ah_P 164 = some mt_164 := rfl
theorem hM_165 : ah_P 165 = some mt_165 := rfl
theorem hM_166 : ah_P 166 = some mt_166 := rfl
theorem hM_167 : ah_P 167 = some mt_167 := rfl
theorem hM_168 : ah_P 168 = some mt_168 := rfl
theorem hM_169 : ah_P 169 = some mt_169 := rfl
theorem hM_170 : ah_P 170 = some mt_170 := rfl
theorem hM_171 : ah_P 171 = some mt_171 := rfl
theorem hM_172 : ah_P 172 = some mt_172 := rfl
theorem hM_173 : ah_P 173 = some mt_173 := rfl
theorem hM_174 : ah_P 174 = some mt_174 := rfl
theorem hM_175 : ah_P 175 = some mt_175 := rfl
theorem hM_176 : ah_P 176 = some mt_176 := rfl
theorem hM_177 : ah_P 177 = some mt_177 := rfl
theorem hM_178 : ah_P 178 = some mt_178 := rfl
theorem hM_179 : ah_P 179 = some mt_179 := rfl
theorem hM_180 : ah_P 180 = some mt_180 := rfl
theorem hM_181 : ah_P 181 = some mt_181 := rfl
theorem hM_182 : ah_P 182 = some mt_182 := rfl
theorem hM_183 : ah_P 183 = some mt_183 := rfl
theorem hM_184 : ah_P 184 = some mt_184 := rfl
theorem hM_185 : ah_P 185 = some mt_185 := rfl
theorem hM_186 : ah_P 186 = some mt_186 := rfl
theorem hM_187 : ah_P 187 = some mt_187 := rfl
theorem hM_188 : ah_P 188 = some mt_188 := rfl
theorem hM_189 : ah_P 189 = some mt_189 := rfl
theorem hM_190 : ah_P 190 = some mt_190 := rfl
theorem hM_191 : ah_P 191 = some mt_191 := rfl
theorem hM_192 : ah_P 192 = some mt_192 := rfl
theorem hM_193 : ah_P 193 = some mt_193 := rfl
theorem hM_194 : ah_P 194 = some mt_194 := rfl
theorem hM_195 : ah_P 195 = some mt_195 := rfl
theorem hM_196 : ah_P 196 = some mt_196 := rfl
theorem hM_197 : ah_P 197 = some mt_197 := rfl
theorem hM_198 : ah_P 198 = some mt_198 := rfl
theorem hM_199 : ah_P 199 = some mt_199 := rfl
theorem hM_200 : ah_P 200 = some mt_200 := rfl
theorem hM_201 : ah_P 201 = some mt_201 := rfl
theorem hM_202 : ah_P 202 = some mt_202 := rfl
theorem hM_203 : ah_P 203 = some mt_203 := rfl
theorem hM_204 : ah_P 204 = some mt_204 := rfl
theorem hM_205 : ah_P 205 = some mt_205 := rfl
theorem hM_206 : ah_P 206 = some mt_206 := rfl
theorem hM_207 : ah_P 207 = some mt_207 := rfl
theorem hM_208 : ah_P 208 = some mt_208 := rfl
theorem hM_209 : ah_P 209 = some mt_209 := rfl
theorem hM_210 : ah_P 210 = some mt_210 := rfl
theorem hM_211 : ah_P 211 = some mt_211 := rfl
theorem hM_212 : ah_P 212 = some mt_212 := rfl
theorem hM_213 : ah_P 213 = some mt_213 := rfl
theorem hM_214 : ah_P 214 = some mt_214 := rfl
theorem hM_215 : ah_P 215 = some mt_215 := rfl
theorem hM_216 : ah_P 216 = some mt_216 := rfl
theorem hM_217 : ah_P 217 = some mt_217 := rfl
theorem hM_218 : ah_P 218 = some mt_218 := rfl
theorem hM_219 : ah_P 219 = some mt_219 := rfl
theorem hM_220 : ah_P 220 = some mt_220 := rfl
theorem hM_221 : ah_P 221 = some mt_221 := rfl
theorem hM_222 : ah_P 222 = some mt_222 := rfl
theorem hM_223 : ah_P 223 = some mt_223 := rfl
theorem hM_224 : ah_P 224 = some mt_224 := rfl
theorem hM_225 : ah_P 225 = some mt_225 := rfl
theorem hM_226 : ah_P 226 = some mt_226 := rfl
theorem hM_227 : ah_P 227 = some mt_227 := rfl
theorem hM_228 : ah_P 228 = some mt_228 := rfl
theorem hM_229 : ah_P 229 = some mt_229 := rfl
theorem hM_230 : ah_P 230 = some mt_230 := rfl
theorem hM_231 : ah_P 231 = some mt_231 := rfl
theorem hM_232 : ah_P 232 = some mt_232 := rfl
theorem hM_233 : ah_P 233 = some mt_233 := rfl
theorem hM_234 : ah_P 234 = some mt_234 := rfl
theorem hM_235 : ah_P 235 = some mt_235 := rfl
theorem hM_236 : ah_P 236 = some mt_236 := rfl
theorem hM_237 : ah_P 237 = some mt_237 := rfl
theorem hM_238 : ah_P 238 = some mt_238 := rfl
theorem hM_239 : ah_P 239 = some mt_239 := rfl
theorem hM_240 : ah_P 240 = some mt_240 := rfl
theorem hM_241 : ah_P 241 = some mt_241 := rfl
theorem hM_242 : ah_P 242 = some mt_242 := rfl
theorem hM_243 : ah_P 243 = some mt_243 := rfl
theorem hM_244 : ah_P 244 = some mt_244 := rfl
theorem hM_245 : ah_P 245 = some mt_245 := rfl
theorem hM_246 : ah_P 246 = some mt_246 := rfl
theorem hM_247 : ah_P 247 = some mt_247 := rfl
theorem hM_248 : ah_P 248 = some mt_248 := rfl
theorem hM_249 : ah_P 249 = some mt_249 := rfl
theorem hM_250 : ah_P 250 = some mt_250 := rfl
theorem hM_251 : ah_P 251 = some mt_251 := rfl
theorem hM_252 : ah_P 252 = some mt_252 := rfl
theorem hM_253 : ah_P 253 = some mt_253 := rfl
theorem hM_254 : ah_P 254 = some mt_254 := rfl
theorem hM_255 : ah_P 255 = some mt_255 := rfl
theorem hM_256 : ah_P 256 = some mt_256 := rfl
theorem hM_257 : ah_P 257 = some mt_257 := rfl
theorem hM_258 : ah_P 258 = some mt_258 := rfl
theorem hM_259 : ah_P 259 = some mt_259 := rfl
theorem hM_260 : ah_P 260 = some mt_260 := rfl
theorem hM_261 : ah_P 261 = some mt_261 := rfl
theorem hM_262 : ah_P 262 = some mt_262 := rfl
theorem hM_263 : ah_P 263 = some mt_263 := rfl
theorem hM_264 : ah_P 264 = some mt_264 := rfl
theorem hM_265 : ah_P 265 = some mt_265 := rfl
theorem hM_266 : ah_P 266 = some mt_266 := rfl
theorem hM_267 : ah_P 267 = some mt_267 := rfl
theorem hM_268 : ah_P 268 = some mt_268 := rfl
theorem hM_269 : ah_P 269 = some mt_269 := rfl
theorem hM_270 : ah_P 270 = some mt_270 := rfl
theorem hM_271 : ah_P 271 = some mt_271 := rfl
theorem hM_272 : ah_P 272 = some mt_272 := rfl
theorem hM_273 : ah_P 273 = some mt_273 := rfl
theorem hM_274 : ah_P 274 = some mt_274 := rfl
theorem hM_275 : ah_P 275 = some mt_275 := rfl
theorem hM_276 : ah_P 276 = some mt_276 := rfl
theorem hM_277 : ah_P 277 = some mt_277 := rfl
theorem hM_278 : ah_P 278 = some mt_278 := rfl
abbrev m_Code_init : Nat := 0
abbrev m_Code_signal : Nat := 1
abbrev m_Code_variable : Nat := 2
abbrev m_Code_add : Nat := 3
abbrev m_Code_process : Nat := 4
abbrev m_Code_processes : Nat := 5
abbrev m_Code_put : Nat := 6
abbrev m_Code_mark : Nat := 7
abbrev m_Code_get : Nat := 8
abbrev m_Code_set : Nat := 9
abbrev m_Code_variableOf : Nat := 10
abbrev m_Code_resume : Nat := 11
abbrev m_Code_holds : Nat := 12
abbrev m_Code_about : Nat := 13
abbrev m_Code_waits : Nat := 14
abbrev m_Code_until : Nat := 15
abbrev m_Code_acts : Nat := 16
abbrev m_Code_act : Nat := 17
abbrev m_Code_value : Nat := 18
abbrev m_Code_delay : Nat := 19
abbrev m_Code_unitAt : Nat := 20
abbrev m_Code_variableThing : Nat := 21
abbrev m_Ref_init : Nat := 22
abbrev m_Ref_thrown : Nat := 23
abbrev m_Ref_element : Nat := 24
abbrev m_Ref_setElement : Nat := 25
abbrev m_Ref_noKind : Nat := 26
abbrev m_Ref_make : Nat := 27
abbrev m_Ref_copy : Nat := 28
abbrev m_Ref_signal : Nat := 29
abbrev m_Ref_variable : Nat := 30
abbrev m_Ref_lacks : Nat := 31
abbrev m_Ref_cannot : Nat := 32
abbrev m_Ref_told : Nat := 33
abbrev m_Ref_become : Nat := 34
abbrev m_Ref_put : Nat := 35
abbrev m_Ref_mark : Nat := 36
abbrev m_Ref_get : Nat := 37
abbrev m_Ref_noProcess : Nat := 38
abbrev m_Ref_variableAt : Nat := 39
abbrev m_Ref_set : Nat := 40
abbrev m_Ref_variableOf : Nat := 41
abbrev m_Ref_add : Nat := 42
abbrev m_Ref_child : Nat := 43
abbrev m_Ref_kindOf : Nat := 44
abbrev m_Ref_expression : Nat := 45
abbrev m_Ref_statement : Nat := 46
abbrev m_Ref_body : Nat := 47
abbrev m_Ref_all : Nat := 48
abbrev m_Ref_objectOf : Nat := 49
abbrev m_Ref_isObject : Nat := 50
abbrev m_Ref_rowObject : Nat := 51
abbrev m_Ref_aims : Nat := 52
abbrev m_Ref_inLoop : Nat := 53
abbrev m_Ref_valued : Nat := 54
abbrev m_Ref_right : Nat := 55
abbrev m_Ref_rightExpression : Nat := 56
abbrev m_Ref_rightStatement : Nat := 57
abbrev m_Ref_rightBranch : Nat := 58
abbrev m_Ref_rightOther : Nat := 59
abbrev m_Ref_process : Nat := 60
abbrev m_Ref_keep : Nat := 61
abbrev m_Ref_processes : Nat := 62
abbrev m_Ref_fail : Nat := 63
abbrev m_Ref_numeral : Nat := 64
abbrev m_Ref_truth : Nat := 65
abbrev m_Ref_row : Nat := 66
abbrev m_Ref_logic : Nat := 67
abbrev m_Ref_isLow : Nat := 68
abbrev m_Ref_isHigh : Nat := 69
abbrev m_Ref_not : Nat := 70
abbrev m_Ref_clear : Nat := 71
abbrev m_Ref_numberOf : Nat := 72
abbrev m_Ref_bits : Nat := 73
abbrev m_Ref_where : Nat := 74
abbrev m_Ref_find : Nat := 75
abbrev m_Ref_findElement : Nat := 76
abbrev m_Ref_function : Nat := 77
abbrev m_Ref_one : Nat := 78
abbrev m_Ref_two : Nat := 79
abbrev m_Ref_join : Nat := 80
abbrev m_Ref_both : Nat := 81
abbrev m_Ref_alike : Nat := 82
abbrev m_Ref_compare : Nat := 83
abbrev m_Ref_bounded : Nat := 84
abbrev m_Ref_sum : Nat := 85
abbrev m_Ref_joined : Nat := 86
abbrev m_Ref_reckon : Nat := 87
abbrev m_Ref_shift : Nat := 88
abbrev m_Ref_slot : Nat := 89
abbrev m_Ref_enter : Nat := 90
abbrev m_Ref_steps : Nat := 91
abbrev m_Ref_go : Nat := 92
abbrev m_Ref_look : Nat := 93
abbrev m_Ref_condition : Nat := 94
abbrev m_Ref_act : Nat := 95
abbrev m_Ref_branch : Nat := 96
abbrev m_Ref_choose : Nat := 97
abbrev m_Ref_beginFor : Nat := 98
abbrev m_Ref_leave : Nat := 99
abbrev m_Ref_findTime : Nat := 100
abbrev m_Ref_waitFor : Nat := 101
abbrev m_Ref_tell : Nat := 102
abbrev m_Ref_aim : Nat := 103
abbrev m_Ref_fits : Nat := 104
abbrev m_Ref_keepValue : Nat := 105
abbrev m_Ref_assign : Nat := 106
abbrev m_Ref_ended : Nat := 107
abbrev m_Ref_resume : Nat := 108
abbrev m_Ref_conditionOf : Nat := 109
abbrev m_Ref_holds : Nat := 110
abbrev m_Ref_about : Nat := 111
abbrev m_Ref_waits : Nat := 112
abbrev m_Ref_until : Nat := 113
abbrev m_Ref_acts : Nat := 114
abbrev m_Ref_act2 : Nat := 115
abbrev m_Ref_wave : Nat := 116
abbrev m_Ref_value : Nat := 117
abbrev m_Ref_delay : Nat := 118
abbrev m_Datum_init : Nat := 119
abbrev m_Datum_copy : Nat := 120
abbrev m_Datum_hold : Nat := 121
abbrev m_Datum_beNumber : Nat := 122
abbrev m_Datum_beLogic : Nat := 123
abbrev m_Datum_keepPart : Nat := 124
abbrev m_Datum_overlay : Nat := 125
abbrev m_Datum_change : Nat := 126
abbrev m_Datum_element : Nat := 127
abbrev m_Datum_zeros : Nat := 128
abbrev m_Datum_ones : Nat := 129
abbrev m_Datum_unset : Nat := 130
abbrev m_Datum_isClear : Nat := 131
abbrev m_Datum_isSame : Nat := 132
abbrev m_Datum_unlike : Nat := 133
abbrev m_Finder_init : Nat := 134
abbrev m_Finder_found : Nat := 135
abbrev m_Finder_isNumber : Nat := 136
abbrev m_Finder_find : Nat := 137
abbrev m_Finder_push : Nat := 138
abbrev m_Finder_pushNow : Nat := 139
abbrev m_Finder_down : Nat := 140
abbrev m_Finder_drop : Nat := 141
abbrev m_Finder_gather : Nat := 142
abbrev m_Finder_element : Nat := 143
abbrev m_Finder_part : Nat := 144
abbrev m_Finder_function : Nat := 145
abbrev m_Finder_toNumber : Nat := 146
abbrev m_Finder_toRow : Nat := 147
abbrev m_Finder_ofSignal : Nat := 148
abbrev m_Finder_time : Nat := 149
abbrev m_Finder_one : Nat := 150
abbrev m_Finder_settle : Nat := 151
abbrev m_Finder_two : Nat := 152
abbrev m_Finder_truths : Nat := 153
abbrev m_Finder_isTurned : Nat := 154
abbrev m_Finder_logics : Nat := 155
abbrev m_Finder_same : Nat := 156
abbrev m_Finder_order : Nat := 157
abbrev m_Finder_rows : Nat := 158
abbrev m_Finder_joined : Nat := 159
abbrev m_Finder_shifted : Nat := 160
abbrev m_Finder_numbers : Nat := 161
abbrev m_Looker_init : Nat := 162
abbrev m_Looker_firstWrong : Nat := 163
abbrev m_Looker_isOneBody : Nat := 164
abbrev m_Looker_isRight : Nat := 165
abbrev m_Looker_isRightExpression : Nat := 166
abbrev m_Looker_isRightStatement : Nat := 167
abbrev m_Looker_isFunction : Nat := 168
abbrev m_Looker_isPart : Nat := 169
abbrev m_Looker_isAssign : Nat := 170
abbrev m_Looker_isIf : Nat := 171
abbrev m_Looker_isTarget : Nat := 172
abbrev m_Looker_isStatements : Nat := 173
abbrev m_Looker_isSignals : Nat := 174
abbrev m_Looker_areChoices : Nat := 175
abbrev m_Looker_areKids : Nat := 176
abbrev m_Looker_isKidOrNothing : Nat := 177
abbrev m_Looker_isExpressionOrNothing : Nat := 178
abbrev m_Looker_isExpressionKid : Nat := 179
abbrev m_Looker_kidKind : Nat := 180
abbrev m_Looker_isThing : Nat := 181
abbrev m_Looker_thingOf : Nat := 182
abbrev m_Looker_isExpression : Nat := 183
abbrev m_Looker_isStatement : Nat := 184
abbrev m_Looker_isWithin : Nat := 185
abbrev m_Maker_init : Nat := 186
abbrev m_Maker_make : Nat := 187
abbrev m_Maker_heightOf : Nat := 188
abbrev m_Maker_clear : Nat := 189
abbrev m_Nodes_init : Nat := 190
abbrev m_Nodes_init2 : Nat := 191
abbrev m_Nodes_trimmed : Nat := 192
abbrev m_Nodes_isFull : Nat := 193
abbrev m_Nodes_kindOf : Nat := 194
abbrev m_Nodes_givenOf : Nat := 195
abbrev m_Nodes_startOf : Nat := 196
abbrev m_Nodes_parentOf : Nat := 197
abbrev m_Nodes_placeOf : Nat := 198
abbrev m_Nodes_kidsOf : Nat := 199
abbrev m_Nodes_kid : Nat := 200
abbrev m_Nodes_isLoop : Nat := 201
abbrev m_Nodes_loopOf : Nat := 202
abbrev m_Nodes_begin : Nat := 203
abbrev m_Nodes_take : Nat := 204
abbrev m_Nodes_clear : Nat := 205
abbrev m_Runner_init : Nat := 206
abbrev m_Runner_step : Nat := 207
abbrev m_Runner_waitIsOver : Nat := 208
abbrev m_Runner_findNumber : Nat := 209
abbrev m_Runner_assign : Nat := 210
abbrev m_Runner_aim : Nat := 211
abbrev m_Runner_unfit : Nat := 212
abbrev m_Runner_findWave : Nat := 213
abbrev m_Runner_isRising : Nat := 214
abbrev m_Runner_keep : Nat := 215
abbrev m_Runner_choose : Nat := 216
abbrev m_Runner_compare : Nat := 217
abbrev m_Runner_beginCount : Nat := 218
abbrev m_Runner_look : Nat := 219
abbrev m_Runner_leave : Nat := 220
abbrev m_Runner_pause : Nat := 221
abbrev m_Runner_check : Nat := 222
abbrev m_Runner_tell : Nat := 223
abbrev m_Thing_init : Nat := 224
abbrev m_Thing_canBe : Nat := 225
abbrev m_Thing_hasElement : Nat := 226
abbrev m_Thing_allows : Nat := 227
abbrev m_Things_init : Nat := 228
abbrev m_Things_isFull : Nat := 229
abbrev m_Things_keep : Nat := 230
abbrev m_Things_pick : Nat := 231
abbrev m_Things_clear : Nat := 232
abbrev m_Things_trimmed : Nat := 233
abbrev m_Told_init : Nat := 234
abbrev m_Told_clear : Nat := 235
abbrev m_Told_has : Nat := 236
abbrev m_Told_isAssign : Nat := 237
abbrev m_Told_hasRoomFor : Nat := 238
abbrev m_Told_tellReport : Nat := 239
abbrev m_Told_tellAssign : Nat := 240
abbrev m_Told_tellValue : Nat := 241
abbrev m_Told_placeOf : Nat := 242
abbrev m_Told_datumOf : Nat := 243
abbrev m_Unit_init : Nat := 244
abbrev m_Unit_countStep : Nat := 245
abbrev m_Unit_goTo : Nat := 246
abbrev m_Unit_goBehind : Nat := 247
abbrev m_Unit_goInto : Nat := 248
abbrev m_Unit_goToLook : Nat := 249
abbrev m_Unit_beginCount : Nat := 250
abbrev m_Unit_isCountOver : Nat := 251
abbrev m_Unit_countOn : Nat := 252
abbrev m_Unit_fail : Nat := 253
abbrev m_Unit_waitAt : Nat := 254
abbrev m_Unit_leaveWait : Nat := 255
abbrev m_Unit_signalsWaitedFor : Nat := 256
abbrev m_Unit_signalWaitedFor : Nat := 257
abbrev m_Unit_waitsForExpression : Nat := 258
abbrev m_Math_floorMod : Nat := 259
abbrev m_Arrays_copyOf : Nat := 260
abbrev m_Law_signal : Nat := 261
abbrev m_Law_variable : Nat := 262
abbrev m_Law_add : Nat := 263
abbrev m_Law_process : Nat := 264
abbrev m_Law_put : Nat := 265
abbrev m_Law_mark : Nat := 266
abbrev m_Law_get : Nat := 267
abbrev m_Law_set : Nat := 268
abbrev m_Law_variableOf : Nat := 269
abbrev m_Law_resume : Nat := 270
abbrev m_Law_holds : Nat := 271
abbrev m_Law_about : Nat := 272
abbrev m_Law_waits : Nat := 273
abbrev m_Law_until : Nat := 274
abbrev m_Law_act : Nat := 275
abbrev m_Law_value : Nat := 276
abbrev m_Law_delay : Nat := 277
abbrev m_Law_law : Nat := 278
abbrev k_Code : Nat := 0
abbrev k_Datum : Nat := 1
abbrev k_Finder : Nat := 2
abbrev k_Looker : Nat := 3
abbrev k_Maker : Nat := 4
abbrev k_Nodes : Nat := 5
abbrev k_Runner : Nat := 6
abbrev k_Thing : Nat := 7
abbrev k_Things : Nat := 8
abbrev k_Told : Nat := 9
abbrev k_Unit : Nat := 10
abbrev k_Ref : Nat := 11
abbrev k_IllegalArgumentException : Nat := 200
abbrev k_IllegalStateException : Nat := 201
abbrev k_IndexOutOfBoundsException : Nat := 202
/-- a call at depth d -/
noncomputable def vc (lim : Nat × Nat) (d : Nat) : ah_C := ah_calls ah_P (ah_val lim ah_P) d
/-- nothing is caught -/
def nx (h : ah_H) : Nat × Nat → ah_H → Option ah_R := fun _ h' => bif Nat.beq h'.2.2.2 h.2.2.2 && Nat.beq h'.2.1 (h.2.1 + 1) then none else none
/-- what the method y catches at pc -/
noncomputable def ah_hx (lim : Nat × Nat) (d y pc : Nat) (L : ah_L) (h : ah_H) : Nat × Nat → ah_H → Option ah_R := fun e h' => bif Nat.beq h'.2.2.2 h.2.2.2 && Nat.beq h'.2.1 (h.2.1 + 1) then (match ah_catch (match ah_P y with | some M => M.2.2.1 | none => []) pc e.1 with
  | some t => ah_val lim ah_P d y t L [.inr (.inr (some e.2))] h'
  | none => none) else none
