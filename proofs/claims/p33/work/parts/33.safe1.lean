/-! SAFETY, 2: the bounds that are wanted, the instances (by program, wip/tool/mksafe.py) -/
theorem bd_1_12 : z_bd 1 12 = (0, 300) := by decide +kernel
theorem bd_1_13 : z_bd 1 13 = ((-2147483648), 2147483647) := by decide +kernel
theorem bd_1_14 : z_bd 1 14 = ((-2147483648), 2147483647) := by decide +kernel
theorem bd_1_15 : z_bd 1 15 = ((-2147483648), 2147483647) := by decide +kernel
theorem bd_1_16 : z_bd 1 16 = ((-2147483648), 2147483647) := by decide +kernel
theorem bd_1_17 : z_bd 1 17 = ((-2147483648), 2147483647) := by decide +kernel
theorem bd_1_18 : z_bd 1 18 = ((-2147483648), 2147483647) := by decide +kernel
theorem bdr_10 (j : Int) : z_bd 10 j = ((-2147483648), 2147483647) := by
  unfold z_bd
  repeat (first | rw [if_neg (by omega)] | rw [if_pos (by omega)])
  try rfl
theorem bd_100_6 : z_bd 100 6 = (0, 200) := by decide +kernel
theorem bd_100_7 : z_bd 100 7 = ((-2147483648), 2147483647) := by decide +kernel
theorem bd_100_8 : z_bd 100 8 = ((-2147483648), 2147483647) := by decide +kernel
theorem bdr_102 (j : Int) : z_bd 102 j = ((-2147483648), 2147483647) := by
  unfold z_bd
  repeat (first | rw [if_neg (by omega)] | rw [if_pos (by omega)])
  try rfl
theorem bdr_104 (j : Int) : z_bd 104 j = ((-2147483648), 2147483647) := by
  unfold z_bd
  repeat (first | rw [if_neg (by omega)] | rw [if_pos (by omega)])
  try rfl
theorem bdr_106 (j : Int) : z_bd 106 j = ((-2147483648), 2147483647) := by
  unfold z_bd
  repeat (first | rw [if_neg (by omega)] | rw [if_pos (by omega)])
  try rfl
theorem bdr_108 (j : Int) : z_bd 108 j = ((-2147483648), 2147483647) := by
  unfold z_bd
  repeat (first | rw [if_neg (by omega)] | rw [if_pos (by omega)])
  try rfl
theorem bdr_110 (j : Int) : z_bd 110 j = ((-9223372036854775808), 9223372036854775807) := by
  unfold z_bd
  repeat (first | rw [if_neg (by omega)] | rw [if_pos (by omega)])
  try rfl
theorem bdr_112 (j : Int) : z_bd 112 j = ((-9223372036854775808), 9223372036854775807) := by
  unfold z_bd
  repeat (first | rw [if_neg (by omega)] | rw [if_pos (by omega)])
  try rfl
theorem bd_113_6 : z_bd 113 6 = (0, 200) := by decide +kernel
theorem bd_113_7 : z_bd 113 7 = ((-2147483648), 2147483647) := by decide +kernel
theorem bd_113_8 : z_bd 113 8 = ((-2147483648), 2147483647) := by decide +kernel
theorem bdr_115 (j : Int) : z_bd 115 j = ((-2147483648), 2147483647) := by
  unfold z_bd
  repeat (first | rw [if_neg (by omega)] | rw [if_pos (by omega)])
  try rfl
theorem bdr_117 (j : Int) : z_bd 117 j = ((-2147483648), 2147483647) := by
  unfold z_bd
  repeat (first | rw [if_neg (by omega)] | rw [if_pos (by omega)])
  try rfl
theorem bdr_119 (j : Int) : z_bd 119 j = ((-2147483648), 2147483647) := by
  unfold z_bd
  repeat (first | rw [if_neg (by omega)] | rw [if_pos (by omega)])
  try rfl
theorem bdr_12 (j : Int) : z_bd 12 j = ((-2147483648), 2147483647) := by
  unfold z_bd
  repeat (first | rw [if_neg (by omega)] | rw [if_pos (by omega)])
  try rfl
theorem bdr_121 (j : Int) : z_bd 121 j = ((-2147483648), 2147483647) := by
  unfold z_bd
  repeat (first | rw [if_neg (by omega)] | rw [if_pos (by omega)])
  try rfl
theorem bdr_123 (j : Int) : z_bd 123 j = ((-9223372036854775808), 9223372036854775807) := by
  unfold z_bd
  repeat (first | rw [if_neg (by omega)] | rw [if_pos (by omega)])
  try rfl
theorem bdr_125 (j : Int) : z_bd 125 j = ((-9223372036854775808), 9223372036854775807) := by
  unfold z_bd
  repeat (first | rw [if_neg (by omega)] | rw [if_pos (by omega)])
  try rfl
theorem bd_126_6 : z_bd 126 6 = (0, 200) := by decide +kernel
theorem bd_126_7 : z_bd 126 7 = ((-2147483648), 2147483647) := by decide +kernel
theorem bd_126_8 : z_bd 126 8 = ((-2147483648), 2147483647) := by decide +kernel
theorem bdr_128 (j : Int) : z_bd 128 j = ((-2147483648), 2147483647) := by
  unfold z_bd
  repeat (first | rw [if_neg (by omega)] | rw [if_pos (by omega)])
  try rfl
theorem bdr_130 (j : Int) : z_bd 130 j = ((-2147483648), 2147483647) := by
  unfold z_bd
  repeat (first | rw [if_neg (by omega)] | rw [if_pos (by omega)])
  try rfl
theorem bdr_132 (j : Int) : z_bd 132 j = ((-2147483648), 2147483647) := by
  unfold z_bd
  repeat (first | rw [if_neg (by omega)] | rw [if_pos (by omega)])
  try rfl
theorem bdr_134 (j : Int) : z_bd 134 j = ((-2147483648), 2147483647) := by
  unfold z_bd
  repeat (first | rw [if_neg (by omega)] | rw [if_pos (by omega)])
  try rfl
theorem bdr_136 (j : Int) : z_bd 136 j = ((-9223372036854775808), 9223372036854775807) := by
  unfold z_bd
  repeat (first | rw [if_neg (by omega)] | rw [if_pos (by omega)])
  try rfl
theorem bdr_138 (j : Int) : z_bd 138 j = ((-9223372036854775808), 9223372036854775807) := by
  unfold z_bd
  repeat (first | rw [if_neg (by omega)] | rw [if_pos (by omega)])
  try rfl
theorem bd_139_6 : z_bd 139 6 = (0, 200) := by decide +kernel
theorem bd_139_7 : z_bd 139 7 = ((-2147483648), 2147483647) := by decide +kernel
theorem bd_139_8 : z_bd 139 8 = ((-2147483648), 2147483647) := by decide +kernel
theorem bdr_14 (j : Int) : z_bd 14 j = ((-2147483648), 2147483647) := by
  unfold z_bd
  repeat (first | rw [if_neg (by omega)] | rw [if_pos (by omega)])
  try rfl
theorem bdr_141 (j : Int) : z_bd 141 j = ((-2147483648), 2147483647) := by
  unfold z_bd
  repeat (first | rw [if_neg (by omega)] | rw [if_pos (by omega)])
  try rfl
theorem bdr_143 (j : Int) : z_bd 143 j = ((-2147483648), 2147483647) := by
  unfold z_bd
  repeat (first | rw [if_neg (by omega)] | rw [if_pos (by omega)])
  try rfl
theorem bdr_145 (j : Int) : z_bd 145 j = ((-2147483648), 2147483647) := by
  unfold z_bd
  repeat (first | rw [if_neg (by omega)] | rw [if_pos (by omega)])
  try rfl
theorem bdr_147 (j : Int) : z_bd 147 j = ((-2147483648), 2147483647) := by
  unfold z_bd
  repeat (first | rw [if_neg (by omega)] | rw [if_pos (by omega)])
  try rfl
theorem bdr_149 (j : Int) : z_bd 149 j = ((-9223372036854775808), 9223372036854775807) := by
  unfold z_bd
  repeat (first | rw [if_neg (by omega)] | rw [if_pos (by omega)])
  try rfl
theorem bdr_151 (j : Int) : z_bd 151 j = ((-9223372036854775808), 9223372036854775807) := by
  unfold z_bd
  repeat (first | rw [if_neg (by omega)] | rw [if_pos (by omega)])
  try rfl
theorem bd_152_6 : z_bd 152 6 = (0, 200) := by decide +kernel
theorem bd_152_7 : z_bd 152 7 = ((-2147483648), 2147483647) := by decide +kernel
theorem bd_152_8 : z_bd 152 8 = ((-2147483648), 2147483647) := by decide +kernel
theorem bdr_154 (j : Int) : z_bd 154 j = ((-2147483648), 2147483647) := by
  unfold z_bd
  repeat (first | rw [if_neg (by omega)] | rw [if_pos (by omega)])
  try rfl
theorem bdr_156 (j : Int) : z_bd 156 j = ((-2147483648), 2147483647) := by
  unfold z_bd
  repeat (first | rw [if_neg (by omega)] | rw [if_pos (by omega)])
  try rfl
theorem bdr_158 (j : Int) : z_bd 158 j = ((-2147483648), 2147483647) := by
  unfold z_bd
  repeat (first | rw [if_neg (by omega)] | rw [if_pos (by omega)])
  try rfl
theorem bdr_16 (j : Int) : z_bd 16 j = ((-9223372036854775808), 9223372036854775807) := by
  unfold z_bd
  repeat (first | rw [if_neg (by omega)] | rw [if_pos (by omega)])
  try rfl
theorem bdr_160 (j : Int) : z_bd 160 j = ((-2147483648), 2147483647) := by
  unfold z_bd
  repeat (first | rw [if_neg (by omega)] | rw [if_pos (by omega)])
  try rfl
theorem bdr_162 (j : Int) : z_bd 162 j = ((-9223372036854775808), 9223372036854775807) := by
  unfold z_bd
  repeat (first | rw [if_neg (by omega)] | rw [if_pos (by omega)])
  try rfl
theorem bdr_164 (j : Int) : z_bd 164 j = ((-9223372036854775808), 9223372036854775807) := by
  unfold z_bd
  repeat (first | rw [if_neg (by omega)] | rw [if_pos (by omega)])
  try rfl
theorem bd_165_6 : z_bd 165 6 = (0, 200) := by decide +kernel
theorem bd_165_7 : z_bd 165 7 = ((-2147483648), 2147483647) := by decide +kernel
theorem bd_165_8 : z_bd 165 8 = ((-2147483648), 2147483647) := by decide +kernel
theorem bdr_167 (j : Int) : z_bd 167 j = ((-2147483648), 2147483647) := by
  unfold z_bd
  repeat (first | rw [if_neg (by omega)] | rw [if_pos (by omega)])
  try rfl
theorem bdr_169 (j : Int) : z_bd 169 j = ((-2147483648), 2147483647) := by
  unfold z_bd
  repeat (first | rw [if_neg (by omega)] | rw [if_pos (by omega)])
  try rfl
theorem bdr_171 (j : Int) : z_bd 171 j = ((-2147483648), 2147483647) := by
  unfold z_bd
  repeat (first | rw [if_neg (by omega)] | rw [if_pos (by omega)])
  try rfl
theorem bdr_173 (j : Int) : z_bd 173 j = ((-2147483648), 2147483647) := by
  unfold z_bd
  repeat (first | rw [if_neg (by omega)] | rw [if_pos (by omega)])
  try rfl
theorem bdr_175 (j : Int) : z_bd 175 j = ((-9223372036854775808), 9223372036854775807) := by
  unfold z_bd
  repeat (first | rw [if_neg (by omega)] | rw [if_pos (by omega)])
  try rfl
theorem bdr_177 (j : Int) : z_bd 177 j = ((-9223372036854775808), 9223372036854775807) := by
  unfold z_bd
  repeat (first | rw [if_neg (by omega)] | rw [if_pos (by omega)])
  try rfl
theorem bd_178_6 : z_bd 178 6 = (0, 200) := by decide +kernel
theorem bd_178_7 : z_bd 178 7 = ((-2147483648), 2147483647) := by decide +kernel
theorem bd_178_8 : z_bd 178 8 = ((-2147483648), 2147483647) := by decide +kernel
theorem bdr_18 (j : Int) : z_bd 18 j = ((-9223372036854775808), 9223372036854775807) := by
  unfold z_bd
  repeat (first | rw [if_neg (by omega)] | rw [if_pos (by omega)])
  try rfl
theorem bdr_180 (j : Int) : z_bd 180 j = ((-2147483648), 2147483647) := by
  unfold z_bd
  repeat (first | rw [if_neg (by omega)] | rw [if_pos (by omega)])
  try rfl
theorem bdr_182 (j : Int) : z_bd 182 j = ((-2147483648), 2147483647) := by
  unfold z_bd
  repeat (first | rw [if_neg (by omega)] | rw [if_pos (by omega)])
  try rfl
theorem bdr_184 (j : Int) : z_bd 184 j = ((-2147483648), 2147483647) := by
  unfold z_bd
  repeat (first | rw [if_neg (by omega)] | rw [if_pos (by omega)])
  try rfl
theorem bdr_186 (j : Int) : z_bd 186 j = ((-2147483648), 2147483647) := by
  unfold z_bd
  repeat (first | rw [if_neg (by omega)] | rw [if_pos (by omega)])
  try rfl
theorem bdr_188 (j : Int) : z_bd 188 j = ((-9223372036854775808), 9223372036854775807) := by
  unfold z_bd
  repeat (first | rw [if_neg (by omega)] | rw [if_pos (by omega)])
  try rfl
theorem bd_19_6 : z_bd 19 6 = (0, 200) := by decide +kernel
theorem bd_19_7 : z_bd 19 7 = ((-2147483648), 2147483647) := by decide +kernel
theorem bd_19_8 : z_bd 19 8 = ((-2147483648), 2147483647) := by decide +kernel
theorem bdr_190 (j : Int) : z_bd 190 j = ((-9223372036854775808), 9223372036854775807) := by
  unfold z_bd
  repeat (first | rw [if_neg (by omega)] | rw [if_pos (by omega)])
  try rfl
theorem bd_191_16 : z_bd 191 16 = (0, 200) := by decide +kernel
theorem bd_191_17 : z_bd 191 17 = ((-2147483648), 2147483647) := by decide +kernel
theorem bd_191_18 : z_bd 191 18 = ((-2147483648), 2147483647) := by decide +kernel
theorem bdr_193 (j : Int) : z_bd 193 j = ((-2147483648), 2147483647) := by
  unfold z_bd
  repeat (first | rw [if_neg (by omega)] | rw [if_pos (by omega)])
  try rfl
theorem bdr_195 (j : Int) : z_bd 195 j = (0, 200) := by
  unfold z_bd
  repeat (first | rw [if_neg (by omega)] | rw [if_pos (by omega)])
  try rfl
theorem bdr_197 (j : Int) : z_bd 197 j = ((-2147483648), 2147483647) := by
  unfold z_bd
  repeat (first | rw [if_neg (by omega)] | rw [if_pos (by omega)])
  try rfl
theorem bdr_199 (j : Int) : z_bd 199 j = ((-2147483648), 2147483647) := by
  unfold z_bd
  repeat (first | rw [if_neg (by omega)] | rw [if_pos (by omega)])
  try rfl
theorem bdr_201 (j : Int) : z_bd 201 j = ((-2147483648), 2147483647) := by
  unfold z_bd
  repeat (first | rw [if_neg (by omega)] | rw [if_pos (by omega)])
  try rfl
theorem bdr_203 (j : Int) : z_bd 203 j = ((-2147483648), 2147483647) := by
  unfold z_bd
  repeat (first | rw [if_neg (by omega)] | rw [if_pos (by omega)])
  try rfl
theorem bdr_205 (j : Int) : z_bd 205 j = ((-2147483648), 2147483647) := by
  unfold z_bd
  repeat (first | rw [if_neg (by omega)] | rw [if_pos (by omega)])
  try rfl
theorem bdr_207 (j : Int) : z_bd 207 j = ((-2147483648), 2147483647) := by
  unfold z_bd
  repeat (first | rw [if_neg (by omega)] | rw [if_pos (by omega)])
  try rfl
theorem bdr_209 (j : Int) : z_bd 209 j = ((-2147483648), 2147483647) := by
  unfold z_bd
  repeat (first | rw [if_neg (by omega)] | rw [if_pos (by omega)])
  try rfl
theorem bdr_21 (j : Int) : z_bd 21 j = ((-2147483648), 2147483647) := by
  unfold z_bd
  repeat (first | rw [if_neg (by omega)] | rw [if_pos (by omega)])
  try rfl
theorem bdr_211 (j : Int) : z_bd 211 j = ((-2147483648), 2147483647) := by
  unfold z_bd
  repeat (first | rw [if_neg (by omega)] | rw [if_pos (by omega)])
  try rfl
theorem bdr_213 (j : Int) : z_bd 213 j = ((-2147483648), 2147483647) := by
  unfold z_bd
  repeat (first | rw [if_neg (by omega)] | rw [if_pos (by omega)])
  try rfl
theorem bdr_215 (j : Int) : z_bd 215 j = ((-2147483648), 2147483647) := by
  unfold z_bd
  repeat (first | rw [if_neg (by omega)] | rw [if_pos (by omega)])
  try rfl
theorem bdr_217 (j : Int) : z_bd 217 j = ((-2147483648), 2147483647) := by
  unfold z_bd
  repeat (first | rw [if_neg (by omega)] | rw [if_pos (by omega)])
  try rfl
theorem bdr_219 (j : Int) : z_bd 219 j = ((-2147483648), 2147483647) := by
  unfold z_bd
  repeat (first | rw [if_neg (by omega)] | rw [if_pos (by omega)])
  try rfl
theorem bd_220_4 : z_bd 220 4 = (0, 201) := by decide +kernel
theorem bd_220_5 : z_bd 220 5 = ((-1), 200) := by decide +kernel
theorem bdr_222 (j : Int) : z_bd 222 j = ((-2147483648), 2147483647) := by
  unfold z_bd
  repeat (first | rw [if_neg (by omega)] | rw [if_pos (by omega)])
  try rfl
theorem bd_223_9 : z_bd 223 9 = ((-2147483648), 2147483647) := by decide +kernel
theorem bdr_225 (j : Int) : z_bd 225 j = ((-2147483648), 2147483647) := by
  unfold z_bd
  repeat (first | rw [if_neg (by omega)] | rw [if_pos (by omega)])
  try rfl
theorem bdr_227 (j : Int) : z_bd 227 j = (0, 200) := by
  unfold z_bd
  repeat (first | rw [if_neg (by omega)] | rw [if_pos (by omega)])
  try rfl
theorem bdr_229 (j : Int) : z_bd 229 j = ((-2147483648), 2147483647) := by
  unfold z_bd
  repeat (first | rw [if_neg (by omega)] | rw [if_pos (by omega)])
  try rfl
theorem bdr_23 (j : Int) : z_bd 23 j = ((-2147483648), 2147483647) := by
  unfold z_bd
  repeat (first | rw [if_neg (by omega)] | rw [if_pos (by omega)])
  try rfl
theorem bdr_231 (j : Int) : z_bd 231 j = ((-2147483648), 2147483647) := by
  unfold z_bd
  repeat (first | rw [if_neg (by omega)] | rw [if_pos (by omega)])
  try rfl
theorem bdr_233 (j : Int) : z_bd 233 j = ((-2147483648), 2147483647) := by
  unfold z_bd
  repeat (first | rw [if_neg (by omega)] | rw [if_pos (by omega)])
  try rfl
theorem bdr_235 (j : Int) : z_bd 235 j = ((-2147483648), 2147483647) := by
  unfold z_bd
  repeat (first | rw [if_neg (by omega)] | rw [if_pos (by omega)])
  try rfl
theorem bdr_237 (j : Int) : z_bd 237 j = ((-2147483648), 2147483647) := by
  unfold z_bd
  repeat (first | rw [if_neg (by omega)] | rw [if_pos (by omega)])
  try rfl
theorem bdr_239 (j : Int) : z_bd 239 j = ((-2147483648), 2147483647) := by
  unfold z_bd
  repeat (first | rw [if_neg (by omega)] | rw [if_pos (by omega)])
  try rfl
theorem bd_240_6 : z_bd 240 6 = (0, 200) := by decide +kernel
theorem bdr_242 (j : Int) : z_bd 242 j = (0, 200) := by
  unfold z_bd
  repeat (first | rw [if_neg (by omega)] | rw [if_pos (by omega)])
  try rfl
theorem bdr_244 (j : Int) : z_bd 244 j = ((-9223372036854775808), 9223372036854775807) := by
  unfold z_bd
  repeat (first | rw [if_neg (by omega)] | rw [if_pos (by omega)])
  try rfl
theorem bdr_248 (j : Int) : z_bd 248 j = (0, 200) := by
  unfold z_bd
  repeat (first | rw [if_neg (by omega)] | rw [if_pos (by omega)])
  try rfl
theorem bd_249_6 : z_bd 249 6 = (0, 200) := by decide +kernel
theorem bdr_25 (j : Int) : z_bd 25 j = ((-2147483648), 2147483647) := by
  unfold z_bd
  repeat (first | rw [if_neg (by omega)] | rw [if_pos (by omega)])
  try rfl
theorem bdr_251 (j : Int) : z_bd 251 j = (0, 200) := by
  unfold z_bd
  repeat (first | rw [if_neg (by omega)] | rw [if_pos (by omega)])
  try rfl
theorem bdr_253 (j : Int) : z_bd 253 j = ((-9223372036854775808), 9223372036854775807) := by
  unfold z_bd
  repeat (first | rw [if_neg (by omega)] | rw [if_pos (by omega)])
  try rfl
theorem bdr_255 (j : Int) : z_bd 255 j = ((-2147483648), 2147483647) := by
  unfold z_bd
  repeat (first | rw [if_neg (by omega)] | rw [if_pos (by omega)])
  try rfl
theorem bdr_257 (j : Int) : z_bd 257 j = (0, 200) := by
  unfold z_bd
  repeat (first | rw [if_neg (by omega)] | rw [if_pos (by omega)])
  try rfl
theorem bdr_260 (j : Int) : z_bd 260 j = ((-2147483648), 2147483647) := by
  unfold z_bd
  repeat (first | rw [if_neg (by omega)] | rw [if_pos (by omega)])
  try rfl
theorem bdr_262 (j : Int) : z_bd 262 j = ((-2147483648), 2147483647) := by
  unfold z_bd
  repeat (first | rw [if_neg (by omega)] | rw [if_pos (by omega)])
  try rfl
theorem bdr_264 (j : Int) : z_bd 264 j = ((-2147483648), 2147483647) := by
  unfold z_bd
  repeat (first | rw [if_neg (by omega)] | rw [if_pos (by omega)])
  try rfl
theorem bdr_266 (j : Int) : z_bd 266 j = ((-2147483648), 2147483647) := by
  unfold z_bd
  repeat (first | rw [if_neg (by omega)] | rw [if_pos (by omega)])
  try rfl
theorem bdr_268 (j : Int) : z_bd 268 j = ((-2147483648), 2147483647) := by
  unfold z_bd
  repeat (first | rw [if_neg (by omega)] | rw [if_pos (by omega)])
  try rfl
theorem bdr_27 (j : Int) : z_bd 27 j = ((-2147483648), 2147483647) := by
  unfold z_bd
  repeat (first | rw [if_neg (by omega)] | rw [if_pos (by omega)])
  try rfl
theorem bdr_270 (j : Int) : z_bd 270 j = ((-2147483648), 2147483647) := by
  unfold z_bd
  repeat (first | rw [if_neg (by omega)] | rw [if_pos (by omega)])
  try rfl
theorem bdr_272 (j : Int) : z_bd 272 j = ((-2147483648), 2147483647) := by
  unfold z_bd
  repeat (first | rw [if_neg (by omega)] | rw [if_pos (by omega)])
  try rfl
theorem bdr_274 (j : Int) : z_bd 274 j = ((-2147483648), 2147483647) := by
  unfold z_bd
  repeat (first | rw [if_neg (by omega)] | rw [if_pos (by omega)])
  try rfl
theorem bdr_276 (j : Int) : z_bd 276 j = ((-2147483648), 2147483647) := by
  unfold z_bd
  repeat (first | rw [if_neg (by omega)] | rw [if_pos (by omega)])
  try rfl
theorem bdr_278 (j : Int) : z_bd 278 j = ((-2147483648), 2147483647) := by
  unfold z_bd
  repeat (first | rw [if_neg (by omega)] | rw [if_pos (by omega)])
  try rfl
theorem bd_279_9 : z_bd 279 9 = ((-2147483648), 2147483647) := by decide +kernel
theorem bdr_281 (j : Int) : z_bd 281 j = ((-2147483648), 2147483647) := by
  unfold z_bd
  repeat (first | rw [if_neg (by omega)] | rw [if_pos (by omega)])
  try rfl
theorem bdr_283 (j : Int) : z_bd 283 j = (0, 200) := by
  unfold z_bd
  repeat (first | rw [if_neg (by omega)] | rw [if_pos (by omega)])
  try rfl
theorem bdr_285 (j : Int) : z_bd 285 j = ((-2147483648), 2147483647) := by
  unfold z_bd
  repeat (first | rw [if_neg (by omega)] | rw [if_pos (by omega)])
  try rfl
theorem bdr_287 (j : Int) : z_bd 287 j = ((-2147483648), 2147483647) := by
  unfold z_bd
  repeat (first | rw [if_neg (by omega)] | rw [if_pos (by omega)])
  try rfl
theorem bdr_289 (j : Int) : z_bd 289 j = ((-2147483648), 2147483647) := by
  unfold z_bd
  repeat (first | rw [if_neg (by omega)] | rw [if_pos (by omega)])
  try rfl
theorem bdr_29 (j : Int) : z_bd 29 j = ((-9223372036854775808), 9223372036854775807) := by
  unfold z_bd
  repeat (first | rw [if_neg (by omega)] | rw [if_pos (by omega)])
  try rfl
theorem bdr_291 (j : Int) : z_bd 291 j = ((-2147483648), 2147483647) := by
  unfold z_bd
  repeat (first | rw [if_neg (by omega)] | rw [if_pos (by omega)])
  try rfl
theorem bdr_293 (j : Int) : z_bd 293 j = ((-2147483648), 2147483647) := by
  unfold z_bd
  repeat (first | rw [if_neg (by omega)] | rw [if_pos (by omega)])
  try rfl
theorem bdr_295 (j : Int) : z_bd 295 j = ((-2147483648), 2147483647) := by
  unfold z_bd
  repeat (first | rw [if_neg (by omega)] | rw [if_pos (by omega)])
  try rfl
theorem bd_296_9 : z_bd 296 9 = ((-2147483648), 2147483647) := by decide +kernel
theorem bdr_298 (j : Int) : z_bd 298 j = ((-2147483648), 2147483647) := by
  unfold z_bd
  repeat (first | rw [if_neg (by omega)] | rw [if_pos (by omega)])
  try rfl
theorem bdr_3 (j : Int) : z_bd 3 j = ((-2147483648), 2147483647) := by
  unfold z_bd
  repeat (first | rw [if_neg (by omega)] | rw [if_pos (by omega)])
  try rfl
theorem bdr_300 (j : Int) : z_bd 300 j = ((-2147483648), 2147483647) := by
  unfold z_bd
  repeat (first | rw [if_neg (by omega)] | rw [if_pos (by omega)])
  try rfl
theorem bdr_302 (j : Int) : z_bd 302 j = ((-2147483648), 2147483647) := by
  unfold z_bd
  repeat (first | rw [if_neg (by omega)] | rw [if_pos (by omega)])
  try rfl
theorem bdr_304 (j : Int) : z_bd 304 j = ((-2147483648), 2147483647) := by
  unfold z_bd
  repeat (first | rw [if_neg (by omega)] | rw [if_pos (by omega)])
  try rfl
theorem bdr_306 (j : Int) : z_bd 306 j = ((-2147483648), 2147483647) := by
  unfold z_bd
  repeat (first | rw [if_neg (by omega)] | rw [if_pos (by omega)])
  try rfl
theorem bdr_308 (j : Int) : z_bd 308 j = ((-2147483648), 2147483647) := by
  unfold z_bd
  repeat (first | rw [if_neg (by omega)] | rw [if_pos (by omega)])
  try rfl
theorem bdr_31 (j : Int) : z_bd 31 j = ((-9223372036854775808), 9223372036854775807) := by
  unfold z_bd
  repeat (first | rw [if_neg (by omega)] | rw [if_pos (by omega)])
  try rfl
theorem bd_32_1 : z_bd 32 1 = ((-2147483648), 2147483647) := by decide +kernel
theorem bd_32_2 : z_bd 32 2 = ((-2147483648), 2147483647) := by decide +kernel
theorem bd_32_3 : z_bd 32 3 = ((-2147483648), 2147483647) := by decide +kernel
theorem bd_32_4 : z_bd 32 4 = ((-2147483648), 2147483647) := by decide +kernel
theorem bd_32_5 : z_bd 32 5 = ((-2147483648), 2147483647) := by decide +kernel
theorem bd_32_6 : z_bd 32 6 = ((-2147483648), 2147483647) := by decide +kernel
theorem bd_32_7 : z_bd 32 7 = ((-2147483648), 2147483647) := by decide +kernel
theorem bd_33_1 : z_bd 33 1 = (0, 11) := by decide +kernel
theorem bd_33_2 : z_bd 33 2 = (0, 12) := by decide +kernel
theorem bd_35_6 : z_bd 35 6 = (0, 200) := by decide +kernel
theorem bd_35_7 : z_bd 35 7 = ((-2147483648), 2147483647) := by decide +kernel
theorem bd_35_8 : z_bd 35 8 = ((-2147483648), 2147483647) := by decide +kernel
theorem bdr_37 (j : Int) : z_bd 37 j = ((-2147483648), 2147483647) := by
  unfold z_bd
  repeat (first | rw [if_neg (by omega)] | rw [if_pos (by omega)])
  try rfl
theorem bdr_39 (j : Int) : z_bd 39 j = ((-2147483648), 2147483647) := by
  unfold z_bd
  repeat (first | rw [if_neg (by omega)] | rw [if_pos (by omega)])
  try rfl
theorem bdr_41 (j : Int) : z_bd 41 j = ((-2147483648), 2147483647) := by
  unfold z_bd
  repeat (first | rw [if_neg (by omega)] | rw [if_pos (by omega)])
  try rfl
theorem bdr_43 (j : Int) : z_bd 43 j = ((-2147483648), 2147483647) := by
  unfold z_bd
  repeat (first | rw [if_neg (by omega)] | rw [if_pos (by omega)])
  try rfl
theorem bdr_45 (j : Int) : z_bd 45 j = ((-9223372036854775808), 9223372036854775807) := by
  unfold z_bd
  repeat (first | rw [if_neg (by omega)] | rw [if_pos (by omega)])
  try rfl
theorem bdr_47 (j : Int) : z_bd 47 j = ((-9223372036854775808), 9223372036854775807) := by
  unfold z_bd
  repeat (first | rw [if_neg (by omega)] | rw [if_pos (by omega)])
  try rfl
theorem bd_48_6 : z_bd 48 6 = (0, 200) := by decide +kernel
theorem bd_48_7 : z_bd 48 7 = ((-2147483648), 2147483647) := by decide +kernel
theorem bd_48_8 : z_bd 48 8 = ((-2147483648), 2147483647) := by decide +kernel
theorem bdr_5 (j : Int) : z_bd 5 j = ((-2147483648), 2147483647) := by
  unfold z_bd
  repeat (first | rw [if_neg (by omega)] | rw [if_pos (by omega)])
  try rfl
theorem bdr_50 (j : Int) : z_bd 50 j = ((-2147483648), 2147483647) := by
  unfold z_bd
  repeat (first | rw [if_neg (by omega)] | rw [if_pos (by omega)])
  try rfl
theorem bdr_52 (j : Int) : z_bd 52 j = ((-2147483648), 2147483647) := by
  unfold z_bd
  repeat (first | rw [if_neg (by omega)] | rw [if_pos (by omega)])
  try rfl
theorem bdr_54 (j : Int) : z_bd 54 j = ((-2147483648), 2147483647) := by
  unfold z_bd
  repeat (first | rw [if_neg (by omega)] | rw [if_pos (by omega)])
  try rfl
theorem bdr_56 (j : Int) : z_bd 56 j = ((-2147483648), 2147483647) := by
  unfold z_bd
  repeat (first | rw [if_neg (by omega)] | rw [if_pos (by omega)])
  try rfl
theorem bdr_58 (j : Int) : z_bd 58 j = ((-9223372036854775808), 9223372036854775807) := by
  unfold z_bd
  repeat (first | rw [if_neg (by omega)] | rw [if_pos (by omega)])
  try rfl
theorem bd_6_6 : z_bd 6 6 = (0, 200) := by decide +kernel
theorem bd_6_7 : z_bd 6 7 = ((-2147483648), 2147483647) := by decide +kernel
theorem bd_6_8 : z_bd 6 8 = ((-2147483648), 2147483647) := by decide +kernel
theorem bdr_60 (j : Int) : z_bd 60 j = ((-9223372036854775808), 9223372036854775807) := by
  unfold z_bd
  repeat (first | rw [if_neg (by omega)] | rw [if_pos (by omega)])
  try rfl
theorem bd_61_6 : z_bd 61 6 = (0, 200) := by decide +kernel
theorem bd_61_7 : z_bd 61 7 = ((-2147483648), 2147483647) := by decide +kernel
theorem bd_61_8 : z_bd 61 8 = ((-2147483648), 2147483647) := by decide +kernel
theorem bdr_63 (j : Int) : z_bd 63 j = ((-2147483648), 2147483647) := by
  unfold z_bd
  repeat (first | rw [if_neg (by omega)] | rw [if_pos (by omega)])
  try rfl
theorem bdr_65 (j : Int) : z_bd 65 j = ((-2147483648), 2147483647) := by
  unfold z_bd
  repeat (first | rw [if_neg (by omega)] | rw [if_pos (by omega)])
  try rfl
theorem bdr_67 (j : Int) : z_bd 67 j = ((-2147483648), 2147483647) := by
  unfold z_bd
  repeat (first | rw [if_neg (by omega)] | rw [if_pos (by omega)])
  try rfl
theorem bdr_69 (j : Int) : z_bd 69 j = ((-2147483648), 2147483647) := by
  unfold z_bd
  repeat (first | rw [if_neg (by omega)] | rw [if_pos (by omega)])
  try rfl
theorem bdr_71 (j : Int) : z_bd 71 j = ((-9223372036854775808), 9223372036854775807) := by
  unfold z_bd
  repeat (first | rw [if_neg (by omega)] | rw [if_pos (by omega)])
  try rfl
theorem bdr_73 (j : Int) : z_bd 73 j = ((-9223372036854775808), 9223372036854775807) := by
  unfold z_bd
  repeat (first | rw [if_neg (by omega)] | rw [if_pos (by omega)])
  try rfl
theorem bd_74_6 : z_bd 74 6 = (0, 200) := by decide +kernel
theorem bd_74_7 : z_bd 74 7 = ((-2147483648), 2147483647) := by decide +kernel
theorem bd_74_8 : z_bd 74 8 = ((-2147483648), 2147483647) := by decide +kernel
theorem bdr_76 (j : Int) : z_bd 76 j = ((-2147483648), 2147483647) := by
  unfold z_bd
  repeat (first | rw [if_neg (by omega)] | rw [if_pos (by omega)])
  try rfl
theorem bdr_78 (j : Int) : z_bd 78 j = ((-2147483648), 2147483647) := by
  unfold z_bd
  repeat (first | rw [if_neg (by omega)] | rw [if_pos (by omega)])
  try rfl
theorem bdr_8 (j : Int) : z_bd 8 j = ((-2147483648), 2147483647) := by
  unfold z_bd
  repeat (first | rw [if_neg (by omega)] | rw [if_pos (by omega)])
  try rfl
theorem bdr_80 (j : Int) : z_bd 80 j = ((-2147483648), 2147483647) := by
  unfold z_bd
  repeat (first | rw [if_neg (by omega)] | rw [if_pos (by omega)])
  try rfl
theorem bdr_82 (j : Int) : z_bd 82 j = ((-2147483648), 2147483647) := by
  unfold z_bd
  repeat (first | rw [if_neg (by omega)] | rw [if_pos (by omega)])
  try rfl
theorem bdr_84 (j : Int) : z_bd 84 j = ((-9223372036854775808), 9223372036854775807) := by
  unfold z_bd
  repeat (first | rw [if_neg (by omega)] | rw [if_pos (by omega)])
  try rfl
theorem bdr_86 (j : Int) : z_bd 86 j = ((-9223372036854775808), 9223372036854775807) := by
  unfold z_bd
  repeat (first | rw [if_neg (by omega)] | rw [if_pos (by omega)])
  try rfl
theorem bd_87_6 : z_bd 87 6 = (0, 200) := by decide +kernel
theorem bd_87_7 : z_bd 87 7 = ((-2147483648), 2147483647) := by decide +kernel
theorem bd_87_8 : z_bd 87 8 = ((-2147483648), 2147483647) := by decide +kernel
theorem bdr_89 (j : Int) : z_bd 89 j = ((-2147483648), 2147483647) := by
  unfold z_bd
  repeat (first | rw [if_neg (by omega)] | rw [if_pos (by omega)])
  try rfl
theorem bdr_91 (j : Int) : z_bd 91 j = ((-2147483648), 2147483647) := by
  unfold z_bd
  repeat (first | rw [if_neg (by omega)] | rw [if_pos (by omega)])
  try rfl
theorem bdr_93 (j : Int) : z_bd 93 j = ((-2147483648), 2147483647) := by
  unfold z_bd
  repeat (first | rw [if_neg (by omega)] | rw [if_pos (by omega)])
  try rfl
theorem bdr_95 (j : Int) : z_bd 95 j = ((-2147483648), 2147483647) := by
  unfold z_bd
  repeat (first | rw [if_neg (by omega)] | rw [if_pos (by omega)])
  try rfl
theorem bdr_97 (j : Int) : z_bd 97 j = ((-9223372036854775808), 9223372036854775807) := by
  unfold z_bd
  repeat (first | rw [if_neg (by omega)] | rw [if_pos (by omega)])
  try rfl
theorem bdr_99 (j : Int) : z_bd 99 j = ((-9223372036854775808), 9223372036854775807) := by
  unfold z_bd
  repeat (first | rw [if_neg (by omega)] | rw [if_pos (by omega)])
  try rfl
abbrev R_X10_kindAt_191 (a b : Int) : Prop := False
abbrev P_X10_kindAt_191 (r0 : z_M) : z_V → z_M → Prop := fun v s' => z_CI s' ∧ z_Fr R_X10_kindAt_191 r0 s' ∧ (∃ x, v = vI x ∧ -2147483648 ≤ x ∧ x ≤ 2147483647)
theorem sj_X10_kindAt_191_J88 {fu : Nat} (hfu : 8589934592 ≤ fu) (r0 s : z_M) (c : z_CI s) (f : z_Fr R_X10_kindAt_191 r0 s) (t0 : Int) (d0 : 3 ≤ t0 ∧ t0 ≤ 6) : z_T (fX10_kindAt_J88 fu s t0) (P_X10_kindAt_191 r0) := by
  refine T_of (fX10_kindAt_J88.eq_1 ..) ?_
  exact T_ret ⟨c, f, ⟨t0, rfl, by omega, by omega⟩⟩
theorem sj_X10_kindAt_191_J44 {fu : Nat} (hfu : 8589934592 ≤ fu) (r0 s : z_M) (c : z_CI s) (f : z_Fr R_X10_kindAt_191 r0 s) (a2 : Int) (b2 : -2147483648 ≤ a2 ∧ a2 ≤ 2147483647) : z_T (fX10_kindAt_J44 fu s a2) (P_X10_kindAt_191 r0) := by
  refine T_of (fX10_kindAt_J44.eq_1 ..) ?_
  refine T_ite (fun h1 => ?_) (fun h1 => ?_)
  · refine T_ite (fun h2 => ?_) (fun h2 => ?_)
    · refine T_ite (fun h3 => ?_) (fun h3 => ?_)
      · refine T_ite (fun h4 => ?_) (fun h4 => ?_)
        · refine T_ite (fun h5 => ?_) (fun h5 => ?_)
          · exact sj_X10_kindAt_191_J88 hfu r0 s c f 3 (by omega)
          · exact sj_X10_kindAt_191_J88 hfu r0 s c f 6 (by omega)
        · exact T_ret ⟨c, f, ⟨5, rfl, by omega, by omega⟩⟩
      · exact T_ret ⟨c, f, ⟨4, rfl, by omega, by omega⟩⟩
    · exact T_ret ⟨c, f, ⟨2, rfl, by omega, by omega⟩⟩
  · exact T_ret ⟨c, f, ⟨1, rfl, by omega, by omega⟩⟩
theorem sf_X10_kindAt_191 {fu : Nat} (hfu : 8589934592 ≤ fu) (r0 : z_M) (c0 : z_CI r0) (a1 : Int) (b1 : -2147483648 ≤ a1 ∧ a1 ≤ 2147483647) : z_T (fX10_kindAt fu r0 191 a1) (P_X10_kindAt_191 r0) := by
  refine T_of (fX10_kindAt.eq_1 ..) ?_
  refine T_if1 (by decide +kernel) ?_
  refine T_let 6 (by decide +kernel) ?_
  refine T_if1 (by decide +kernel) ?_
  refine T_let 7 (by decide +kernel) ?_
  refine T_if1 (by decide +kernel) ?_
  refine T_get (by decide +kernel) (c := 8) (by decide +kernel) bdr_8 (by decide) c0 (fun x1 e2 b3 w4 => ?_)
  have l5 : z_ln 7 = 200 := by decide +kernel
  refine T_if1 (by decide +kernel) ?_
  refine T_let 6 (by decide +kernel) ?_
  refine T_if1 (by decide +kernel) ?_
  refine T_let 11 (by decide +kernel) ?_
  refine T_if1 (by decide +kernel) ?_
  refine T_get (by decide +kernel) (c := 12) (by decide +kernel) bdr_12 (by decide) c0 (fun x6 e7 b8 w9 => ?_)
  have l10 : z_ln 11 = 200 := by decide +kernel
  refine T_ite (fun h11 => ?_) (fun h11 => ?_)
  · refine T_ite (fun h12 => ?_) (fun h12 => ?_)
    · exact sj_X10_kindAt_191_J44 hfu r0 r0 c0 z_Fr.rf x1 (by omega)
    · refine T_ite (fun h13 => ?_) (fun h13 => ?_)
      · exact sj_X10_kindAt_191_J44 hfu r0 r0 c0 z_Fr.rf x1 (by omega)
      · exact T_ret ⟨c0, z_Fr.rf, ⟨0, rfl, by omega, by omega⟩⟩
  · exact T_ret ⟨c0, z_Fr.rf, ⟨7, rfl, by omega, by omega⟩⟩
abbrev R_X10_startsUnit_191 (a b : Int) : Prop := False
abbrev P_X10_startsUnit_191 (r0 : z_M) : z_V → z_M → Prop := fun v s' => z_CI s' ∧ z_Fr R_X10_startsUnit_191 r0 s' ∧ (∃ x, v = vI x ∧ 0 ≤ x ∧ x ≤ 1)
theorem sj_X10_startsUnit_191_J63 {fu : Nat} (hfu : 8589934592 ≤ fu) (r0 s : z_M) (c : z_CI s) (f : z_Fr R_X10_startsUnit_191 r0 s) (t0 : Int) (d0 : 0 ≤ t0 ∧ t0 ≤ 1) : z_T (fX10_startsUnit_J63 fu s t0) (P_X10_startsUnit_191 r0) := by
  refine T_of (fX10_startsUnit_J63.eq_1 ..) ?_
  refine T_if1 (by unfold z_bl; omega) ?_
  exact T_ret ⟨c, f, ⟨t0, rfl, by omega, by omega⟩⟩
theorem sj_X10_startsUnit_191_J58 {fu : Nat} (hfu : 8589934592 ≤ fu) (r0 s : z_M) (c : z_CI s) (f : z_Fr R_X10_startsUnit_191 r0 s) : z_T (fX10_startsUnit_J58 fu s) (P_X10_startsUnit_191 r0) := by
  refine T_of (fX10_startsUnit_J58.eq_1 ..) ?_
  exact sj_X10_startsUnit_191_J63 hfu r0 s c f 1 (by omega)
theorem sj_X10_startsUnit_191_J43 {fu : Nat} (hfu : 8589934592 ≤ fu) (r0 s : z_M) (c : z_CI s) (f : z_Fr R_X10_startsUnit_191 r0 s) (a1 : Int) (a2 : Int) (b1 : -2147483648 ≤ a1 ∧ a1 ≤ 2147483647) (b2 : -2147483648 ≤ a2 ∧ a2 ≤ 2147483647) : z_T (fX10_startsUnit_J43 fu s 191 a1 a2) (P_X10_startsUnit_191 r0) := by
  refine T_of (fX10_startsUnit_J43.eq_1 ..) ?_
  refine T_ite (fun h1 => ?_) (fun h1 => ?_)
  · exact sj_X10_startsUnit_191_J58 hfu r0 s c f
  · refine T_leq (fun x2 e3 => ?_)
    have w4 := z_wr e3
    refine T_if1 (by decide +kernel) ?_
    refine T_useI (sf_X10_kindAt_191 hfu s c x2 (by omega)) (fun v10 s5 hq => ?_)
    obtain ⟨c6, f7, ⟨x9, rfl, b11, b12⟩⟩ := hq
    refine T_vI ?_
    have f8 := z_Fr.tr (R := R_X10_startsUnit_191) f f7 (fun a b h => absurd h not_false)
    refine T_ite (fun h13 => ?_) (fun h13 => ?_)
    · exact sj_X10_startsUnit_191_J63 hfu r0 s5 c6 f8 0 (by omega)
    · exact sj_X10_startsUnit_191_J58 hfu r0 s5 c6 f8
theorem sj_X10_startsUnit_191_J32 {fu : Nat} (hfu : 8589934592 ≤ fu) (r0 s : z_M) (c : z_CI s) (f : z_Fr R_X10_startsUnit_191 r0 s) (t0 : Int) (d0 : 0 ≤ t0 ∧ t0 ≤ 1) : z_T (fX10_startsUnit_J32 fu s t0) (P_X10_startsUnit_191 r0) := by
  refine T_of (fX10_startsUnit_J32.eq_1 ..) ?_
  refine T_if1 (by unfold z_bl; omega) ?_
  exact T_ret ⟨c, f, ⟨t0, rfl, by omega, by omega⟩⟩
theorem sf_X10_startsUnit_191 {fu : Nat} (hfu : 8589934592 ≤ fu) (r0 : z_M) (c0 : z_CI r0) (a1 : Int) (b1 : -2147483648 ≤ a1 ∧ a1 ≤ 2147483647) : z_T (fX10_startsUnit fu r0 191 a1) (P_X10_startsUnit_191 r0) := by
  refine T_of (fX10_startsUnit.eq_1 ..) ?_
  refine T_if1 (by decide +kernel) ?_
  refine T_useI (sf_X10_kindAt_191 hfu r0 c0 a1 (by omega)) (fun v6 s1 hq => ?_)
  obtain ⟨c2, f3, ⟨x5, rfl, b7, b8⟩⟩ := hq
  refine T_vI ?_
  have f4 := z_Fr.tr (R := R_X10_startsUnit_191) z_Fr.rf f3 (fun a b h => absurd h not_false)
  refine T_ite (fun h9 => ?_) (fun h9 => ?_)
  · refine T_ite (fun h10 => ?_) (fun h10 => ?_)
    · exact sj_X10_startsUnit_191_J43 hfu r0 s1 c2 f4 a1 x5 (by omega) (by omega)
    · refine T_ite (fun h11 => ?_) (fun h11 => ?_)
      · exact sj_X10_startsUnit_191_J58 hfu r0 s1 c2 f4
      · exact sj_X10_startsUnit_191_J43 hfu r0 s1 c2 f4 a1 x5 (by omega) (by omega)
  · refine T_if1 (by decide +kernel) ?_
    refine T_let 6 (by decide +kernel) ?_
    refine T_if1 (by decide +kernel) ?_
    refine T_let 13 (by decide +kernel) ?_
    refine T_if1 (by decide +kernel) ?_
    refine T_get (by decide +kernel) (c := 14) (by decide +kernel) bdr_14 (by decide) c2 (fun x12 e13 b14 w15 => ?_)
    have l16 : z_ln 13 = 200 := by decide +kernel
    refine T_ite (fun h17 => ?_) (fun h17 => ?_)
    · exact sj_X10_startsUnit_191_J32 hfu r0 s1 c2 f4 0 (by omega)
    · exact sj_X10_startsUnit_191_J32 hfu r0 s1 c2 f4 1 (by omega)
abbrev R_X10_split_191 (a b : Int) : Prop := (193 ≤ a ∧ a ≤ 197) ∨ (215 ≤ a ∧ a ≤ 215) ∨ (a = 191 ∧ (b = 16))
abbrev P_X10_split_191 (r0 : z_M) : z_V → z_M → Prop := fun v s' => z_CI s' ∧ z_Fr R_X10_split_191 r0 s' ∧ (z_U s' (s' 6 6)) ∧ (v = vN)
theorem sj_X10_split_191_J76 {fu : Nat} (hfu : 8589934592 ≤ fu) (r0 s : z_M) (c : z_CI s) (f : z_Fr R_X10_split_191 r0 s) (a1 : Int) (b1 : 0 ≤ a1 ∧ a1 ≤ 2147483646) (p0 : 0 ≤ s 191 16) (p1 : s 191 16 ≤ a1 + 1) (p2 : a1 + 1 ≤ s 6 6) (zu : z_U s a1) (M : Int) (pm : 2147483647 - a1 ≤ M) {r : z_M → Int → z_O} {k : z_M → z_O} (hr : ∀ (s' : z_M) (v1 : Int), z_CI s' → z_Fr R_X10_split_191 r0 s' → (0 ≤ v1 ∧ v1 ≤ 2147483647) → (0 ≤ s' 191 16) → (s' 191 16 ≤ v1) → (v1 ≤ s' 6 6) → z_U s' v1 → (2147483647 - v1 < M) → z_T (r s' v1) (P_X10_split_191 r0)) (hk : ∀ (s' : z_M), z_CI s' → z_Fr R_X10_split_191 r0 s' → z_U s' (s' 6 6) → z_T (k s') (P_X10_split_191 r0)) : z_T (fX10_split_J76 fu s 191 a1 r k) (P_X10_split_191 r0) := by
  refine T_of (fX10_split_J76.eq_1 ..) ?_
  have u1 := CI_b c (k := 6) (j := 6) bd_6_6
  have u2 := CI_b c (k := 191) (j := 16) bd_191_16
  refine T_if1 (by decide +kernel) ?_
  refine T_let 196 (by decide +kernel) ?_
  refine T_if1 (by decide +kernel) ?_
  refine T_leq (fun x3 e4 => ?_)
  have u5 := CI_b c (k := 191) (j := 16) bd_191_16
  refine T_leq (fun x6 e7 => ?_)
  have w8 := z_wb e7
  refine T_if1 (by decide +kernel) ?_
  refine T_add (by decide +kernel) (c := 197) (by decide +kernel) bdr_197 c (fun s9 e12 c10 g13 => ?_)
  have f11 := z_Fr.up (R := R_X10_split_191) f g13 (fun _ => (Or.inl (⟨by decide, by decide⟩)))
  have t14 : s9 6 6 = s 6 6 := g13 6 6 (by decide)
  have t15 : s9 191 16 = s 191 16 := g13 191 16 (by decide)
  have zu1 := zu.add (by omega) e12
  refine T_if1 (by decide +kernel) ?_
  refine T_let 214 (by decide +kernel) ?_
  refine T_if1 (by decide +kernel) ?_
  refine T_leq (fun x16 e17 => ?_)
  have u18 := CI_b c10 (k := 191) (j := 16) bd_191_16
  refine T_leq (fun x19 e20 => ?_)
  have w21 := z_wb e20
  refine T_if1 (by decide +kernel) ?_
  refine T_put (by decide +kernel) (c := 215) (by decide +kernel) bdr_215 (by omega) c10 (fun s22 e25 c23 g26 => ?_)
  have f24 := z_Fr.up (R := R_X10_split_191) f11 g26 (fun _ => (Or.inr (Or.inl (⟨by decide, by decide⟩))))
  have t27 : s22 6 6 = s9 6 6 := g26 6 6 (by decide)
  have t28 : s22 191 16 = s9 191 16 := g26 191 16 (by decide)
  refine T_leq (fun x29 e30 => ?_)
  have w31 := z_wb e30
  have zu2 := zu1.to (g26 191 16 (by decide)) (fun b => g26 195 b (by decide)) (fun b => g26 197 b (by decide))
  exact hr s22 x29 c23 f24 (by omega) (by omega) (by omega) (by omega) (by rw [show x29 = a1 + 1 by omega]; exact zu2) (by omega)
theorem sl_X10_split_191_L7 {fu : Nat} (hfu : 8589934592 ≤ fu) (r0 : z_M) {k : z_M → z_O} (hk : ∀ (s' : z_M), z_CI s' → z_Fr R_X10_split_191 r0 s' → z_U s' (s' 6 6) → z_T (k s') (P_X10_split_191 r0)) : ∀ (F : Nat) (s : z_M) (a1 : Int), z_CI s → z_Fr R_X10_split_191 r0 s → (0 ≤ a1 ∧ a1 ≤ 2147483647) → (0 ≤ s 191 16) → (s 191 16 ≤ a1) → (a1 ≤ s 6 6) → z_U s a1 → (2147483647 - a1 < (F : Int)) → z_T (fX10_split_L7 fu 191 F s a1 k) (P_X10_split_191 r0) := by
  intro F
  induction F with
  | zero =>
    intro s a1 c f b1 i0 i1 i2 zu hm
    have u71 := CI_b c (k := 6) (j := 6) bd_6_6
    have u72 := CI_b c (k := 191) (j := 16) bd_191_16
    exfalso; omega
  | succ F ih =>
    intro s a1 c f b1 i0 i1 i2 zu hm
    refine T_of (fX10_split_L7.eq_2 ..) ?_
    have u1 := CI_b c (k := 6) (j := 6) bd_6_6
    have u2 := CI_b c (k := 191) (j := 16) bd_191_16
    refine T_if1 (by decide +kernel) ?_
    refine T_let 6 (by decide +kernel) ?_
    refine T_if1 (by decide +kernel) ?_
    refine T_leq (fun x3 e4 => ?_)
    have u5 := CI_b c (k := 6) (j := 6) bd_6_6
    refine T_ite (fun h6 => ?_) (fun h6 => ?_)
    · exact hk s c f (by rw [show s 6 6 = a1 by omega]; exact zu)
    · refine T_if1 (by decide +kernel) ?_
      refine T_useI (sf_X10_startsUnit_191 hfu s c a1 (by omega)) (fun v12 s7 hq => ?_)
      obtain ⟨c8, f9, ⟨x11, rfl, b13, b14⟩⟩ := hq
      refine T_vI ?_
      have f10 := z_Fr.tr (R := R_X10_split_191) f f9 (fun a b h => absurd h not_false)
      have t15 : s7 6 6 = s 6 6 := f9 6 6 (by decide)
      have t16 : s7 191 16 = s 191 16 := f9 191 16 (by decide)
      refine T_ite (fun h17 => ?_) (fun h17 => ?_)
      · exact sj_X10_split_191_J76 hfu r0 s7 c8 f10 a1 (by omega) (by omega) (by omega) (by omega) (zu.to t16 (fun b => f9 195 b not_false) (fun b => f9 197 b not_false)) (2147483647 - a1) (by omega) (fun s' v1 c' f' w1 z0 z1 z2 z3 pg => ih s' v1 c' f' w1 z0 z1 z2 z3 (by omega)) hk
      · refine T_if1 (by decide +kernel) ?_
        refine T_let 192 (by decide +kernel) ?_
        refine T_if1 (by decide +kernel) ?_
        refine T_leq (fun x18 e19 => ?_)
        have u20 := CI_b c8 (k := 191) (j := 16) bd_191_16
        refine T_if1 (by decide +kernel) ?_
        refine T_useI (sf_X10_kindAt_191 hfu s7 c8 a1 (by omega)) (fun v26 s21 hq => ?_)
        obtain ⟨c22, f23, ⟨x25, rfl, b27, b28⟩⟩ := hq
        refine T_vI ?_
        have f24 := z_Fr.tr (R := R_X10_split_191) f10 f23 (fun a b h => absurd h not_false)
        have t29 : s21 6 6 = s7 6 6 := f23 6 6 (by decide)
        have t30 : s21 191 16 = s7 191 16 := f23 191 16 (by decide)
        refine T_if1 (by decide +kernel) ?_
        refine T_put (by decide +kernel) (c := 193) (by decide +kernel) bdr_193 (by omega) c22 (fun s31 e34 c32 g35 => ?_)
        have f33 := z_Fr.up (R := R_X10_split_191) f24 g35 (fun _ => (Or.inl (⟨by decide, by decide⟩)))
        have t36 : s31 6 6 = s21 6 6 := g35 6 6 (by decide)
        have t37 : s31 191 16 = s21 191 16 := g35 191 16 (by decide)
        refine T_if1 (by decide +kernel) ?_
        refine T_let 194 (by decide +kernel) ?_
        refine T_if1 (by decide +kernel) ?_
        refine T_leq (fun x38 e39 => ?_)
        have u40 := CI_b c32 (k := 191) (j := 16) bd_191_16
        refine T_if1 (by decide +kernel) ?_
        refine T_put (by decide +kernel) (c := 195) (by decide +kernel) bdr_195 (by omega) c32 (fun s41 e44 c42 g45 => ?_)
        have f43 := z_Fr.up (R := R_X10_split_191) f33 g45 (fun _ => (Or.inl (⟨by decide, by decide⟩)))
        have t46 : s41 6 6 = s31 6 6 := g45 6 6 (by decide)
        have t47 : s41 191 16 = s31 191 16 := g45 191 16 (by decide)
        refine T_if1 (by decide +kernel) ?_
        refine T_let 196 (by decide +kernel) ?_
        refine T_if1 (by decide +kernel) ?_
        refine T_leq (fun x48 e49 => ?_)
        have u50 := CI_b c42 (k := 191) (j := 16) bd_191_16
        refine T_if1 (by decide +kernel) ?_
        refine T_put (by decide +kernel) (c := 197) (by decide +kernel) bdr_197 (by omega) c42 (fun s51 e54 c52 g55 => ?_)
        have f53 := z_Fr.up (R := R_X10_split_191) f43 g55 (fun _ => (Or.inl (⟨by decide, by decide⟩)))
        have t56 : s51 6 6 = s41 6 6 := g55 6 6 (by decide)
        have t57 : s51 191 16 = s41 191 16 := g55 191 16 (by decide)
        refine T_if1 (by decide +kernel) ?_
        refine T_leq (fun x58 e59 => ?_)
        have u60 := CI_b c52 (k := 191) (j := 16) bd_191_16
        refine T_leq (fun x61 e62 => ?_)
        have w63 := z_wb e62
        refine T_if1 (by decide +kernel) ?_
        refine T_upg c52 bd_191_16 (by omega) (fun s64 c65 g67 g68 e69 => ?_)
        have f66 := z_Fr.upf (R := R_X10_split_191) f53 g67 g68 (Or.inr (Or.inr (⟨rfl, by decide⟩)))
        have t70 : s64 6 6 = s51 6 6 := g67 6 6 (by decide)
        have zu1 := ((zu.to t16 (fun b => f9 195 b not_false) (fun b => f9 197 b not_false)).to t30 (fun b => f23 195 b not_false) (fun b => f23 197 b not_false)).to t37 (fun b => g35 195 b (by decide)) (fun b => g35 197 b (by decide))
        have zu2 : z_U s64 a1 := zu1.new (n := s31 191 16) rfl (by omega) (by omega) (e44.trans (by rw [show s31 191 16 = x38 from e39])) (e54.trans (by rw [show x48 = s31 191 16 by omega])) g67 (by omega)
        exact sj_X10_split_191_J76 hfu r0 s64 c65 f66 a1 (by omega) (by omega) (by omega) (by omega) zu2 (2147483647 - a1) (by omega) (fun s' v1 c' f' w1 z0 z1 z2 z3 pg => ih s' v1 c' f' w1 z0 z1 z2 z3 (by omega)) hk
theorem sf_X10_split_191 {fu : Nat} (hfu : 8589934592 ≤ fu) (r0 : z_M) (c0 : z_CI r0) : z_T (fX10_split fu r0 191) (P_X10_split_191 r0) := by
  refine T_of (fX10_split.eq_1 ..) ?_
  refine T_if1 (by decide +kernel) ?_
  refine T_upg c0 bd_191_16 (by omega) (fun s1 c2 g4 g5 e6 => ?_)
  have f3 := z_Fr.upf (R := R_X10_split_191) z_Fr.rf g4 g5 (Or.inr (Or.inr (⟨rfl, by decide⟩)))
  have t7 : s1 6 6 = r0 6 6 := g4 6 6 (by decide)
  have u9 := CI_b c2 (k := 6) (j := 6) bd_6_6
  refine sl_X10_split_191_L7 hfu r0 (fun s8 c9 f10 zu => ?_) fu s1 0 c2 f3 (by omega) (by omega) (by omega) (by omega) (z_U0 e6) (by omega)
  have u11 := CI_b c9 (k := 6) (j := 6) bd_6_6
  have u12 := CI_b c9 (k := 191) (j := 16) bd_191_16
  exact T_ret ⟨c9, f10, zu, rfl⟩
abbrev R_X10_isAcross_191 (a b : Int) : Prop := False
abbrev P_X10_isAcross_191 (r0 : z_M) : z_V → z_M → Prop := fun v s' => z_CI s' ∧ z_Fr R_X10_isAcross_191 r0 s' ∧ (∃ x, v = vI x ∧ 0 ≤ x ∧ x ≤ 1)
theorem sj_X10_isAcross_191_J48 {fu : Nat} (hfu : 8589934592 ≤ fu) (r0 s : z_M) (c : z_CI s) (f : z_Fr R_X10_isAcross_191 r0 s) (t0 : Int) (d0 : 0 ≤ t0 ∧ t0 ≤ 1) : z_T (fX10_isAcross_J48 fu s t0) (P_X10_isAcross_191 r0) := by
  refine T_of (fX10_isAcross_J48.eq_1 ..) ?_
  refine T_if1 (by unfold z_bl; omega) ?_
  exact T_ret ⟨c, f, ⟨t0, rfl, by omega, by omega⟩⟩
theorem sj_X10_isAcross_191_J47 {fu : Nat} (hfu : 8589934592 ≤ fu) (r0 s : z_M) (c : z_CI s) (f : z_Fr R_X10_isAcross_191 r0 s) : z_T (fX10_isAcross_J47 fu s) (P_X10_isAcross_191 r0) := by
  refine T_of (fX10_isAcross_J47.eq_1 ..) ?_
  exact sj_X10_isAcross_191_J48 hfu r0 s c f 0 (by omega)
theorem sf_X10_isAcross_191 {fu : Nat} (hfu : 8589934592 ≤ fu) (r0 : z_M) (c0 : z_CI r0) (a1 : Int) (b1 : -2147483648 ≤ a1 ∧ a1 ≤ 2147483647) : z_T (fX10_isAcross fu r0 191 a1) (P_X10_isAcross_191 r0) := by
  refine T_of (fX10_isAcross.eq_1 ..) ?_
  refine T_if1 (by decide +kernel) ?_
  refine T_let 192 (by decide +kernel) ?_
  refine T_if1 (by decide +kernel) ?_
  refine T_get (by decide +kernel) (c := 193) (by decide +kernel) bdr_193 (by decide) c0 (fun x1 e2 b3 w4 => ?_)
  have l5 : z_ln 192 = 200 := by decide +kernel
  refine T_ite (fun h6 => ?_) (fun h6 => ?_)
  · exact sj_X10_isAcross_191_J47 hfu r0 r0 c0 z_Fr.rf
  · refine T_if1 (by decide +kernel) ?_
    refine T_let 2 (by decide +kernel) ?_
    refine T_if1 (by decide +kernel) ?_
    refine T_get (by decide +kernel) (c := 3) (by decide +kernel) bdr_3 (by decide) c0 (fun x7 e8 b9 w10 => ?_)
    have l11 : z_ln 2 = 9 := by decide +kernel
    refine T_ite (fun h12 => ?_) (fun h12 => ?_)
    · exact sj_X10_isAcross_191_J47 hfu r0 r0 c0 z_Fr.rf
    · refine T_if1 (by decide +kernel) ?_
      refine T_let 196 (by decide +kernel) ?_
      refine T_if1 (by decide +kernel) ?_
      refine T_get (by decide +kernel) (c := 197) (by decide +kernel) bdr_197 (by decide) c0 (fun x13 e14 b15 w16 => ?_)
      have l17 : z_ln 196 = 200 := by decide +kernel
      refine T_if1 (by decide +kernel) ?_
      refine T_let 2 (by decide +kernel) ?_
      refine T_if1 (by decide +kernel) ?_
      refine T_get (by decide +kernel) (c := 3) (by decide +kernel) bdr_3 (by decide) c0 (fun x18 e19 b20 w21 => ?_)
      have l22 : z_ln 2 = 9 := by decide +kernel
      refine T_ite (fun h23 => ?_) (fun h23 => ?_)
      · exact sj_X10_isAcross_191_J47 hfu r0 r0 c0 z_Fr.rf
      · exact sj_X10_isAcross_191_J48 hfu r0 r0 c0 z_Fr.rf 1 (by omega)
abbrev R_X10_isTurned_191 (a b : Int) : Prop := False
abbrev P_X10_isTurned_191 (r0 : z_M) : z_V → z_M → Prop := fun v s' => z_CI s' ∧ z_Fr R_X10_isTurned_191 r0 s' ∧ (∃ x, v = vI x ∧ 0 ≤ x ∧ x ≤ 1)
theorem sj_X10_isTurned_191_J51 {fu : Nat} (hfu : 8589934592 ≤ fu) (r0 s : z_M) (c : z_CI s) (f : z_Fr R_X10_isTurned_191 r0 s) (t0 : Int) (d0 : 0 ≤ t0 ∧ t0 ≤ 1) : z_T (fX10_isTurned_J51 fu s t0) (P_X10_isTurned_191 r0) := by
  refine T_of (fX10_isTurned_J51.eq_1 ..) ?_
  refine T_if1 (by unfold z_bl; omega) ?_
  exact T_ret ⟨c, f, ⟨t0, rfl, by omega, by omega⟩⟩
theorem sj_X10_isTurned_191_J50 {fu : Nat} (hfu : 8589934592 ≤ fu) (r0 s : z_M) (c : z_CI s) (f : z_Fr R_X10_isTurned_191 r0 s) : z_T (fX10_isTurned_J50 fu s) (P_X10_isTurned_191 r0) := by
  refine T_of (fX10_isTurned_J50.eq_1 ..) ?_
  exact sj_X10_isTurned_191_J51 hfu r0 s c f 0 (by omega)
theorem sj_X10_isTurned_191_J29 {fu : Nat} (hfu : 8589934592 ≤ fu) (r0 s : z_M) (c : z_CI s) (f : z_Fr R_X10_isTurned_191 r0 s) (t0 : Int) (d0 : 0 ≤ t0 ∧ t0 ≤ 1) : z_T (fX10_isTurned_J29 fu s 191 t0) (P_X10_isTurned_191 r0) := by
  refine T_of (fX10_isTurned_J29.eq_1 ..) ?_
  refine T_ite (fun h1 => ?_) (fun h1 => ?_)
  · exact sj_X10_isTurned_191_J50 hfu r0 s c f
  · refine T_if1 (by decide +kernel) ?_
    refine T_let 2 (by decide +kernel) ?_
    refine T_if1 (by decide +kernel) ?_
    refine T_get (by decide +kernel) (c := 3) (by decide +kernel) bdr_3 (by decide) c (fun x2 e3 b4 w5 => ?_)
    have l6 : z_ln 2 = 9 := by decide +kernel
    refine T_ite (fun h7 => ?_) (fun h7 => ?_)
    · exact sj_X10_isTurned_191_J50 hfu r0 s c f
    · exact sj_X10_isTurned_191_J51 hfu r0 s c f 1 (by omega)
theorem sj_X10_isTurned_191_J24 {fu : Nat} (hfu : 8589934592 ≤ fu) (r0 s : z_M) (c : z_CI s) (f : z_Fr R_X10_isTurned_191 r0 s) : z_T (fX10_isTurned_J24 fu s 191) (P_X10_isTurned_191 r0) := by
  refine T_of (fX10_isTurned_J24.eq_1 ..) ?_
  exact sj_X10_isTurned_191_J29 hfu r0 s c f 1 (by omega)
theorem sj_X10_isTurned_191_J14 {fu : Nat} (hfu : 8589934592 ≤ fu) (r0 s : z_M) (c : z_CI s) (f : z_Fr R_X10_isTurned_191 r0 s) (a1 : Int) (b1 : -2147483648 ≤ a1 ∧ a1 ≤ 2147483647) : z_T (fX10_isTurned_J14 fu s 191 a1) (P_X10_isTurned_191 r0) := by
  refine T_of (fX10_isTurned_J14.eq_1 ..) ?_
  refine T_ite (fun h1 => ?_) (fun h1 => ?_)
  · exact sj_X10_isTurned_191_J24 hfu r0 s c f
  · refine T_ite (fun h2 => ?_) (fun h2 => ?_)
    · exact sj_X10_isTurned_191_J29 hfu r0 s c f 0 (by omega)
    · exact sj_X10_isTurned_191_J24 hfu r0 s c f
theorem sf_X10_isTurned_191 {fu : Nat} (hfu : 8589934592 ≤ fu) (r0 : z_M) (c0 : z_CI r0) (a1 : Int) (a2 : Int) (b1 : -2147483648 ≤ a1 ∧ a1 ≤ 2147483647) (b2 : -2147483648 ≤ a2 ∧ a2 ≤ 2147483647) : z_T (fX10_isTurned fu r0 191 a1 a2) (P_X10_isTurned_191 r0) := by
  refine T_of (fX10_isTurned.eq_1 ..) ?_
  refine T_ite (fun h1 => ?_) (fun h1 => ?_)
  · exact sj_X10_isTurned_191_J24 hfu r0 r0 c0 z_Fr.rf
  · refine T_ite (fun h2 => ?_) (fun h2 => ?_)
    · exact sj_X10_isTurned_191_J14 hfu r0 r0 c0 z_Fr.rf a1 (by omega)
    · refine T_ite (fun h3 => ?_) (fun h3 => ?_)
      · exact sj_X10_isTurned_191_J24 hfu r0 r0 c0 z_Fr.rf
      · exact sj_X10_isTurned_191_J14 hfu r0 r0 c0 z_Fr.rf a1 (by omega)
abbrev R_X10_longOfSign (a b : Int) : Prop := False
abbrev P_X10_longOfSign (r0 : z_M) : z_V → z_M → Prop := fun v s' => z_CI s' ∧ z_Fr R_X10_longOfSign r0 s' ∧ (∃ x, v = vI x ∧ -2147483648 ≤ x ∧ x ≤ 2147483647)
theorem sj_X10_longOfSign_J10 {fu : Nat} (hfu : 8589934592 ≤ fu) (r0 s : z_M) (c : z_CI s) (f : z_Fr R_X10_longOfSign r0 s) : z_T (fX10_longOfSign_J10 fu s) (P_X10_longOfSign r0) := by
  refine T_of (fX10_longOfSign_J10.eq_1 ..) ?_
  exact T_ret ⟨c, f, ⟨12, rfl, by omega, by omega⟩⟩
theorem sj_X10_longOfSign_J37 {fu : Nat} (hfu : 8589934592 ≤ fu) (r0 s : z_M) (c : z_CI s) (f : z_Fr R_X10_longOfSign r0 s) : z_T (fX10_longOfSign_J37 fu s) (P_X10_longOfSign r0) := by
  refine T_of (fX10_longOfSign_J37.eq_1 ..) ?_
  exact T_ret ⟨c, f, ⟨4, rfl, by omega, by omega⟩⟩
theorem sj_X10_longOfSign_J58 {fu : Nat} (hfu : 8589934592 ≤ fu) (r0 s : z_M) (c : z_CI s) (f : z_Fr R_X10_longOfSign r0 s) (t0 : Int) (d0 : 6 ≤ t0 ∧ t0 ≤ 9) : z_T (fX10_longOfSign_J58 fu s t0) (P_X10_longOfSign r0) := by
  refine T_of (fX10_longOfSign_J58.eq_1 ..) ?_
  exact T_ret ⟨c, f, ⟨t0, rfl, by omega, by omega⟩⟩
theorem sj_X10_longOfSign_J51 {fu : Nat} (hfu : 8589934592 ≤ fu) (r0 s : z_M) (c : z_CI s) (f : z_Fr R_X10_longOfSign r0 s) : z_T (fX10_longOfSign_J51 fu s) (P_X10_longOfSign r0) := by
  refine T_of (fX10_longOfSign_J51.eq_1 ..) ?_
  exact sj_X10_longOfSign_J58 hfu r0 s c f 9 (by omega)
theorem sf_X10_longOfSign {fu : Nat} (hfu : 8589934592 ≤ fu) (r0 : z_M) (c0 : z_CI r0) (a0 : Int) (a1 : Int) (b0 : -2147483648 ≤ a0 ∧ a0 ≤ 2147483647) (b1 : -2147483648 ≤ a1 ∧ a1 ≤ 2147483647) : z_T (fX10_longOfSign fu r0 a0 a1) (P_X10_longOfSign r0) := by
  refine T_of (fX10_longOfSign.eq_1 ..) ?_
  refine T_ite (fun h1 => ?_) (fun h1 => ?_)
  · exact sj_X10_longOfSign_J10 hfu r0 r0 c0 z_Fr.rf
  · refine T_ite (fun h2 => ?_) (fun h2 => ?_)
    · refine T_ite (fun h3 => ?_) (fun h3 => ?_)
      · exact sj_X10_longOfSign_J37 hfu r0 r0 c0 z_Fr.rf
      · refine T_ite (fun h4 => ?_) (fun h4 => ?_)
        · exact sj_X10_longOfSign_J37 hfu r0 r0 c0 z_Fr.rf
        · refine T_ite (fun h5 => ?_) (fun h5 => ?_)
          · exact sj_X10_longOfSign_J37 hfu r0 r0 c0 z_Fr.rf
          · refine T_ite (fun h6 => ?_) (fun h6 => ?_)
            · refine T_ite (fun h7 => ?_) (fun h7 => ?_)
              · exact sj_X10_longOfSign_J51 hfu r0 r0 c0 z_Fr.rf
              · refine T_ite (fun h8 => ?_) (fun h8 => ?_)
                · exact sj_X10_longOfSign_J58 hfu r0 r0 c0 z_Fr.rf 6 (by omega)
                · exact sj_X10_longOfSign_J51 hfu r0 r0 c0 z_Fr.rf
            · exact sj_X10_longOfSign_J37 hfu r0 r0 c0 z_Fr.rf
    · exact sj_X10_longOfSign_J10 hfu r0 r0 c0 z_Fr.rf
abbrev R_X9_letterCount_6 (a b : Int) : Prop := False
abbrev P_X9_letterCount_6 (r0 : z_M) : z_V → z_M → Prop := fun v s' => z_CI s' ∧ z_Fr R_X9_letterCount_6 r0 s' ∧ (∃ x, v = vI x ∧ -2147483648 ≤ x ∧ x ≤ 2147483647)
theorem sf_X9_letterCount_6 {fu : Nat} (hfu : 8589934592 ≤ fu) (r0 : z_M) (c0 : z_CI r0) (a1 : Int) (a2 : Int) (b1 : -2147483648 ≤ a1 ∧ a1 ≤ 2147483647) (b2 : -2147483648 ≤ a2 ∧ a2 ≤ 2147483647) : z_T (fX9_letterCount fu r0 6 a1 a2) (P_X9_letterCount_6 r0) := by
  refine T_of (fX9_letterCount.eq_1 ..) ?_
  refine T_if1 (by decide +kernel) ?_
  refine T_bR ?_
  refine T_of (fX9_readings.eq_1 ..) ?_
  refine T_ite (fun h1 => ?_) (fun h1 => ?_)
  · refine T_if1 (by decide +kernel) ?_
    refine T_let 17 (by decide +kernel) ?_
    refine T_of (fX9_readings_J15.eq_1 ..) ?_
    refine T_rR ?_
    refine T_if1 (by decide +kernel) ?_
    refine T_lget (by decide +kernel) (c := 18) (by decide +kernel) bdr_18 (by decide) c0 (fun x2 e3 b4 => ?_)
    refine T_leq (fun x6 e7 => ?_)
    have w8 : -9223372036854775808 ≤ x6 ∧ x6 ≤ 9223372036854775807 := by rw [← e7]; exact z_i64b _
    refine T_leq (fun x9 e10 => ?_)
    have w11 := z_wr e10
    exact T_ret ⟨c0, z_Fr.rf, ⟨x9, rfl, by omega, by omega⟩⟩
  · refine T_if1 (by decide +kernel) ?_
    refine T_let 15 (by decide +kernel) ?_
    refine T_of (fX9_readings_J15.eq_1 ..) ?_
    refine T_rR ?_
    refine T_if1 (by decide +kernel) ?_
    refine T_lget (by decide +kernel) (c := 16) (by decide +kernel) bdr_16 (by decide) c0 (fun x12 e13 b14 => ?_)
    refine T_leq (fun x16 e17 => ?_)
    have w18 : -9223372036854775808 ≤ x16 ∧ x16 ≤ 9223372036854775807 := by rw [← e17]; exact z_i64b _
    refine T_leq (fun x19 e20 => ?_)
    have w21 := z_wr e20
    exact T_ret ⟨c0, z_Fr.rf, ⟨x19, rfl, by omega, by omega⟩⟩
abbrev R_X10_measureUnit_191 (a b : Int) : Prop := (199 ≤ a ∧ a ≤ 205) ∨ (217 ≤ a ∧ a ≤ 219)
abbrev P_X10_measureUnit_191 (r0 : z_M) : z_V → z_M → Prop := fun v s' => z_CI s' ∧ z_Fr R_X10_measureUnit_191 r0 s' ∧ (v = vN)
theorem sj_X10_measureUnit_191_J96 {fu : Nat} (hfu : 8589934592 ≤ fu) (r0 s : z_M) (c : z_CI s) (f : z_Fr R_X10_measureUnit_191 r0 s) (a1 : Int) (a2 : Int) (a3 : Int) (a4 : Int) (a5 : Int) (a6 : Int) (a7 : Int) (t0 : Int) (b1 : -2147483648 ≤ a1 ∧ a1 ≤ 2147483647) (b2 : -2147483648 ≤ a2 ∧ a2 ≤ 2147483647) (b3 : -2147483648 ≤ a3 ∧ a3 ≤ 2147483647) (b4 : -2147483648 ≤ a4 ∧ a4 ≤ 2147483647) (b5 : -2147483648 ≤ a5 ∧ a5 ≤ 2147483647) (b6 : -2147483648 ≤ a6 ∧ a6 ≤ 2147483647) (b7 : -2147483648 ≤ a7 ∧ a7 ≤ 2147483646) (d0 : -2147483648 ≤ t0 ∧ t0 ≤ 2147483647) (M : Int) (pm : 2147483647 - a7 ≤ M) {r : z_M → Int → Int → z_O} {k : z_M → Int → z_O} (hr : ∀ (s' : z_M) (v6 : Int) (v7 : Int), z_CI s' → z_Fr R_X10_measureUnit_191 r0 s' → (-2147483648 ≤ v6 ∧ v6 ≤ 2147483647) → (-2147483648 ≤ v7 ∧ v7 ≤ 2147483647) → (2147483647 - v7 < M) → z_T (r s' v6 v7) (P_X10_measureUnit_191 r0)) (hk : ∀ (s' : z_M) (v6 : Int), z_CI s' → z_Fr R_X10_measureUnit_191 r0 s' → (-2147483648 ≤ v6 ∧ v6 ≤ 2147483647) → z_T (k s' v6) (P_X10_measureUnit_191 r0)) : z_T (fX10_measureUnit_J96 fu s 191 a1 a2 a3 a4 a5 a6 a7 t0 r k) (P_X10_measureUnit_191 r0) := by
  refine T_of (fX10_measureUnit_J96.eq_1 ..) ?_
  refine T_if1 (by decide +kernel) ?_
  refine T_let 216 (by decide +kernel) ?_
  refine T_if1 (by decide +kernel) ?_
  refine T_put (by decide +kernel) (c := 217) (by decide +kernel) bdr_217 (by omega) c (fun s1 e4 c2 g5 => ?_)
  have f3 := z_Fr.up (R := R_X10_measureUnit_191) f g5 (fun _ => (Or.inr (⟨by decide, by decide⟩)))
  refine T_if1 (by decide +kernel) ?_
  refine T_let 218 (by decide +kernel) ?_
  refine T_if1 (by decide +kernel) ?_
  refine T_put (by decide +kernel) (c := 219) (by decide +kernel) bdr_219 (by omega) c2 (fun s6 e9 c7 g10 => ?_)
  have f8 := z_Fr.up (R := R_X10_measureUnit_191) f3 g10 (fun _ => (Or.inr (⟨by decide, by decide⟩)))
  refine T_leq (fun x11 e12 => ?_)
  have w13 := z_wr e12
  refine T_leq (fun x14 e15 => ?_)
  have w16 := z_wb e15
  exact hr s6 x11 x14 c7 f8 (by omega) (by omega) (by omega)
theorem sl_X10_measureUnit_191_L55 {fu : Nat} (hfu : 8589934592 ≤ fu) (r0 : z_M) (a1 : Int) (a2 : Int) (a3 : Int) (a4 : Int) (a5 : Int) (b1 : -2147483648 ≤ a1 ∧ a1 ≤ 2147483647) (b2 : -2147483648 ≤ a2 ∧ a2 ≤ 2147483647) (b3 : -2147483648 ≤ a3 ∧ a3 ≤ 2147483647) (b4 : -2147483648 ≤ a4 ∧ a4 ≤ 2147483647) (b5 : -2147483648 ≤ a5 ∧ a5 ≤ 2147483647) {k : z_M → Int → z_O} (hk : ∀ (s' : z_M) (v6 : Int), z_CI s' → z_Fr R_X10_measureUnit_191 r0 s' → (-2147483648 ≤ v6 ∧ v6 ≤ 2147483647) → z_T (k s' v6) (P_X10_measureUnit_191 r0)) : ∀ (F : Nat) (s : z_M) (a6 : Int) (a7 : Int), z_CI s → z_Fr R_X10_measureUnit_191 r0 s → (-2147483648 ≤ a6 ∧ a6 ≤ 2147483647) → (-2147483648 ≤ a7 ∧ a7 ≤ 2147483647) → (2147483647 - a7 < (F : Int)) → z_T (fX10_measureUnit_L55 fu 191 a1 a2 a3 a4 a5 F s a6 a7 k) (P_X10_measureUnit_191 r0) := by
  intro F
  induction F with
  | zero =>
    intro s a6 a7 c f b6 b7 hm
    exfalso; omega
  | succ F ih =>
    intro s a6 a7 c f b6 b7 hm
    refine T_of (fX10_measureUnit_L55.eq_2 ..) ?_
    refine T_leq (fun x1 e2 => ?_)
    have w3 := z_wr e2
    refine T_ite (fun h4 => ?_) (fun h4 => ?_)
    · exact hk s a6 c f (by omega)
    · refine T_ite (fun h5 => ?_) (fun h5 => ?_)
      · refine T_if1 (by decide +kernel) ?_
        refine T_let 192 (by decide +kernel) ?_
        refine T_if1 (by decide +kernel) ?_
        refine T_get (by decide +kernel) (c := 193) (by decide +kernel) bdr_193 (by decide) c (fun x6 e7 b8 w9 => ?_)
        have l10 : z_ln 192 = 200 := by decide +kernel
        refine T_if1 (by decide +kernel) ?_
        refine T_let 6 (by decide +kernel) ?_
        refine T_if1 (by decide +kernel) ?_
        refine T_let 7 (by decide +kernel) ?_
        refine T_if1 (by decide +kernel) ?_
        refine T_get (by decide +kernel) (c := 8) (by decide +kernel) bdr_8 (by decide) c (fun x11 e12 b13 w14 => ?_)
        have l15 : z_ln 7 = 200 := by decide +kernel
        refine T_useI (sf_X10_longOfSign hfu s c x6 x11 (by omega) (by omega)) (fun v21 s16 hq => ?_)
        obtain ⟨c17, f18, ⟨x20, rfl, b22, b23⟩⟩ := hq
        refine T_vI ?_
        have f19 := z_Fr.tr (R := R_X10_measureUnit_191) f f18 (fun a b h => absurd h not_false)
        exact sj_X10_measureUnit_191_J96 hfu r0 s16 c17 f19 a1 a2 a3 a4 a5 a6 a7 x20 (by omega) (by omega) (by omega) (by omega) (by omega) (by omega) (by omega) (by omega) (2147483647 - a7) (by omega) (fun s' v6 v7 c' f' w6 w7 pg => ih s' v6 v7 c' f' w6 w7 (by omega)) hk
      · exact sj_X10_measureUnit_191_J96 hfu r0 s c f a1 a2 a3 a4 a5 a6 a7 12 (by omega) (by omega) (by omega) (by omega) (by omega) (by omega) (by omega) (by omega) (2147483647 - a7) (by omega) (fun s' v6 v7 c' f' w6 w7 pg => ih s' v6 v7 c' f' w6 w7 (by omega)) hk
theorem sj_X10_measureUnit_191_J150 {fu : Nat} (hfu : 8589934592 ≤ fu) (r0 s : z_M) (c : z_CI s) (f : z_Fr R_X10_measureUnit_191 r0 s) (a1 : Int) (a2 : Int) (t1 : Int) (t2 : Int) (b1 : -2147483648 ≤ a1 ∧ a1 ≤ 2147483647) (b2 : -2147483648 ≤ a2 ∧ a2 ≤ 2147483647) (d1 : -2147483648 ≤ t1 ∧ t1 ≤ 2147483647) (d2 : -2147483648 ≤ t2 ∧ t2 ≤ 2147483647) : z_T (fX10_measureUnit_J150 fu s 191 a1 a2 198 t1 t2) (P_X10_measureUnit_191 r0) := by
  refine T_of (fX10_measureUnit_J150.eq_1 ..) ?_
  refine T_if1 (by decide +kernel) ?_
  refine T_put (by decide +kernel) (c := 199) (by decide +kernel) bdr_199 (by omega) c (fun s1 e4 c2 g5 => ?_)
  have f3 := z_Fr.up (R := R_X10_measureUnit_191) f g5 (fun _ => (Or.inl (⟨by decide, by decide⟩)))
  refine T_if1 (by decide +kernel) ?_
  refine T_let 200 (by decide +kernel) ?_
  refine T_if1 (by decide +kernel) ?_
  refine T_let 6 (by decide +kernel) ?_
  refine T_if1 (by decide +kernel) ?_
  refine T_let 11 (by decide +kernel) ?_
  refine T_if1 (by decide +kernel) ?_
  refine T_get (by decide +kernel) (c := 12) (by decide +kernel) bdr_12 (by decide) c2 (fun x6 e7 b8 w9 => ?_)
  have l10 : z_ln 11 = 200 := by decide +kernel
  refine T_if1 (by decide +kernel) ?_
  refine T_put (by decide +kernel) (c := 201) (by decide +kernel) bdr_201 (by omega) c2 (fun s11 e14 c12 g15 => ?_)
  have f13 := z_Fr.up (R := R_X10_measureUnit_191) f3 g15 (fun _ => (Or.inl (⟨by decide, by decide⟩)))
  refine T_if1 (by decide +kernel) ?_
  refine T_let 202 (by decide +kernel) ?_
  refine T_if1 (by decide +kernel) ?_
  refine T_let 6 (by decide +kernel) ?_
  refine T_if1 (by decide +kernel) ?_
  refine T_useI (sf_X9_letterCount_6 hfu s11 c12 0 a2 (by omega) (by omega)) (fun v21 s16 hq => ?_)
  obtain ⟨c17, f18, ⟨x20, rfl, b22, b23⟩⟩ := hq
  refine T_vI ?_
  have f19 := z_Fr.tr (R := R_X10_measureUnit_191) f13 f18 (fun a b h => absurd h not_false)
  refine T_if1 (by decide +kernel) ?_
  refine T_put (by decide +kernel) (c := 203) (by decide +kernel) bdr_203 (by omega) c17 (fun s24 e27 c25 g28 => ?_)
  have f26 := z_Fr.up (R := R_X10_measureUnit_191) f19 g28 (fun _ => (Or.inl (⟨by decide, by decide⟩)))
  refine T_if1 (by decide +kernel) ?_
  refine T_let 204 (by decide +kernel) ?_
  refine T_if1 (by decide +kernel) ?_
  refine T_let 6 (by decide +kernel) ?_
  refine T_if1 (by decide +kernel) ?_
  refine T_useI (sf_X9_letterCount_6 hfu s24 c25 1 a2 (by omega) (by omega)) (fun v34 s29 hq => ?_)
  obtain ⟨c30, f31, ⟨x33, rfl, b35, b36⟩⟩ := hq
  refine T_vI ?_
  have f32 := z_Fr.tr (R := R_X10_measureUnit_191) f26 f31 (fun a b h => absurd h not_false)
  refine T_if1 (by decide +kernel) ?_
  refine T_put (by decide +kernel) (c := 205) (by decide +kernel) bdr_205 (by omega) c30 (fun s37 e40 c38 g41 => ?_)
  have f39 := z_Fr.up (R := R_X10_measureUnit_191) f32 g41 (fun _ => (Or.inl (⟨by decide, by decide⟩)))
  exact T_ret ⟨c38, f39, rfl⟩
theorem sj_X10_measureUnit_191_J47 {fu : Nat} (hfu : 8589934592 ≤ fu) (r0 s : z_M) (c : z_CI s) (f : z_Fr R_X10_measureUnit_191 r0 s) (a1 : Int) (a2 : Int) (a3 : Int) (a4 : Int) (t0 : Int) (b1 : -2147483648 ≤ a1 ∧ a1 ≤ 2147483647) (b2 : -2147483648 ≤ a2 ∧ a2 ≤ 2147483647) (b3 : -2147483648 ≤ a3 ∧ a3 ≤ 2147483647) (b4 : -2147483648 ≤ a4 ∧ a4 ≤ 2147483647) (d0 : 0 ≤ t0 ∧ t0 ≤ 1) : z_T (fX10_measureUnit_J47 fu s 191 a1 a2 a3 a4 t0) (P_X10_measureUnit_191 r0) := by
  refine T_of (fX10_measureUnit_J47.eq_1 ..) ?_
  refine sl_X10_measureUnit_191_L55 hfu r0 a1 a2 a3 a4 t0 (by omega) (by omega) (by omega) (by omega) (by omega) (fun s1 y4 c2 f3 b5 => ?_) fu s 0 a2 c f (by omega) (by omega) (by omega)
  refine T_if1 (by decide +kernel) ?_
  refine T_let 198 (by decide +kernel) ?_
  refine T_ite (fun h6 => ?_) (fun h6 => ?_)
  · exact sj_X10_measureUnit_191_J150 hfu r0 s1 c2 f3 a1 a2 a1 y4 (by omega) (by omega) (by omega) (by omega)
  · exact sj_X10_measureUnit_191_J150 hfu r0 s1 c2 f3 a1 a2 a1 12 (by omega) (by omega) (by omega) (by omega)
theorem sf_X10_measureUnit_191 {fu : Nat} (hfu : 8589934592 ≤ fu) (r0 : z_M) (c0 : z_CI r0) (a1 : Int) (b1 : -2147483648 ≤ a1 ∧ a1 ≤ 2147483647) : z_T (fX10_measureUnit fu r0 191 a1) (P_X10_measureUnit_191 r0) := by
  refine T_of (fX10_measureUnit.eq_1 ..) ?_
  refine T_if1 (by decide +kernel) ?_
  refine T_let 194 (by decide +kernel) ?_
  refine T_if1 (by decide +kernel) ?_
  refine T_get (by decide +kernel) (c := 195) (by decide +kernel) bdr_195 (by decide) c0 (fun x1 e2 b3 w4 => ?_)
  have l5 : z_ln 194 = 200 := by decide +kernel
  refine T_if1 (by decide +kernel) ?_
  refine T_let 196 (by decide +kernel) ?_
  refine T_if1 (by decide +kernel) ?_
  refine T_get (by decide +kernel) (c := 197) (by decide +kernel) bdr_197 (by decide) c0 (fun x6 e7 b8 w9 => ?_)
  have l10 : z_ln 196 = 200 := by decide +kernel
  refine T_if1 (by decide +kernel) ?_
  refine T_useI (sf_X10_isAcross_191 hfu r0 c0 a1 (by omega)) (fun v16 s11 hq => ?_)
  obtain ⟨c12, f13, ⟨x15, rfl, b17, b18⟩⟩ := hq
  refine T_vI ?_
  have f14 := z_Fr.tr (R := R_X10_measureUnit_191) z_Fr.rf f13 (fun a b h => absurd h not_false)
  refine T_if1 (by decide +kernel) ?_
  refine T_let 192 (by decide +kernel) ?_
  refine T_if1 (by decide +kernel) ?_
  refine T_get (by decide +kernel) (c := 193) (by decide +kernel) bdr_193 (by decide) c12 (fun x19 e20 b21 w22 => ?_)
  have l23 : z_ln 192 = 200 := by decide +kernel
  refine T_if1 (by decide +kernel) ?_
  refine T_useI (sf_X10_isTurned_191 hfu s11 c12 x19 x15 (by omega) (by omega)) (fun v29 s24 hq => ?_)
  obtain ⟨c25, f26, ⟨x28, rfl, b30, b31⟩⟩ := hq
  refine T_vI ?_
  have f27 := z_Fr.tr (R := R_X10_measureUnit_191) f14 f26 (fun a b h => absurd h not_false)
  refine T_ite (fun h32 => ?_) (fun h32 => ?_)
  · exact sj_X10_measureUnit_191_J47 hfu r0 s24 c25 f27 a1 x1 x6 x15 0 (by omega) (by omega) (by omega) (by omega) (by omega)
  · exact sj_X10_measureUnit_191_J47 hfu r0 s24 c25 f27 a1 x1 x6 x15 1 (by omega) (by omega) (by omega) (by omega) (by omega)
abbrev R_X10_addUp_191 (a b : Int) : Prop := (211 ≤ a ∧ a ≤ 213)
abbrev P_X10_addUp_191 (r0 : z_M) : z_V → z_M → Prop := fun v s' => z_CI s' ∧ z_Fr R_X10_addUp_191 r0 s' ∧ (v = vN)
theorem sj_X10_addUp_191_J99 {fu : Nat} (hfu : 8589934592 ≤ fu) (r0 s : z_M) (c : z_CI s) (f : z_Fr R_X10_addUp_191 r0 s) (a1 : Int) (t1 : Int) (t2 : Int) (t3 : Int) (b1 : -2147483648 ≤ a1 ∧ a1 ≤ 2147483646) (d1 : -2147483648 ≤ t1 ∧ t1 ≤ 2147483647) (d2 : -2147483648 ≤ t2 ∧ t2 ≤ 2147483647) (d3 : -2147483648 ≤ t3 ∧ t3 ≤ 2147483647) (M : Int) (pm : 2147483647 - a1 ≤ M) {r : z_M → Int → z_O} {k : z_M → z_O} (hr : ∀ (s' : z_M) (v1 : Int), z_CI s' → z_Fr R_X10_addUp_191 r0 s' → (-2147483648 ≤ v1 ∧ v1 ≤ 2147483647) → (2147483647 - v1 < M) → z_T (r s' v1) (P_X10_addUp_191 r0)) (hk : ∀ (s' : z_M), z_CI s' → z_Fr R_X10_addUp_191 r0 s' → z_T (k s') (P_X10_addUp_191 r0)) : z_T (fX10_addUp_J99 fu s 191 a1 212 t1 t2 t3 r k) (P_X10_addUp_191 r0) := by
  refine T_of (fX10_addUp_J99.eq_1 ..) ?_
  have u1 := CI_b c (k := 191) (j := 16) bd_191_16
  refine T_leq (fun x2 e3 => ?_)
  have w4 := z_wr e3
  refine T_if1 (by decide +kernel) ?_
  refine T_put (by decide +kernel) (c := 213) (by decide +kernel) bdr_213 (by omega) c (fun s5 e8 c6 g9 => ?_)
  have f7 := z_Fr.up (R := R_X10_addUp_191) f g9 (fun _ => (⟨by decide, by decide⟩))
  have t10 : s5 191 16 = s 191 16 := g9 191 16 (by decide)
  refine T_leq (fun x11 e12 => ?_)
  have w13 := z_wb e12
  exact hr s5 x11 c6 f7 (by omega) (by omega)
theorem sj_X10_addUp_191_J40 {fu : Nat} (hfu : 8589934592 ≤ fu) (r0 s : z_M) (c : z_CI s) (f : z_Fr R_X10_addUp_191 r0 s) (a1 : Int) (t0 : Int) (b1 : -2147483648 ≤ a1 ∧ a1 ≤ 2147483646) (d0 : 0 ≤ t0 ∧ t0 ≤ 1) (M : Int) (pm : 2147483647 - a1 ≤ M) {r : z_M → Int → z_O} {k : z_M → z_O} (hr : ∀ (s' : z_M) (v1 : Int), z_CI s' → z_Fr R_X10_addUp_191 r0 s' → (-2147483648 ≤ v1 ∧ v1 ≤ 2147483647) → (2147483647 - v1 < M) → z_T (r s' v1) (P_X10_addUp_191 r0)) (hk : ∀ (s' : z_M), z_CI s' → z_Fr R_X10_addUp_191 r0 s' → z_T (k s') (P_X10_addUp_191 r0)) : z_T (fX10_addUp_J40 fu s 191 a1 t0 r k) (P_X10_addUp_191 r0) := by
  refine T_of (fX10_addUp_J40.eq_1 ..) ?_
  have u1 := CI_b c (k := 191) (j := 16) bd_191_16
  refine T_if1 (by decide +kernel) ?_
  refine T_let 210 (by decide +kernel) ?_
  refine T_leq (fun x2 e3 => ?_)
  have w4 := z_wr e3
  refine T_if1 (by decide +kernel) ?_
  refine T_let 210 (by decide +kernel) ?_
  refine T_if1 (by decide +kernel) ?_
  refine T_get (by decide +kernel) (c := 211) (by decide +kernel) bdr_211 (by decide) c (fun x5 e6 b7 w8 => ?_)
  have l9 : z_ln 210 = 201 := by decide +kernel
  refine T_if1 (by decide +kernel) ?_
  refine T_let 198 (by decide +kernel) ?_
  refine T_if1 (by decide +kernel) ?_
  refine T_get (by decide +kernel) (c := 199) (by decide +kernel) bdr_199 (by decide) c (fun x10 e11 b12 w13 => ?_)
  have l14 : z_ln 198 = 200 := by decide +kernel
  refine T_leq (fun x15 e16 => ?_)
  have w17 := z_wr e16
  refine T_if1 (by decide +kernel) ?_
  refine T_put (by decide +kernel) (c := 211) (by decide +kernel) bdr_211 (by omega) c (fun s18 e21 c19 g22 => ?_)
  have f20 := z_Fr.up (R := R_X10_addUp_191) f g22 (fun _ => (⟨by decide, by decide⟩))
  have t23 : s18 191 16 = s 191 16 := g22 191 16 (by decide)
  refine T_if1 (by decide +kernel) ?_
  refine T_let 212 (by decide +kernel) ?_
  refine T_leq (fun x24 e25 => ?_)
  have w26 := z_wr e25
  refine T_if1 (by decide +kernel) ?_
  refine T_let 212 (by decide +kernel) ?_
  refine T_if1 (by decide +kernel) ?_
  refine T_get (by decide +kernel) (c := 213) (by decide +kernel) bdr_213 (by decide) c19 (fun x27 e28 b29 w30 => ?_)
  have l31 : z_ln 212 = 201 := by decide +kernel
  refine T_ite (fun h32 => ?_) (fun h32 => ?_)
  · refine T_if1 (by decide +kernel) ?_
    refine T_let 198 (by decide +kernel) ?_
    refine T_if1 (by decide +kernel) ?_
    refine T_get (by decide +kernel) (c := 199) (by decide +kernel) bdr_199 (by decide) c19 (fun x33 e34 b35 w36 => ?_)
    have l37 : z_ln 198 = 200 := by decide +kernel
    exact sj_X10_addUp_191_J99 hfu r0 s18 c19 f20 a1 x24 x27 x33 (by omega) (by omega) (by omega) (by omega) M (by omega) (fun s' v1 c' f' w1 pg => hr s' v1 c' f' w1 (by omega)) hk
  · exact sj_X10_addUp_191_J99 hfu r0 s18 c19 f20 a1 x24 x27 0 (by omega) (by omega) (by omega) (by omega) M (by omega) (fun s' v1 c' f' w1 pg => hr s' v1 c' f' w1 (by omega)) hk
theorem sj_X10_addUp_191_J35 {fu : Nat} (hfu : 8589934592 ≤ fu) (r0 s : z_M) (c : z_CI s) (f : z_Fr R_X10_addUp_191 r0 s) (a1 : Int) (b1 : -2147483648 ≤ a1 ∧ a1 ≤ 2147483646) (M : Int) (pm : 2147483647 - a1 ≤ M) {r : z_M → Int → z_O} {k : z_M → z_O} (hr : ∀ (s' : z_M) (v1 : Int), z_CI s' → z_Fr R_X10_addUp_191 r0 s' → (-2147483648 ≤ v1 ∧ v1 ≤ 2147483647) → (2147483647 - v1 < M) → z_T (r s' v1) (P_X10_addUp_191 r0)) (hk : ∀ (s' : z_M), z_CI s' → z_Fr R_X10_addUp_191 r0 s' → z_T (k s') (P_X10_addUp_191 r0)) : z_T (fX10_addUp_J35 fu s 191 a1 r k) (P_X10_addUp_191 r0) := by
  refine T_of (fX10_addUp_J35.eq_1 ..) ?_
  have u1 := CI_b c (k := 191) (j := 16) bd_191_16
  exact sj_X10_addUp_191_J40 hfu r0 s c f a1 1 (by omega) (by omega) M (by omega) (fun s' v1 c' f' w1 pg => hr s' v1 c' f' w1 (by omega)) hk
theorem sl_X10_addUp_191_L2 {fu : Nat} (hfu : 8589934592 ≤ fu) (r0 : z_M) {k : z_M → z_O} (hk : ∀ (s' : z_M), z_CI s' → z_Fr R_X10_addUp_191 r0 s' → z_T (k s') (P_X10_addUp_191 r0)) : ∀ (F : Nat) (s : z_M) (a1 : Int), z_CI s → z_Fr R_X10_addUp_191 r0 s → (-2147483648 ≤ a1 ∧ a1 ≤ 2147483647) → (2147483647 - a1 < (F : Int)) → z_T (fX10_addUp_L2 fu 191 F s a1 k) (P_X10_addUp_191 r0) := by
  intro F
  induction F with
  | zero =>
    intro s a1 c f b1 hm
    have u18 := CI_b c (k := 191) (j := 16) bd_191_16
    exfalso; omega
  | succ F ih =>
    intro s a1 c f b1 hm
    refine T_of (fX10_addUp_L2.eq_2 ..) ?_
    have u1 := CI_b c (k := 191) (j := 16) bd_191_16
    refine T_if1 (by decide +kernel) ?_
    refine T_leq (fun x2 e3 => ?_)
    have u4 := CI_b c (k := 191) (j := 16) bd_191_16
    refine T_ite (fun h5 => ?_) (fun h5 => ?_)
    · exact hk s c f
    · refine T_if1 (by decide +kernel) ?_
      refine T_let 192 (by decide +kernel) ?_
      refine T_if1 (by decide +kernel) ?_
      refine T_get (by decide +kernel) (c := 193) (by decide +kernel) bdr_193 (by decide) c (fun x6 e7 b8 w9 => ?_)
      have l10 : z_ln 192 = 200 := by decide +kernel
      refine T_ite (fun h11 => ?_) (fun h11 => ?_)
      · exact sj_X10_addUp_191_J35 hfu r0 s c f a1 (by omega) (2147483647 - a1) (by omega) (fun s' v1 c' f' w1 pg => ih s' v1 c' f' w1 (by omega)) hk
      · refine T_if1 (by decide +kernel) ?_
        refine T_let 192 (by decide +kernel) ?_
        refine T_if1 (by decide +kernel) ?_
        refine T_get (by decide +kernel) (c := 193) (by decide +kernel) bdr_193 (by decide) c (fun x12 e13 b14 w15 => ?_)
        have l16 : z_ln 192 = 200 := by decide +kernel
        refine T_ite (fun h17 => ?_) (fun h17 => ?_)
        · exact sj_X10_addUp_191_J40 hfu r0 s c f a1 0 (by omega) (by omega) (2147483647 - a1) (by omega) (fun s' v1 c' f' w1 pg => ih s' v1 c' f' w1 (by omega)) hk
        · exact sj_X10_addUp_191_J35 hfu r0 s c f a1 (by omega) (2147483647 - a1) (by omega) (fun s' v1 c' f' w1 pg => ih s' v1 c' f' w1 (by omega)) hk
theorem sf_X10_addUp_191 {fu : Nat} (hfu : 8589934592 ≤ fu) (r0 : z_M) (c0 : z_CI r0) : z_T (fX10_addUp fu r0 191) (P_X10_addUp_191 r0) := by
  refine T_of (fX10_addUp.eq_1 ..) ?_
  refine sl_X10_addUp_191_L2 hfu r0 (fun s1 c2 f3 => ?_) fu r0 0 c0 z_Fr.rf (by omega) (by omega)
  have u4 := CI_b c2 (k := 191) (j := 16) bd_191_16
  exact T_ret ⟨c2, f3, rfl⟩
abbrev R_X10_latestOpen_191 (a b : Int) : Prop := False
abbrev P_X10_latestOpen_191 (r0 : z_M) : z_V → z_M → Prop := fun v s' => z_CI s' ∧ z_Fr R_X10_latestOpen_191 r0 s' ∧ (∃ x, v = vI x ∧ -2147483648 ≤ x ∧ x ≤ 2147483647)
theorem sj_X10_latestOpen_191_J34 {fu : Nat} (hfu : 8589934592 ≤ fu) (r0 s : z_M) (c : z_CI s) (f : z_Fr R_X10_latestOpen_191 r0 s) (a2 : Int) (b2 : -2147483647 ≤ a2 ∧ a2 ≤ 2147483647) (M : Int) (pm : a2 + 2147483648 ≤ M) {r : z_M → Int → z_O} {k : z_M → z_O} (hr : ∀ (s' : z_M) (v2 : Int), z_CI s' → z_Fr R_X10_latestOpen_191 r0 s' → (-2147483648 ≤ v2 ∧ v2 ≤ 2147483647) → (v2 + 2147483648 < M) → z_T (r s' v2) (P_X10_latestOpen_191 r0)) (hk : ∀ (s' : z_M), z_CI s' → z_Fr R_X10_latestOpen_191 r0 s' → z_T (k s') (P_X10_latestOpen_191 r0)) : z_T (fX10_latestOpen_J34 fu s 191 a2 r k) (P_X10_latestOpen_191 r0) := by
  refine T_of (fX10_latestOpen_J34.eq_1 ..) ?_
  refine T_leq (fun x1 e2 => ?_)
  have w3 := z_wb e2
  exact hr s x1 c f (by omega) (by omega)
theorem sl_X10_latestOpen_191_L4 {fu : Nat} (hfu : 8589934592 ≤ fu) (r0 : z_M) {k : z_M → z_O} (hk : ∀ (s' : z_M), z_CI s' → z_Fr R_X10_latestOpen_191 r0 s' → z_T (k s') (P_X10_latestOpen_191 r0)) : ∀ (F : Nat) (s : z_M) (a2 : Int), z_CI s → z_Fr R_X10_latestOpen_191 r0 s → (-2147483648 ≤ a2 ∧ a2 ≤ 2147483647) → (a2 + 2147483648 < (F : Int)) → z_T (fX10_latestOpen_L4 fu 191 F s a2 k) (P_X10_latestOpen_191 r0) := by
  intro F
  induction F with
  | zero =>
    intro s a2 c f b2 hm
    exfalso; omega
  | succ F ih =>
    intro s a2 c f b2 hm
    refine T_of (fX10_latestOpen_L4.eq_2 ..) ?_
    refine T_ite (fun h1 => ?_) (fun h1 => ?_)
    · exact hk s c f
    · refine T_if1 (by decide +kernel) ?_
      refine T_let 192 (by decide +kernel) ?_
      refine T_if1 (by decide +kernel) ?_
      refine T_get (by decide +kernel) (c := 193) (by decide +kernel) bdr_193 (by decide) c (fun x2 e3 b4 w5 => ?_)
      have l6 : z_ln 192 = 200 := by decide +kernel
      refine T_ite (fun h7 => ?_) (fun h7 => ?_)
      · exact sj_X10_latestOpen_191_J34 hfu r0 s c f a2 (by omega) (a2 + 2147483648) (by omega) (fun s' v2 c' f' w2 pg => ih s' v2 c' f' w2 (by omega)) hk
      · refine T_if1 (by decide +kernel) ?_
        refine T_let 206 (by decide +kernel) ?_
        refine T_if1 (by decide +kernel) ?_
        refine T_get (by decide +kernel) (c := 207) (by decide +kernel) bdr_207 (by decide) c (fun x8 e9 b10 w11 => ?_)
        have l12 : z_ln 206 = 200 := by decide +kernel
        refine T_ite (fun h13 => ?_) (fun h13 => ?_)
        · exact sj_X10_latestOpen_191_J34 hfu r0 s c f a2 (by omega) (a2 + 2147483648) (by omega) (fun s' v2 c' f' w2 pg => ih s' v2 c' f' w2 (by omega)) hk
        · exact T_ret ⟨c, f, ⟨a2, rfl, by omega, by omega⟩⟩
theorem sf_X10_latestOpen_191 {fu : Nat} (hfu : 8589934592 ≤ fu) (r0 : z_M) (c0 : z_CI r0) (a1 : Int) (b1 : -2147483648 ≤ a1 ∧ a1 ≤ 2147483647) : z_T (fX10_latestOpen fu r0 191 a1) (P_X10_latestOpen_191 r0) := by
  refine T_of (fX10_latestOpen.eq_1 ..) ?_
  refine T_leq (fun x1 e2 => ?_)
  have w3 := z_wb e2
  refine sl_X10_latestOpen_191_L4 hfu r0 (fun s4 c5 f6 => ?_) fu r0 x1 c0 z_Fr.rf (by omega) (by omega)
  exact T_ret ⟨c5, f6, ⟨(-1), rfl, by omega, by omega⟩⟩
abbrev R_X10_pairUp_191 (a b : Int) : Prop := (207 ≤ a ∧ a ≤ 207) ∨ (a = 191 ∧ (b = 17))
abbrev P_X10_pairUp_191 (r0 : z_M) : z_V → z_M → Prop := fun v s' => z_CI s' ∧ z_Fr R_X10_pairUp_191 r0 s' ∧ (v = vN)
theorem sj_X10_pairUp_191_J79 {fu : Nat} (hfu : 8589934592 ≤ fu) (r0 s : z_M) (c : z_CI s) (f : z_Fr R_X10_pairUp_191 r0 s) (a1 : Int) (b1 : -2147483648 ≤ a1 ∧ a1 ≤ 2147483646) (M : Int) (pm : 2147483647 - a1 ≤ M) {r : z_M → Int → z_O} {k : z_M → z_O} (hr : ∀ (s' : z_M) (v1 : Int), z_CI s' → z_Fr R_X10_pairUp_191 r0 s' → (-2147483648 ≤ v1 ∧ v1 ≤ 2147483647) → (2147483647 - v1 < M) → z_T (r s' v1) (P_X10_pairUp_191 r0)) (hk : ∀ (s' : z_M), z_CI s' → z_Fr R_X10_pairUp_191 r0 s' → z_T (k s') (P_X10_pairUp_191 r0)) : z_T (fX10_pairUp_J79 fu s 191 a1 r k) (P_X10_pairUp_191 r0) := by
  refine T_of (fX10_pairUp_J79.eq_1 ..) ?_
  have u1 := CI_b c (k := 191) (j := 16) bd_191_16
  have u2 := CI_b c (k := 191) (j := 17) bd_191_17
  refine T_leq (fun x3 e4 => ?_)
  have w5 := z_wb e4
  exact hr s x3 c f (by omega) (by omega)
theorem sj_X10_pairUp_191_J45 {fu : Nat} (hfu : 8589934592 ≤ fu) (r0 s : z_M) (c : z_CI s) (f : z_Fr R_X10_pairUp_191 r0 s) (a1 : Int) (t0 : Int) (b1 : -2147483648 ≤ a1 ∧ a1 ≤ 2147483646) (d0 : -2147483648 ≤ t0 ∧ t0 ≤ 2147483647) (M : Int) (pm : 2147483647 - a1 ≤ M) {r : z_M → Int → z_O} {k : z_M → z_O} (hr : ∀ (s' : z_M) (v1 : Int), z_CI s' → z_Fr R_X10_pairUp_191 r0 s' → (-2147483648 ≤ v1 ∧ v1 ≤ 2147483647) → (2147483647 - v1 < M) → z_T (r s' v1) (P_X10_pairUp_191 r0)) (hk : ∀ (s' : z_M), z_CI s' → z_Fr R_X10_pairUp_191 r0 s' → z_T (k s') (P_X10_pairUp_191 r0)) : z_T (fX10_pairUp_J45 fu s 191 a1 t0 r k) (P_X10_pairUp_191 r0) := by
  refine T_of (fX10_pairUp_J45.eq_1 ..) ?_
  have u1 := CI_b c (k := 191) (j := 16) bd_191_16
  have u2 := CI_b c (k := 191) (j := 17) bd_191_17
  refine T_ite (fun h3 => ?_) (fun h3 => ?_)
  · exact sj_X10_pairUp_191_J79 hfu r0 s c f a1 (by omega) M (by omega) (fun s' v1 c' f' w1 pg => hr s' v1 c' f' w1 (by omega)) hk
  · refine T_if1 (by decide +kernel) ?_
    refine T_let 206 (by decide +kernel) ?_
    refine T_if1 (by decide +kernel) ?_
    refine T_put (by decide +kernel) (c := 207) (by decide +kernel) bdr_207 (by omega) c (fun s4 e7 c5 g8 => ?_)
    have f6 := z_Fr.up (R := R_X10_pairUp_191) f g8 (fun _ => (Or.inl (⟨by decide, by decide⟩)))
    have t9 : s4 191 16 = s 191 16 := g8 191 16 (by decide)
    have t10 : s4 191 17 = s 191 17 := g8 191 17 (by decide)
    refine T_if1 (by decide +kernel) ?_
    refine T_let 206 (by decide +kernel) ?_
    refine T_if1 (by decide +kernel) ?_
    refine T_put (by decide +kernel) (c := 207) (by decide +kernel) bdr_207 (by omega) c5 (fun s11 e14 c12 g15 => ?_)
    have f13 := z_Fr.up (R := R_X10_pairUp_191) f6 g15 (fun _ => (Or.inl (⟨by decide, by decide⟩)))
    have t16 : s11 191 16 = s4 191 16 := g15 191 16 (by decide)
    have t17 : s11 191 17 = s4 191 17 := g15 191 17 (by decide)
    refine T_if1 (by decide +kernel) ?_
    refine T_leq (fun x18 e19 => ?_)
    have u20 := CI_b c12 (k := 191) (j := 17) bd_191_17
    refine T_leq (fun x21 e22 => ?_)
    have w23 := z_wr e22
    refine T_if1 (by decide +kernel) ?_
    refine T_upg c12 bd_191_17 (by omega) (fun s24 c25 g27 g28 e29 => ?_)
    have f26 := z_Fr.upf (R := R_X10_pairUp_191) f13 g27 g28 (Or.inr (⟨rfl, by decide⟩))
    have t30 : s24 191 16 = s11 191 16 := g28 16 (by decide)
    exact sj_X10_pairUp_191_J79 hfu r0 s24 c25 f26 a1 (by omega) M (by omega) (fun s' v1 c' f' w1 pg => hr s' v1 c' f' w1 (by omega)) hk
theorem sl_X10_pairUp_191_L7 {fu : Nat} (hfu : 8589934592 ≤ fu) (r0 : z_M) {k : z_M → z_O} (hk : ∀ (s' : z_M), z_CI s' → z_Fr R_X10_pairUp_191 r0 s' → z_T (k s') (P_X10_pairUp_191 r0)) : ∀ (F : Nat) (s : z_M) (a1 : Int), z_CI s → z_Fr R_X10_pairUp_191 r0 s → (-2147483648 ≤ a1 ∧ a1 ≤ 2147483647) → (2147483647 - a1 < (F : Int)) → z_T (fX10_pairUp_L7 fu 191 F s a1 k) (P_X10_pairUp_191 r0) := by
  intro F
  induction F with
  | zero =>
    intro s a1 c f b1 hm
    have u30 := CI_b c (k := 191) (j := 16) bd_191_16
    have u31 := CI_b c (k := 191) (j := 17) bd_191_17
    exfalso; omega
  | succ F ih =>
    intro s a1 c f b1 hm
    refine T_of (fX10_pairUp_L7.eq_2 ..) ?_
    have u1 := CI_b c (k := 191) (j := 16) bd_191_16
    have u2 := CI_b c (k := 191) (j := 17) bd_191_17
    refine T_if1 (by decide +kernel) ?_
    refine T_leq (fun x3 e4 => ?_)
    have u5 := CI_b c (k := 191) (j := 16) bd_191_16
    refine T_ite (fun h6 => ?_) (fun h6 => ?_)
    · exact hk s c f
    · refine T_if1 (by decide +kernel) ?_
      refine T_let 206 (by decide +kernel) ?_
      refine T_if1 (by decide +kernel) ?_
      refine T_put (by decide +kernel) (c := 207) (by decide +kernel) bdr_207 (by omega) c (fun s7 e10 c8 g11 => ?_)
      have f9 := z_Fr.up (R := R_X10_pairUp_191) f g11 (fun _ => (Or.inl (⟨by decide, by decide⟩)))
      have t12 : s7 191 16 = s 191 16 := g11 191 16 (by decide)
      have t13 : s7 191 17 = s 191 17 := g11 191 17 (by decide)
      refine T_if1 (by decide +kernel) ?_
      refine T_let 192 (by decide +kernel) ?_
      refine T_if1 (by decide +kernel) ?_
      refine T_get (by decide +kernel) (c := 193) (by decide +kernel) bdr_193 (by decide) c8 (fun x14 e15 b16 w17 => ?_)
      have l18 : z_ln 192 = 200 := by decide +kernel
      refine T_ite (fun h19 => ?_) (fun h19 => ?_)
      · exact sj_X10_pairUp_191_J45 hfu r0 s7 c8 f9 a1 (-1) (by omega) (by omega) (2147483647 - a1) (by omega) (fun s' v1 c' f' w1 pg => ih s' v1 c' f' w1 (by omega)) hk
      · refine T_if1 (by decide +kernel) ?_
        refine T_useI (sf_X10_latestOpen_191 hfu s7 c8 a1 (by omega)) (fun v25 s20 hq => ?_)
        obtain ⟨c21, f22, ⟨x24, rfl, b26, b27⟩⟩ := hq
        refine T_vI ?_
        have f23 := z_Fr.tr (R := R_X10_pairUp_191) f9 f22 (fun a b h => absurd h not_false)
        have t28 : s20 191 16 = s7 191 16 := f22 191 16 (by decide)
        have t29 : s20 191 17 = s7 191 17 := f22 191 17 (by decide)
        exact sj_X10_pairUp_191_J45 hfu r0 s20 c21 f23 a1 x24 (by omega) (by omega) (2147483647 - a1) (by omega) (fun s' v1 c' f' w1 pg => ih s' v1 c' f' w1 (by omega)) hk
theorem sf_X10_pairUp_191 {fu : Nat} (hfu : 8589934592 ≤ fu) (r0 : z_M) (c0 : z_CI r0) : z_T (fX10_pairUp fu r0 191) (P_X10_pairUp_191 r0) := by
  refine T_of (fX10_pairUp.eq_1 ..) ?_
  refine T_if1 (by decide +kernel) ?_
  refine T_upg c0 bd_191_17 (by omega) (fun s1 c2 g4 g5 e6 => ?_)
  have f3 := z_Fr.upf (R := R_X10_pairUp_191) z_Fr.rf g4 g5 (Or.inr (⟨rfl, by decide⟩))
  have t7 : s1 191 16 = r0 191 16 := g5 16 (by decide)
  refine sl_X10_pairUp_191_L7 hfu r0 (fun s8 c9 f10 => ?_) fu s1 0 c2 f3 (by omega) (by omega)
  have u11 := CI_b c9 (k := 191) (j := 16) bd_191_16
  have u12 := CI_b c9 (k := 191) (j := 17) bd_191_17
  exact T_ret ⟨c9, f10, rfl⟩
abbrev R_X10_allowsEnd_191 (a b : Int) : Prop := False
abbrev P_X10_allowsEnd_191 (r0 : z_M) : z_V → z_M → Prop := fun v s' => z_CI s' ∧ z_Fr R_X10_allowsEnd_191 r0 s' ∧ (∃ x, v = vI x ∧ 0 ≤ x ∧ x ≤ 1)
theorem sj_X10_allowsEnd_191_J22 {fu : Nat} (hfu : 8589934592 ≤ fu) (r0 s : z_M) (c : z_CI s) (f : z_Fr R_X10_allowsEnd_191 r0 s) : z_T (fX10_allowsEnd_J22 fu s) (P_X10_allowsEnd_191 r0) := by
  refine T_of (fX10_allowsEnd_J22.eq_1 ..) ?_
  have u1 := CI_b c (k := 191) (j := 16) bd_191_16
  refine T_if1 (by unfold z_bl; omega) ?_
  exact T_ret ⟨c, f, ⟨0, rfl, by omega, by omega⟩⟩
theorem sj_X10_allowsEnd_191_J57 {fu : Nat} (hfu : 8589934592 ≤ fu) (r0 s : z_M) (c : z_CI s) (f : z_Fr R_X10_allowsEnd_191 r0 s) (t0 : Int) (d0 : 0 ≤ t0 ∧ t0 ≤ 1) : z_T (fX10_allowsEnd_J57 fu s t0) (P_X10_allowsEnd_191 r0) := by
  refine T_of (fX10_allowsEnd_J57.eq_1 ..) ?_
  have u1 := CI_b c (k := 191) (j := 16) bd_191_16
  refine T_if1 (by unfold z_bl; omega) ?_
  exact T_ret ⟨c, f, ⟨t0, rfl, by omega, by omega⟩⟩
theorem sj_X10_allowsEnd_191_J56 {fu : Nat} (hfu : 8589934592 ≤ fu) (r0 s : z_M) (c : z_CI s) (f : z_Fr R_X10_allowsEnd_191 r0 s) : z_T (fX10_allowsEnd_J56 fu s) (P_X10_allowsEnd_191 r0) := by
  refine T_of (fX10_allowsEnd_J56.eq_1 ..) ?_
  have u1 := CI_b c (k := 191) (j := 16) bd_191_16
  exact sj_X10_allowsEnd_191_J57 hfu r0 s c f 0 (by omega)
theorem sf_X10_allowsEnd_191 {fu : Nat} (hfu : 8589934592 ≤ fu) (r0 : z_M) (c0 : z_CI r0) (a1 : Int) (b1 : -2147483648 ≤ a1 ∧ a1 ≤ 2147483647) : z_T (fX10_allowsEnd fu r0 191 a1) (P_X10_allowsEnd_191 r0) := by
  refine T_of (fX10_allowsEnd.eq_1 ..) ?_
  refine T_if1 (by decide +kernel) ?_
  refine T_leq (fun x1 e2 => ?_)
  have u3 := CI_b c0 (k := 191) (j := 16) bd_191_16
  refine T_leq (fun x4 e5 => ?_)
  have w6 := z_wr e5
  refine T_ite (fun h7 => ?_) (fun h7 => ?_)
  · exact sj_X10_allowsEnd_191_J22 hfu r0 r0 c0 z_Fr.rf
  · refine T_if1 (by decide +kernel) ?_
    refine T_let 192 (by decide +kernel) ?_
    refine T_if1 (by decide +kernel) ?_
    refine T_get (by decide +kernel) (c := 193) (by decide +kernel) bdr_193 (by decide) c0 (fun x8 e9 b10 w11 => ?_)
    have l12 : z_ln 192 = 200 := by decide +kernel
    refine T_ite (fun h13 => ?_) (fun h13 => ?_)
    · refine T_if1 (by decide +kernel) ?_
      refine T_let 192 (by decide +kernel) ?_
      refine T_leq (fun x14 e15 => ?_)
      have w16 := z_wr e15
      refine T_if1 (by decide +kernel) ?_
      refine T_get (by decide +kernel) (c := 193) (by decide +kernel) bdr_193 (by decide) c0 (fun x17 e18 b19 w20 => ?_)
      have l21 : z_ln 192 = 200 := by decide +kernel
      refine T_ite (fun h22 => ?_) (fun h22 => ?_)
      · exact sj_X10_allowsEnd_191_J56 hfu r0 r0 c0 z_Fr.rf
      · refine T_if1 (by decide +kernel) ?_
        refine T_let 192 (by decide +kernel) ?_
        refine T_leq (fun x23 e24 => ?_)
        have w25 := z_wr e24
        refine T_if1 (by decide +kernel) ?_
        refine T_get (by decide +kernel) (c := 193) (by decide +kernel) bdr_193 (by decide) c0 (fun x26 e27 b28 w29 => ?_)
        have l30 : z_ln 192 = 200 := by decide +kernel
        refine T_ite (fun h31 => ?_) (fun h31 => ?_)
        · exact sj_X10_allowsEnd_191_J56 hfu r0 r0 c0 z_Fr.rf
        · exact sj_X10_allowsEnd_191_J57 hfu r0 r0 c0 z_Fr.rf 1 (by omega)
    · exact sj_X10_allowsEnd_191_J22 hfu r0 r0 c0 z_Fr.rf
abbrev R_X10_tie_191 (a b : Int) : Prop := (209 ≤ a ∧ a ≤ 209) ∨ (a = 191 ∧ (b = 18))
abbrev P_X10_tie_191 (r0 : z_M) : z_V → z_M → Prop := fun v s' => z_CI s' ∧ z_Fr R_X10_tie_191 r0 s' ∧ (v = vN)
theorem sj_X10_tie_191_J108 {fu : Nat} (hfu : 8589934592 ≤ fu) (r0 s : z_M) (c : z_CI s) (f : z_Fr R_X10_tie_191 r0 s) (a1 : Int) (b1 : -2147483648 ≤ a1 ∧ a1 ≤ 2147483646) (M : Int) (pm : 2147483647 - a1 ≤ M) {r : z_M → Int → z_O} {k : z_M → z_O} (hr : ∀ (s' : z_M) (v1 : Int), z_CI s' → z_Fr R_X10_tie_191 r0 s' → (-2147483648 ≤ v1 ∧ v1 ≤ 2147483647) → (2147483647 - v1 < M) → z_T (r s' v1) (P_X10_tie_191 r0)) (hk : ∀ (s' : z_M), z_CI s' → z_Fr R_X10_tie_191 r0 s' → z_T (k s') (P_X10_tie_191 r0)) : z_T (fX10_tie_J108 fu s 191 a1 r k) (P_X10_tie_191 r0) := by
  refine T_of (fX10_tie_J108.eq_1 ..) ?_
  have u1 := CI_b c (k := 191) (j := 16) bd_191_16
  have u2 := CI_b c (k := 191) (j := 18) bd_191_18
  refine T_leq (fun x3 e4 => ?_)
  have w5 := z_wb e4
  exact hr s x3 c f (by omega) (by omega)
theorem sl_X10_tie_191_L88 {fu : Nat} (hfu : 8589934592 ≤ fu) (r0 : z_M) (a1 : Int) (a2 : Int) (b1 : -2147483648 ≤ a1 ∧ a1 ≤ 2147483647) (b2 : -2147483648 ≤ a2 ∧ a2 ≤ 2147483647) {k : z_M → z_O} (hk : ∀ (s' : z_M), z_CI s' → z_Fr R_X10_tie_191 r0 s' → z_T (k s') (P_X10_tie_191 r0)) : ∀ (F : Nat) (s : z_M) (a3 : Int), z_CI s → z_Fr R_X10_tie_191 r0 s → (-2147483648 ≤ a3 ∧ a3 ≤ 2147483647) → (2147483647 - a3 < (F : Int)) → z_T (fX10_tie_L88 fu 191 a1 a2 F s a3 k) (P_X10_tie_191 r0) := by
  intro F
  induction F with
  | zero =>
    intro s a3 c f b3 hm
    have u14 := CI_b c (k := 191) (j := 16) bd_191_16
    have u15 := CI_b c (k := 191) (j := 18) bd_191_18
    exfalso; omega
  | succ F ih =>
    intro s a3 c f b3 hm
    refine T_of (fX10_tie_L88.eq_2 ..) ?_
    have u1 := CI_b c (k := 191) (j := 16) bd_191_16
    have u2 := CI_b c (k := 191) (j := 18) bd_191_18
    refine T_ite (fun h3 => ?_) (fun h3 => ?_)
    · exact hk s c f
    · refine T_if1 (by decide +kernel) ?_
      refine T_let 208 (by decide +kernel) ?_
      refine T_if1 (by decide +kernel) ?_
      refine T_put (by decide +kernel) (c := 209) (by decide +kernel) bdr_209 (by omega) c (fun s4 e7 c5 g8 => ?_)
      have f6 := z_Fr.up (R := R_X10_tie_191) f g8 (fun _ => (Or.inl (⟨by decide, by decide⟩)))
      have t9 : s4 191 16 = s 191 16 := g8 191 16 (by decide)
      have t10 : s4 191 18 = s 191 18 := g8 191 18 (by decide)
      refine T_leq (fun x11 e12 => ?_)
      have w13 := z_wb e12
      exact ih s4 x11 c5 f6 (by omega) (by omega)
theorem sj_X10_tie_191_J39 {fu : Nat} (hfu : 8589934592 ≤ fu) (r0 s : z_M) (c : z_CI s) (f : z_Fr R_X10_tie_191 r0 s) (a1 : Int) (t0 : Int) (b1 : -2147483648 ≤ a1 ∧ a1 ≤ 2147483646) (d0 : -2147483648 ≤ t0 ∧ t0 ≤ 2147483647) (M : Int) (pm : 2147483647 - a1 ≤ M) {r : z_M → Int → z_O} {k : z_M → z_O} (hr : ∀ (s' : z_M) (v1 : Int), z_CI s' → z_Fr R_X10_tie_191 r0 s' → (-2147483648 ≤ v1 ∧ v1 ≤ 2147483647) → (2147483647 - v1 < M) → z_T (r s' v1) (P_X10_tie_191 r0)) (hk : ∀ (s' : z_M), z_CI s' → z_Fr R_X10_tie_191 r0 s' → z_T (k s') (P_X10_tie_191 r0)) : z_T (fX10_tie_J39 fu s 191 a1 t0 r k) (P_X10_tie_191 r0) := by
  refine T_of (fX10_tie_J39.eq_1 ..) ?_
  have u1 := CI_b c (k := 191) (j := 16) bd_191_16
  have u2 := CI_b c (k := 191) (j := 18) bd_191_18
  refine T_ite (fun h3 => ?_) (fun h3 => ?_)
  · exact sj_X10_tie_191_J108 hfu r0 s c f a1 (by omega) M (by omega) (fun s' v1 c' f' w1 pg => hr s' v1 c' f' w1 (by omega)) hk
  · refine T_if1 (by decide +kernel) ?_
    refine T_let 210 (by decide +kernel) ?_
    refine T_leq (fun x4 e5 => ?_)
    have w6 := z_wr e5
    refine T_if1 (by decide +kernel) ?_
    refine T_get (by decide +kernel) (c := 211) (by decide +kernel) bdr_211 (by decide) c (fun x7 e8 b9 w10 => ?_)
    have l11 : z_ln 210 = 201 := by decide +kernel
    refine T_if1 (by decide +kernel) ?_
    refine T_let 210 (by decide +kernel) ?_
    refine T_if1 (by decide +kernel) ?_
    refine T_get (by decide +kernel) (c := 211) (by decide +kernel) bdr_211 (by decide) c (fun x12 e13 b14 w15 => ?_)
    have l16 : z_ln 210 = 201 := by decide +kernel
    refine T_leq (fun x17 e18 => ?_)
    have w19 := z_wr e18
    refine T_if1 (by decide +kernel) ?_
    refine T_let 2 (by decide +kernel) ?_
    refine T_if1 (by decide +kernel) ?_
    refine T_get (by decide +kernel) (c := 3) (by decide +kernel) bdr_3 (by decide) c (fun x20 e21 b22 w23 => ?_)
    have l24 : z_ln 2 = 9 := by decide +kernel
    refine T_ite (fun h25 => ?_) (fun h25 => ?_)
    · exact sj_X10_tie_191_J108 hfu r0 s c f a1 (by omega) M (by omega) (fun s' v1 c' f' w1 pg => hr s' v1 c' f' w1 (by omega)) hk
    · refine T_if1 (by decide +kernel) ?_
      refine T_leq (fun x26 e27 => ?_)
      have u28 := CI_b c (k := 191) (j := 18) bd_191_18
      refine T_leq (fun x29 e30 => ?_)
      have w31 := z_wr e30
      refine T_if1 (by decide +kernel) ?_
      refine T_upg c bd_191_18 (by omega) (fun s32 c33 g35 g36 e37 => ?_)
      have f34 := z_Fr.upf (R := R_X10_tie_191) f g35 g36 (Or.inr (⟨rfl, by decide⟩))
      have t38 : s32 191 16 = s 191 16 := g36 16 (by decide)
      refine sl_X10_tie_191_L88 hfu r0 a1 t0 (by omega) (by omega) (fun s39 c40 f41 => ?_) fu s32 a1 c33 f34 (by omega) (by omega)
      have u42 := CI_b c40 (k := 191) (j := 16) bd_191_16
      have u43 := CI_b c40 (k := 191) (j := 18) bd_191_18
      exact sj_X10_tie_191_J108 hfu r0 s39 c40 f41 a1 (by omega) M (by omega) (fun s' v1 c' f' w1 pg => hr s' v1 c' f' w1 (by omega)) hk
theorem sl_X10_tie_191_L7 {fu : Nat} (hfu : 8589934592 ≤ fu) (r0 : z_M) {k : z_M → z_O} (hk : ∀ (s' : z_M), z_CI s' → z_Fr R_X10_tie_191 r0 s' → z_T (k s') (P_X10_tie_191 r0)) : ∀ (F : Nat) (s : z_M) (a1 : Int), z_CI s → z_Fr R_X10_tie_191 r0 s → (-2147483648 ≤ a1 ∧ a1 ≤ 2147483647) → (2147483647 - a1 < (F : Int)) → z_T (fX10_tie_L7 fu 191 F s a1 k) (P_X10_tie_191 r0) := by
  intro F
  induction F with
  | zero =>
    intro s a1 c f b1 hm
    have u18 := CI_b c (k := 191) (j := 16) bd_191_16
    have u19 := CI_b c (k := 191) (j := 18) bd_191_18
    exfalso; omega
  | succ F ih =>
    intro s a1 c f b1 hm
    refine T_of (fX10_tie_L7.eq_2 ..) ?_
    have u1 := CI_b c (k := 191) (j := 16) bd_191_16
    have u2 := CI_b c (k := 191) (j := 18) bd_191_18
    refine T_if1 (by decide +kernel) ?_
    refine T_leq (fun x3 e4 => ?_)
    have u5 := CI_b c (k := 191) (j := 16) bd_191_16
    refine T_ite (fun h6 => ?_) (fun h6 => ?_)
    · exact hk s c f
    · refine T_if1 (by decide +kernel) ?_
      refine T_let 192 (by decide +kernel) ?_
      refine T_if1 (by decide +kernel) ?_
      refine T_get (by decide +kernel) (c := 193) (by decide +kernel) bdr_193 (by decide) c (fun x7 e8 b9 w10 => ?_)
      have l11 : z_ln 192 = 200 := by decide +kernel
      refine T_ite (fun h12 => ?_) (fun h12 => ?_)
      · exact sj_X10_tie_191_J39 hfu r0 s c f a1 (-1) (by omega) (by omega) (2147483647 - a1) (by omega) (fun s' v1 c' f' w1 pg => ih s' v1 c' f' w1 (by omega)) hk
      · refine T_if1 (by decide +kernel) ?_
        refine T_let 206 (by decide +kernel) ?_
        refine T_if1 (by decide +kernel) ?_
        refine T_get (by decide +kernel) (c := 207) (by decide +kernel) bdr_207 (by decide) c (fun x13 e14 b15 w16 => ?_)
        have l17 : z_ln 206 = 200 := by decide +kernel
        exact sj_X10_tie_191_J39 hfu r0 s c f a1 x13 (by omega) (by omega) (2147483647 - a1) (by omega) (fun s' v1 c' f' w1 pg => ih s' v1 c' f' w1 (by omega)) hk
theorem sf_X10_tie_191 {fu : Nat} (hfu : 8589934592 ≤ fu) (r0 : z_M) (c0 : z_CI r0) : z_T (fX10_tie fu r0 191) (P_X10_tie_191 r0) := by
  refine T_of (fX10_tie.eq_1 ..) ?_
  refine T_if1 (by decide +kernel) ?_
  refine T_upg c0 bd_191_18 (by omega) (fun s1 c2 g4 g5 e6 => ?_)
  have f3 := z_Fr.upf (R := R_X10_tie_191) z_Fr.rf g4 g5 (Or.inr (⟨rfl, by decide⟩))
  have t7 : s1 191 16 = r0 191 16 := g5 16 (by decide)
  refine sl_X10_tie_191_L7 hfu r0 (fun s8 c9 f10 => ?_) fu s1 0 c2 f3 (by omega) (by omega)
  have u11 := CI_b c9 (k := 191) (j := 16) bd_191_16
  have u12 := CI_b c9 (k := 191) (j := 18) bd_191_18
  exact T_ret ⟨c9, f10, rfl⟩
abbrev R_X10_build_191 (a b : Int) : Prop := (193 ≤ a ∧ a ≤ 219) ∨ (a = 191 ∧ (b = 16 ∨ b = 17 ∨ b = 18))
abbrev P_X10_build_191 (r0 : z_M) : z_V → z_M → Prop := fun v s' => z_CI s' ∧ z_Fr R_X10_build_191 r0 s' ∧ (z_U s' (s' 6 6)) ∧ (v = vN)
theorem rs_X10_split_191__X10_build_191 (a b : Int) (h : R_X10_split_191 a b) : R_X10_build_191 a b := (h.elim (fun h => (Or.inl (⟨by omega, by omega⟩))) (fun h => (h.elim (fun h => (Or.inl (⟨by omega, by omega⟩))) (fun h => (Or.inr (⟨h.1, by omega⟩))))))
theorem rs_X10_measureUnit_191__X10_build_191 (a b : Int) (h : R_X10_measureUnit_191 a b) : R_X10_build_191 a b := (h.elim (fun h => (Or.inl (⟨by omega, by omega⟩))) (fun h => (Or.inl (⟨by omega, by omega⟩))))
theorem nr_X10_measureUnit_191__195 (b : Int) : ¬ R_X10_measureUnit_191 195 b := by
  unfold R_X10_measureUnit_191; omega
theorem nr_X10_measureUnit_191__197 (b : Int) : ¬ R_X10_measureUnit_191 197 b := by
  unfold R_X10_measureUnit_191; omega
theorem sl_X10_build_191_L6 {fu : Nat} (hfu : 8589934592 ≤ fu) (r0 : z_M) {k : z_M → z_O} (hk : ∀ (s' : z_M), z_CI s' → z_Fr R_X10_build_191 r0 s' → (z_U s' (s' 6 6)) → z_T (k s') (P_X10_build_191 r0)) : ∀ (F : Nat) (s : z_M) (a1 : Int), z_CI s → z_Fr R_X10_build_191 r0 s → (-2147483648 ≤ a1 ∧ a1 ≤ 2147483647) → (z_U s (s 6 6)) → (2147483647 - a1 < (F : Int)) → z_T (fX10_build_L6 fu 191 F s a1 k) (P_X10_build_191 r0) := by
  intro F
  induction F with
  | zero =>
    intro s a1 c f b1 i0 hm
    have u19 := CI_b c (k := 191) (j := 16) bd_191_16
    exfalso; omega
  | succ F ih =>
    intro s a1 c f b1 i0 hm
    refine T_of (fX10_build_L6.eq_2 ..) ?_
    have u1 := CI_b c (k := 191) (j := 16) bd_191_16
    refine T_if1 (by decide +kernel) ?_
    refine T_leq (fun x2 e3 => ?_)
    have u4 := CI_b c (k := 191) (j := 16) bd_191_16
    refine T_ite (fun h5 => ?_) (fun h5 => ?_)
    · exact hk s c f i0
    · refine T_if1 (by decide +kernel) ?_
      refine T_useN (sf_X10_measureUnit_191 hfu s c a1 (by omega)) (fun v11 s6 hq => ?_)
      obtain ⟨c7, f8, rfl⟩ := hq
      refine T_vN ?_
      have f9 := z_Fr.tr (R := R_X10_build_191) f f8 rs_X10_measureUnit_191__X10_build_191
      have t14 : s6 191 16 = s 191 16 := f8 191 16 (by decide)
      have r15 := z_U.fr i0 (f8 191 16 (by decide)) (f8 6 6 (by decide)) (fun b => f8 195 b (nr_X10_measureUnit_191__195 b)) (fun b => f8 197 b (nr_X10_measureUnit_191__197 b))
      refine T_leq (fun x16 e17 => ?_)
      have w18 := z_wb e17
      exact ih s6 x16 c7 f9 (by omega) r15 (by omega)
theorem rs_X10_addUp_191__X10_build_191 (a b : Int) (h : R_X10_addUp_191 a b) : R_X10_build_191 a b := (Or.inl (⟨by omega, by omega⟩))
theorem nr_X10_addUp_191__195 (b : Int) : ¬ R_X10_addUp_191 195 b := by
  unfold R_X10_addUp_191; omega
theorem nr_X10_addUp_191__197 (b : Int) : ¬ R_X10_addUp_191 197 b := by
  unfold R_X10_addUp_191; omega
theorem rs_X10_pairUp_191__X10_build_191 (a b : Int) (h : R_X10_pairUp_191 a b) : R_X10_build_191 a b := (h.elim (fun h => (Or.inl (⟨by omega, by omega⟩))) (fun h => (Or.inr (⟨h.1, by omega⟩))))
theorem nr_X10_pairUp_191__195 (b : Int) : ¬ R_X10_pairUp_191 195 b := by
  unfold R_X10_pairUp_191; omega
theorem nr_X10_pairUp_191__197 (b : Int) : ¬ R_X10_pairUp_191 197 b := by
  unfold R_X10_pairUp_191; omega
theorem nr_X10_allowsEnd_191__195 (b : Int) : ¬ R_X10_allowsEnd_191 195 b := not_false
theorem nr_X10_allowsEnd_191__197 (b : Int) : ¬ R_X10_allowsEnd_191 197 b := not_false
theorem sj_X10_build_191_J61 {fu : Nat} (hfu : 8589934592 ≤ fu) (r0 s : z_M) (c : z_CI s) (f : z_Fr R_X10_build_191 r0 s) (a1 : Int) (t1 : Int) (t2 : Int) (b1 : -2147483648 ≤ a1 ∧ a1 ≤ 2147483646) (d1 : -2147483648 ≤ t1 ∧ t1 ≤ 2147483647) (d2 : 0 ≤ t2 ∧ t2 ≤ 1) (p0 : z_U s (s 6 6)) (M : Int) (pm : 2147483647 - a1 ≤ M) {r : z_M → Int → z_O} {k : z_M → z_O} (hr : ∀ (s' : z_M) (v1 : Int), z_CI s' → z_Fr R_X10_build_191 r0 s' → (-2147483648 ≤ v1 ∧ v1 ≤ 2147483647) → (z_U s' (s' 6 6)) → (2147483647 - v1 < M) → z_T (r s' v1) (P_X10_build_191 r0)) (hk : ∀ (s' : z_M), z_CI s' → z_Fr R_X10_build_191 r0 s' → (z_U s' (s' 6 6)) → z_T (k s') (P_X10_build_191 r0)) : z_T (fX10_build_J61 fu s 191 a1 208 t1 t2 r k) (P_X10_build_191 r0) := by
  refine T_of (fX10_build_J61.eq_1 ..) ?_
  have u1 := CI_b c (k := 191) (j := 16) bd_191_16
  refine T_if1 (by decide +kernel) ?_
  refine T_put (by decide +kernel) (c := 209) (by decide +kernel) bdr_209 (by omega) c (fun s2 e5 c3 g6 => ?_)
  have f4 := z_Fr.up (R := R_X10_build_191) f g6 (fun _ => (Or.inl (⟨by decide, by decide⟩)))
  have t7 : s2 191 16 = s 191 16 := g6 191 16 (by decide)
  have r8 := z_U.fr p0 (g6 191 16 (by decide)) (g6 6 6 (by decide)) (fun b => g6 195 b (by decide)) (fun b => g6 197 b (by decide))
  refine T_leq (fun x9 e10 => ?_)
  have w11 := z_wb e10
  exact hr s2 x9 c3 f4 (by omega) r8 (by omega)
theorem sl_X10_build_191_L35 {fu : Nat} (hfu : 8589934592 ≤ fu) (r0 : z_M) {k : z_M → z_O} (hk : ∀ (s' : z_M), z_CI s' → z_Fr R_X10_build_191 r0 s' → (z_U s' (s' 6 6)) → z_T (k s') (P_X10_build_191 r0)) : ∀ (F : Nat) (s : z_M) (a1 : Int), z_CI s → z_Fr R_X10_build_191 r0 s → (-2147483648 ≤ a1 ∧ a1 ≤ 2147483647) → (z_U s (s 6 6)) → (2147483647 - a1 < (F : Int)) → z_T (fX10_build_L35 fu 191 F s a1 k) (P_X10_build_191 r0) := by
  intro F
  induction F with
  | zero =>
    intro s a1 c f b1 i0 hm
    have u17 := CI_b c (k := 191) (j := 16) bd_191_16
    exfalso; omega
  | succ F ih =>
    intro s a1 c f b1 i0 hm
    refine T_of (fX10_build_L35.eq_2 ..) ?_
    have u1 := CI_b c (k := 191) (j := 16) bd_191_16
    refine T_if1 (by decide +kernel) ?_
    refine T_leq (fun x2 e3 => ?_)
    have u4 := CI_b c (k := 191) (j := 16) bd_191_16
    refine T_ite (fun h5 => ?_) (fun h5 => ?_)
    · exact hk s c f i0
    · refine T_if1 (by decide +kernel) ?_
      refine T_let 208 (by decide +kernel) ?_
      refine T_if1 (by decide +kernel) ?_
      refine T_useI (sf_X10_allowsEnd_191 hfu s c a1 (by omega)) (fun v11 s6 hq => ?_)
      obtain ⟨c7, f8, ⟨x10, rfl, b12, b13⟩⟩ := hq
      refine T_vI ?_
      have f9 := z_Fr.tr (R := R_X10_build_191) f f8 (fun a b h => absurd h not_false)
      have t14 : s6 191 16 = s 191 16 := f8 191 16 (by decide)
      have r15 := z_U.fr i0 (f8 191 16 (by decide)) (f8 6 6 (by decide)) (fun b => f8 195 b (nr_X10_allowsEnd_191__195 b)) (fun b => f8 197 b (nr_X10_allowsEnd_191__197 b))
      refine T_ite (fun h16 => ?_) (fun h16 => ?_)
      · exact sj_X10_build_191_J61 hfu r0 s6 c7 f9 a1 a1 0 (by omega) (by omega) (by omega) r15 (2147483647 - a1) (by omega) (fun s' v1 c' f' w1 z0 pg => ih s' v1 c' f' w1 z0 (by omega)) hk
      · exact sj_X10_build_191_J61 hfu r0 s6 c7 f9 a1 a1 1 (by omega) (by omega) (by omega) r15 (2147483647 - a1) (by omega) (fun s' v1 c' f' w1 z0 pg => ih s' v1 c' f' w1 z0 (by omega)) hk
theorem rs_X10_tie_191__X10_build_191 (a b : Int) (h : R_X10_tie_191 a b) : R_X10_build_191 a b := (h.elim (fun h => (Or.inl (⟨by omega, by omega⟩))) (fun h => (Or.inr (⟨h.1, by omega⟩))))
theorem nr_X10_tie_191__195 (b : Int) : ¬ R_X10_tie_191 195 b := by
  unfold R_X10_tie_191; omega
theorem nr_X10_tie_191__197 (b : Int) : ¬ R_X10_tie_191 197 b := by
  unfold R_X10_tie_191; omega
theorem sf_X10_build_191 {fu : Nat} (hfu : 8589934592 ≤ fu) (r0 : z_M) (c0 : z_CI r0) : z_T (fX10_build fu r0 191) (P_X10_build_191 r0) := by
  refine T_of (fX10_build.eq_1 ..) ?_
  refine T_if1 (by decide +kernel) ?_
  refine T_useN (sf_X10_split_191 hfu r0 c0) (fun v6 s1 hq => ?_)
  obtain ⟨c2, f3, o7, rfl⟩ := hq
  refine T_vN ?_
  have f4 := z_Fr.tr (R := R_X10_build_191) z_Fr.rf f3 rs_X10_split_191__X10_build_191
  have u10 := CI_b c2 (k := 191) (j := 16) bd_191_16
  refine sl_X10_build_191_L6 hfu r0 (fun s11 c12 f13 g14 => ?_) fu s1 0 c2 f4 (by omega) o7 (by omega)
  have u15 := CI_b c12 (k := 191) (j := 16) bd_191_16
  refine T_if1 (by decide +kernel) ?_
  refine T_useN (sf_X10_addUp_191 hfu s11 c12) (fun v21 s16 hq => ?_)
  obtain ⟨c17, f18, rfl⟩ := hq
  refine T_vN ?_
  have f19 := z_Fr.tr (R := R_X10_build_191) f13 f18 rs_X10_addUp_191__X10_build_191
  have t24 : s16 191 16 = s11 191 16 := f18 191 16 (by decide)
  have r25 := z_U.fr g14 (f18 191 16 (by decide)) (f18 6 6 (by decide)) (fun b => f18 195 b (nr_X10_addUp_191__195 b)) (fun b => f18 197 b (nr_X10_addUp_191__197 b))
  refine T_if1 (by decide +kernel) ?_
  refine T_useN (sf_X10_pairUp_191 hfu s16 c17) (fun v31 s26 hq => ?_)
  obtain ⟨c27, f28, rfl⟩ := hq
  refine T_vN ?_
  have f29 := z_Fr.tr (R := R_X10_build_191) f19 f28 rs_X10_pairUp_191__X10_build_191
  have t34 : s26 191 16 = s16 191 16 := f28 191 16 (by decide)
  have r35 := z_U.fr r25 (f28 191 16 (by decide)) (f28 6 6 (by decide)) (fun b => f28 195 b (nr_X10_pairUp_191__195 b)) (fun b => f28 197 b (nr_X10_pairUp_191__197 b))
  refine sl_X10_build_191_L35 hfu r0 (fun s36 c37 f38 g39 => ?_) fu s26 0 c27 f29 (by omega) r35 (by omega)
  have u40 := CI_b c37 (k := 191) (j := 16) bd_191_16
  refine T_if1 (by decide +kernel) ?_
  refine T_useN (sf_X10_tie_191 hfu s36 c37) (fun v46 s41 hq => ?_)
  obtain ⟨c42, f43, rfl⟩ := hq
  refine T_vN ?_
  have f44 := z_Fr.tr (R := R_X10_build_191) f38 f43 rs_X10_tie_191__X10_build_191
  have t49 : s41 191 16 = s36 191 16 := f43 191 16 (by decide)
  have r50 := z_U.fr g39 (f43 191 16 (by decide)) (f43 6 6 (by decide)) (fun b => f43 195 b (nr_X10_tie_191__195 b)) (fun b => f43 197 b (nr_X10_tie_191__197 b))
  exact T_ret ⟨c42, f44, r50, rfl⟩
abbrev R_X5_slotOf (a b : Int) : Prop := False
abbrev P_X5_slotOf (r0 : z_M) : z_V → z_M → Prop := fun v s' => z_CI s' ∧ z_Fr R_X5_slotOf r0 s' ∧ (∃ x, v = vI x ∧ -2147483648 ≤ x ∧ x ≤ 2147483647)
theorem sf_X5_slotOf {fu : Nat} (hfu : 8589934592 ≤ fu) (r0 : z_M) (c0 : z_CI r0) (a0 : Int) (a1 : Int) (b0 : -2147483648 ≤ a0 ∧ a0 ≤ 2147483647) (b1 : -2147483648 ≤ a1 ∧ a1 ≤ 2147483647) : z_T (fX5_slotOf fu r0 a0 a1) (P_X5_slotOf r0) := by
  refine T_of (fX5_slotOf.eq_1 ..) ?_
  refine T_leq (fun x1 e2 => ?_)
  have w3 := z_wr e2
  refine T_leq (fun x4 e5 => ?_)
  have w6 := z_wr e5
  refine T_if1 (by omega) ?_
  refine T_leq (fun x7 e8 => ?_)
  have w9 := z_wr e8
  refine T_leq (fun x10 e11 => ?_)
  have w12 := z_wr e11
  exact T_ret ⟨c0, z_Fr.rf, ⟨x10, rfl, by omega, by omega⟩⟩
abbrev R_X5_trim_220 (a b : Int) : Prop := (a = 220 ∧ (b = 4 ∨ b = 5))
abbrev P_X5_trim_220 (r0 : z_M) : z_V → z_M → Prop := fun v s' => z_CI s' ∧ z_Fr R_X5_trim_220 r0 s' ∧ (v = vN)
theorem sl_X5_trim_220_L10 {fu : Nat} (hfu : 8589934592 ≤ fu) (r0 : z_M) {k : z_M → z_O} (hk : ∀ (s' : z_M), z_CI s' → z_Fr R_X5_trim_220 r0 s' → z_T (k s') (P_X5_trim_220 r0)) : ∀ (F : Nat) (s : z_M), z_CI s → z_Fr R_X5_trim_220 r0 s → (2147483647 - s 220 4 < (F : Int)) → z_T (fX5_trim_L10 fu 220 F s k) (P_X5_trim_220 r0) := by
  intro F
  induction F with
  | zero =>
    intro s c f hm
    have u32 := CI_b c (k := 220) (j := 4) bd_220_4
    have u33 := CI_b c (k := 220) (j := 5) bd_220_5
    exfalso; omega
  | succ F ih =>
    intro s c f hm
    refine T_of (fX5_trim_L10.eq_2 ..) ?_
    have u1 := CI_b c (k := 220) (j := 4) bd_220_4
    have u2 := CI_b c (k := 220) (j := 5) bd_220_5
    refine T_if1 (by decide +kernel) ?_
    refine T_leq (fun x3 e4 => ?_)
    have u5 := CI_b c (k := 220) (j := 4) bd_220_4
    refine T_if1 (by decide +kernel) ?_
    refine T_leq (fun x6 e7 => ?_)
    have u8 := CI_b c (k := 220) (j := 5) bd_220_5
    refine T_ite (fun h9 => ?_) (fun h9 => ?_)
    · exact hk s c f
    · refine T_if1 (by decide +kernel) ?_
      refine T_let 191 (by decide +kernel) ?_
      refine T_if1 (by decide +kernel) ?_
      refine T_let 192 (by decide +kernel) ?_
      refine T_if1 (by decide +kernel) ?_
      refine T_leq (fun x10 e11 => ?_)
      have u12 := CI_b c (k := 220) (j := 4) bd_220_4
      refine T_if1 (by decide +kernel) ?_
      refine T_get (by decide +kernel) (c := 193) (by decide +kernel) bdr_193 (by decide) c (fun x13 e14 b15 w16 => ?_)
      have l17 : z_ln 192 = 200 := by decide +kernel
      refine T_ite (fun h18 => ?_) (fun h18 => ?_)
      · exact hk s c f
      · refine T_if1 (by decide +kernel) ?_
        refine T_leq (fun x19 e20 => ?_)
        have u21 := CI_b c (k := 220) (j := 4) bd_220_4
        refine T_leq (fun x22 e23 => ?_)
        have w24 := z_wb e23
        refine T_if1 (by decide +kernel) ?_
        refine T_upg c bd_220_4 (by omega) (fun s25 c26 g28 g29 e30 => ?_)
        have f27 := z_Fr.upf (R := R_X5_trim_220) f g28 g29 (⟨rfl, by decide⟩)
        have t31 : s25 220 5 = s 220 5 := g29 5 (by decide)
        exact ih s25 c26 f27 (by omega)
theorem sl_X5_trim_220_L53 {fu : Nat} (hfu : 8589934592 ≤ fu) (r0 : z_M) {k : z_M → z_O} (hk : ∀ (s' : z_M), z_CI s' → z_Fr R_X5_trim_220 r0 s' → z_T (k s') (P_X5_trim_220 r0)) : ∀ (F : Nat) (s : z_M), z_CI s → z_Fr R_X5_trim_220 r0 s → (s 220 5 + 2 < (F : Int)) → z_T (fX5_trim_L53 fu 220 F s k) (P_X5_trim_220 r0) := by
  intro F
  induction F with
  | zero =>
    intro s c f hm
    have u32 := CI_b c (k := 220) (j := 4) bd_220_4
    have u33 := CI_b c (k := 220) (j := 5) bd_220_5
    exfalso; omega
  | succ F ih =>
    intro s c f hm
    refine T_of (fX5_trim_L53.eq_2 ..) ?_
    have u1 := CI_b c (k := 220) (j := 4) bd_220_4
    have u2 := CI_b c (k := 220) (j := 5) bd_220_5
    refine T_if1 (by decide +kernel) ?_
    refine T_leq (fun x3 e4 => ?_)
    have u5 := CI_b c (k := 220) (j := 4) bd_220_4
    refine T_if1 (by decide +kernel) ?_
    refine T_leq (fun x6 e7 => ?_)
    have u8 := CI_b c (k := 220) (j := 5) bd_220_5
    refine T_ite (fun h9 => ?_) (fun h9 => ?_)
    · exact hk s c f
    · refine T_if1 (by decide +kernel) ?_
      refine T_let 191 (by decide +kernel) ?_
      refine T_if1 (by decide +kernel) ?_
      refine T_let 192 (by decide +kernel) ?_
      refine T_if1 (by decide +kernel) ?_
      refine T_leq (fun x10 e11 => ?_)
      have u12 := CI_b c (k := 220) (j := 5) bd_220_5
      refine T_if1 (by decide +kernel) ?_
      refine T_get (by decide +kernel) (c := 193) (by decide +kernel) bdr_193 (by decide) c (fun x13 e14 b15 w16 => ?_)
      have l17 : z_ln 192 = 200 := by decide +kernel
      refine T_ite (fun h18 => ?_) (fun h18 => ?_)
      · exact hk s c f
      · refine T_if1 (by decide +kernel) ?_
        refine T_leq (fun x19 e20 => ?_)
        have u21 := CI_b c (k := 220) (j := 5) bd_220_5
        refine T_leq (fun x22 e23 => ?_)
        have w24 := z_wb e23
        refine T_if1 (by decide +kernel) ?_
        refine T_upg c bd_220_5 (by omega) (fun s25 c26 g28 g29 e30 => ?_)
        have f27 := z_Fr.upf (R := R_X5_trim_220) f g28 g29 (⟨rfl, by decide⟩)
        have t31 : s25 220 4 = s 220 4 := g29 4 (by decide)
        exact ih s25 c26 f27 (by omega)
theorem sj_X5_trim_220_J96 {fu : Nat} (hfu : 8589934592 ≤ fu) (r0 s : z_M) (c : z_CI s) (f : z_Fr R_X5_trim_220 r0 s) : z_T (fX5_trim_J96 fu s) (P_X5_trim_220 r0) := by
  refine T_of (fX5_trim_J96.eq_1 ..) ?_
  have u1 := CI_b c (k := 220) (j := 4) bd_220_4
  have u2 := CI_b c (k := 220) (j := 5) bd_220_5
  exact T_ret ⟨c, f, rfl⟩
theorem sf_X5_trim_220 {fu : Nat} (hfu : 8589934592 ≤ fu) (r0 : z_M) (c0 : z_CI r0) (a1 : Int) (a2 : Int) (b1 : 0 ≤ a1 ∧ a1 ≤ 200) (b2 : (-1) ≤ a2 ∧ a2 ≤ 200) : z_T (fX5_trim fu r0 220 a1 a2) (P_X5_trim_220 r0) := by
  refine T_of (fX5_trim.eq_1 ..) ?_
  refine T_if1 (by decide +kernel) ?_
  refine T_upg c0 bd_220_4 (by omega) (fun s1 c2 g4 g5 e6 => ?_)
  have f3 := z_Fr.upf (R := R_X5_trim_220) z_Fr.rf g4 g5 (⟨rfl, by decide⟩)
  have t7 : s1 220 5 = r0 220 5 := g5 5 (by decide)
  refine T_if1 (by decide +kernel) ?_
  refine T_upg c2 bd_220_5 (by omega) (fun s8 c9 g11 g12 e13 => ?_)
  have f10 := z_Fr.upf (R := R_X5_trim_220) f3 g11 g12 (⟨rfl, by decide⟩)
  have t14 : s8 220 4 = s1 220 4 := g12 4 (by decide)
  refine sl_X5_trim_220_L10 hfu r0 (fun s15 c16 f17 => ?_) fu s8 c9 f10 (by omega)
  have u18 := CI_b c16 (k := 220) (j := 4) bd_220_4
  have u19 := CI_b c16 (k := 220) (j := 5) bd_220_5
  refine sl_X5_trim_220_L53 hfu r0 (fun s20 c21 f22 => ?_) fu s15 c16 f17 (by omega)
  have u23 := CI_b c21 (k := 220) (j := 4) bd_220_4
  have u24 := CI_b c21 (k := 220) (j := 5) bd_220_5
  exact sj_X5_trim_220_J96 hfu r0 s20 c21 f22
abbrev R_X5_hangsOut_220 (a b : Int) : Prop := False
abbrev P_X5_hangsOut_220 (r0 : z_M) : z_V → z_M → Prop := fun v s' => z_CI s' ∧ z_Fr R_X5_hangsOut_220 r0 s' ∧ (∃ x, v = vI x ∧ 0 ≤ x ∧ x ≤ 1)
theorem sj_X5_hangsOut_220_J41 {fu : Nat} (hfu : 8589934592 ≤ fu) (r0 s : z_M) (c : z_CI s) (f : z_Fr R_X5_hangsOut_220 r0 s) (t0 : Int) (d0 : 0 ≤ t0 ∧ t0 ≤ 1) : z_T (fX5_hangsOut_J41 fu s t0) (P_X5_hangsOut_220 r0) := by
  refine T_of (fX5_hangsOut_J41.eq_1 ..) ?_
  have u1 := CI_b c (k := 220) (j := 5) bd_220_5
  refine T_if1 (by unfold z_bl; omega) ?_
  exact T_ret ⟨c, f, ⟨t0, rfl, by omega, by omega⟩⟩
theorem sj_X5_hangsOut_220_J40 {fu : Nat} (hfu : 8589934592 ≤ fu) (r0 s : z_M) (c : z_CI s) (f : z_Fr R_X5_hangsOut_220 r0 s) : z_T (fX5_hangsOut_J40 fu s) (P_X5_hangsOut_220 r0) := by
  refine T_of (fX5_hangsOut_J40.eq_1 ..) ?_
  have u1 := CI_b c (k := 220) (j := 5) bd_220_5
  exact sj_X5_hangsOut_220_J41 hfu r0 s c f 0 (by omega)
theorem sf_X5_hangsOut_220 {fu : Nat} (hfu : 8589934592 ≤ fu) (r0 : z_M) (c0 : z_CI r0) (a1 : Int) (b1 : -2147483648 ≤ a1 ∧ a1 ≤ 2147483647) : z_T (fX5_hangsOut fu r0 220 a1) (P_X5_hangsOut_220 r0) := by
  refine T_of (fX5_hangsOut.eq_1 ..) ?_
  refine T_if1 (by decide +kernel) ?_
  refine T_let 2 (by decide +kernel) ?_
  refine T_if1 (by decide +kernel) ?_
  refine T_get (by decide +kernel) (c := 3) (by decide +kernel) bdr_3 (by decide) c0 (fun x1 e2 b3 w4 => ?_)
  have l5 : z_ln 2 = 9 := by decide +kernel
  refine T_ite (fun h6 => ?_) (fun h6 => ?_)
  · exact sj_X5_hangsOut_220_J40 hfu r0 r0 c0 z_Fr.rf
  · refine T_if1 (by decide +kernel) ?_
    refine T_leq (fun x7 e8 => ?_)
    have u9 := CI_b c0 (k := 220) (j := 5) bd_220_5
    refine T_ite (fun h10 => ?_) (fun h10 => ?_)
    · exact sj_X5_hangsOut_220_J40 hfu r0 r0 c0 z_Fr.rf
    · refine T_if1 (by decide +kernel) ?_
      refine T_let 191 (by decide +kernel) ?_
      refine T_if1 (by decide +kernel) ?_
      refine T_let 192 (by decide +kernel) ?_
      refine T_if1 (by decide +kernel) ?_
      refine T_get (by decide +kernel) (c := 193) (by decide +kernel) bdr_193 (by decide) c0 (fun x11 e12 b13 w14 => ?_)
      have l15 : z_ln 192 = 200 := by decide +kernel
      refine T_ite (fun h16 => ?_) (fun h16 => ?_)
      · exact sj_X5_hangsOut_220_J40 hfu r0 r0 c0 z_Fr.rf
      · exact sj_X5_hangsOut_220_J41 hfu r0 r0 c0 z_Fr.rf 1 (by omega)
abbrev R_X5_spaceOf_220 (a b : Int) : Prop := False
abbrev P_X5_spaceOf_220 (r0 : z_M) : z_V → z_M → Prop := fun v s' => z_CI s' ∧ z_Fr R_X5_spaceOf_220 r0 s' ∧ (∃ x, v = vI x ∧ -2147483648 ≤ x ∧ x ≤ 2147483647)
theorem sj_X5_spaceOf_220_J60 {fu : Nat} (hfu : 8589934592 ≤ fu) (r0 s : z_M) (c : z_CI s) (f : z_Fr R_X5_spaceOf_220 r0 s) (t0 : Int) (d0 : 0 ≤ t0 ∧ t0 ≤ 6) : z_T (fX5_spaceOf_J60 fu s t0) (P_X5_spaceOf_220 r0) := by
  refine T_of (fX5_spaceOf_J60.eq_1 ..) ?_
  have u1 := CI_b c (k := 220) (j := 4) bd_220_4
  have u2 := CI_b c (k := 220) (j := 5) bd_220_5
  exact T_ret ⟨c, f, ⟨t0, rfl, by omega, by omega⟩⟩
theorem sj_X5_spaceOf_220_J54 {fu : Nat} (hfu : 8589934592 ≤ fu) (r0 s : z_M) (c : z_CI s) (f : z_Fr R_X5_spaceOf_220 r0 s) : z_T (fX5_spaceOf_J54 fu s) (P_X5_spaceOf_220 r0) := by
  refine T_of (fX5_spaceOf_J54.eq_1 ..) ?_
  have u1 := CI_b c (k := 220) (j := 4) bd_220_4
  have u2 := CI_b c (k := 220) (j := 5) bd_220_5
  exact sj_X5_spaceOf_220_J60 hfu r0 s c f 0 (by omega)
theorem sj_X5_spaceOf_220_J22 {fu : Nat} (hfu : 8589934592 ≤ fu) (r0 s : z_M) (c : z_CI s) (f : z_Fr R_X5_spaceOf_220 r0 s) (a1 : Int) (b1 : -2147483648 ≤ a1 ∧ a1 ≤ 2147483647) : z_T (fX5_spaceOf_J22 fu s 220 a1) (P_X5_spaceOf_220 r0) := by
  refine T_of (fX5_spaceOf_J22.eq_1 ..) ?_
  have u1 := CI_b c (k := 220) (j := 4) bd_220_4
  have u2 := CI_b c (k := 220) (j := 5) bd_220_5
  refine T_if1 (by decide +kernel) ?_
  refine T_let 191 (by decide +kernel) ?_
  refine T_if1 (by decide +kernel) ?_
  refine T_let 192 (by decide +kernel) ?_
  refine T_leq (fun x3 e4 => ?_)
  have w5 := z_wr e4
  refine T_if1 (by decide +kernel) ?_
  refine T_get (by decide +kernel) (c := 193) (by decide +kernel) bdr_193 (by decide) c (fun x6 e7 b8 w9 => ?_)
  have l10 : z_ln 192 = 200 := by decide +kernel
  refine T_if1 (by decide +kernel) ?_
  refine T_leq (fun x11 e12 => ?_)
  have u13 := CI_b c (k := 220) (j := 5) bd_220_5
  refine T_ite (fun h14 => ?_) (fun h14 => ?_)
  · exact sj_X5_spaceOf_220_J54 hfu r0 s c f
  · refine T_ite (fun h15 => ?_) (fun h15 => ?_)
    · exact sj_X5_spaceOf_220_J54 hfu r0 s c f
    · refine T_ite (fun h16 => ?_) (fun h16 => ?_)
      · exact sj_X5_spaceOf_220_J60 hfu r0 s c f 6 (by omega)
      · exact sj_X5_spaceOf_220_J54 hfu r0 s c f
theorem sj_X5_spaceOf_220_J109 {fu : Nat} (hfu : 8589934592 ≤ fu) (r0 s : z_M) (c : z_CI s) (f : z_Fr R_X5_spaceOf_220 r0 s) (t0 : Int) (d0 : 0 ≤ t0 ∧ t0 ≤ 6) : z_T (fX5_spaceOf_J109 fu s t0) (P_X5_spaceOf_220 r0) := by
  refine T_of (fX5_spaceOf_J109.eq_1 ..) ?_
  have u1 := CI_b c (k := 220) (j := 4) bd_220_4
  have u2 := CI_b c (k := 220) (j := 5) bd_220_5
  exact T_ret ⟨c, f, ⟨t0, rfl, by omega, by omega⟩⟩
theorem sj_X5_spaceOf_220_J103 {fu : Nat} (hfu : 8589934592 ≤ fu) (r0 s : z_M) (c : z_CI s) (f : z_Fr R_X5_spaceOf_220 r0 s) : z_T (fX5_spaceOf_J103 fu s) (P_X5_spaceOf_220 r0) := by
  refine T_of (fX5_spaceOf_J103.eq_1 ..) ?_
  have u1 := CI_b c (k := 220) (j := 4) bd_220_4
  have u2 := CI_b c (k := 220) (j := 5) bd_220_5
  exact sj_X5_spaceOf_220_J109 hfu r0 s c f 0 (by omega)
theorem sf_X5_spaceOf_220 {fu : Nat} (hfu : 8589934592 ≤ fu) (r0 : z_M) (c0 : z_CI r0) (a1 : Int) (b1 : -2147483648 ≤ a1 ∧ a1 ≤ 2147483647) : z_T (fX5_spaceOf fu r0 220 a1) (P_X5_spaceOf_220 r0) := by
  refine T_of (fX5_spaceOf.eq_1 ..) ?_
  refine T_if1 (by decide +kernel) ?_
  refine T_let 191 (by decide +kernel) ?_
  refine T_if1 (by decide +kernel) ?_
  refine T_let 192 (by decide +kernel) ?_
  refine T_if1 (by decide +kernel) ?_
  refine T_get (by decide +kernel) (c := 193) (by decide +kernel) bdr_193 (by decide) c0 (fun x1 e2 b3 w4 => ?_)
  have l5 : z_ln 192 = 200 := by decide +kernel
  refine T_ite (fun h6 => ?_) (fun h6 => ?_)
  · exact sj_X5_spaceOf_220_J22 hfu r0 r0 c0 z_Fr.rf a1 (by omega)
  · refine T_ite (fun h7 => ?_) (fun h7 => ?_)
    · refine T_ite (fun h8 => ?_) (fun h8 => ?_)
      · exact T_ret ⟨c0, z_Fr.rf, ⟨0, rfl, by omega, by omega⟩⟩
      · refine T_if1 (by decide +kernel) ?_
        refine T_let 191 (by decide +kernel) ?_
        refine T_if1 (by decide +kernel) ?_
        refine T_let 192 (by decide +kernel) ?_
        refine T_leq (fun x9 e10 => ?_)
        have w11 := z_wr e10
        refine T_if1 (by decide +kernel) ?_
        refine T_get (by decide +kernel) (c := 193) (by decide +kernel) bdr_193 (by decide) c0 (fun x12 e13 b14 w15 => ?_)
        have l16 : z_ln 192 = 200 := by decide +kernel
        refine T_if1 (by decide +kernel) ?_
        refine T_leq (fun x17 e18 => ?_)
        have u19 := CI_b c0 (k := 220) (j := 4) bd_220_4
        refine T_ite (fun h20 => ?_) (fun h20 => ?_)
        · exact sj_X5_spaceOf_220_J103 hfu r0 r0 c0 z_Fr.rf
        · refine T_ite (fun h21 => ?_) (fun h21 => ?_)
          · exact sj_X5_spaceOf_220_J103 hfu r0 r0 c0 z_Fr.rf
          · refine T_ite (fun h22 => ?_) (fun h22 => ?_)
            · exact sj_X5_spaceOf_220_J103 hfu r0 r0 c0 z_Fr.rf
            · refine T_ite (fun h23 => ?_) (fun h23 => ?_)
              · exact sj_X5_spaceOf_220_J109 hfu r0 r0 c0 z_Fr.rf 6 (by omega)
              · exact sj_X5_spaceOf_220_J103 hfu r0 r0 c0 z_Fr.rf
    · exact sj_X5_spaceOf_220_J22 hfu r0 r0 c0 z_Fr.rf a1 (by omega)
abbrev R_X0_clear_223 (a b : Int) : Prop := (a = 223 ∧ (b = 9))
abbrev P_X0_clear_223 (r0 : z_M) : z_V → z_M → Prop := fun v s' => z_CI s' ∧ z_Fr R_X0_clear_223 r0 s' ∧ (v = vN)
theorem sf_X0_clear_223 {fu : Nat} (hfu : 8589934592 ≤ fu) (r0 : z_M) (c0 : z_CI r0) : z_T (fX0_clear fu r0 223) (P_X0_clear_223 r0) := by
  refine T_of (fX0_clear.eq_1 ..) ?_
  refine T_if1 (by decide +kernel) ?_
  refine T_upg c0 bd_223_9 (by omega) (fun s1 c2 g4 g5 e6 => ?_)
  have f3 := z_Fr.upf (R := R_X0_clear_223) z_Fr.rf g4 g5 (⟨rfl, by decide⟩)
  exact T_ret ⟨c2, f3, rfl⟩
abbrev R_X0_gather_223 (a b : Int) : Prop := (225 ≤ a ∧ a ≤ 231) ∨ (237 ≤ a ∧ a ≤ 239) ∨ (a = 223 ∧ (b = 9))
abbrev P_X0_gather_223 (r0 : z_M) : z_V → z_M → Prop := fun v s' => z_CI s' ∧ z_Fr R_X0_gather_223 r0 s' ∧ (v = vN)
theorem sj_X0_gather_223_J245 {fu : Nat} (hfu : 8589934592 ≤ fu) (r0 s : z_M) (c : z_CI s) (f : z_Fr R_X0_gather_223 r0 s) (a1 : Int) (a2 : Int) (a3 : Int) (b1 : 0 ≤ a1 ∧ a1 ≤ 201) (b2 : (-1) ≤ a2 ∧ a2 ≤ 200) (b3 : 0 ≤ a3 ∧ a3 ≤ 200) (M : Int) (pm : 2147483647 - a3 ≤ M) {r : z_M → Int → z_O} {k : z_M → z_O} (hr : ∀ (s' : z_M) (v3 : Int), z_CI s' → z_Fr R_X0_gather_223 r0 s' → (0 ≤ v3 ∧ v3 ≤ 201) → (2147483647 - v3 < M) → z_T (r s' v3) (P_X0_gather_223 r0)) (hk : ∀ (s' : z_M), z_CI s' → z_Fr R_X0_gather_223 r0 s' → z_T (k s') (P_X0_gather_223 r0)) : z_T (fX0_gather_J245 fu s 223 a1 a2 a3 r k) (P_X0_gather_223 r0) := by
  refine T_of (fX0_gather_J245.eq_1 ..) ?_
  have u1 := CI_b c (k := 223) (j := 9) bd_223_9
  refine T_leq (fun x2 e3 => ?_)
  have w4 := z_wb e3
  exact hr s x2 c f (by omega) (by omega)
theorem sj_X0_gather_223_J116 {fu : Nat} (hfu : 8589934592 ≤ fu) (r0 s : z_M) (c : z_CI s) (f : z_Fr R_X0_gather_223 r0 s) (a1 : Int) (a2 : Int) (a3 : Int) (b1 : 0 ≤ a1 ∧ a1 ≤ 201) (b2 : (-1) ≤ a2 ∧ a2 ≤ 200) (b3 : 0 ≤ a3 ∧ a3 ≤ 200) (M : Int) (pm : 2147483647 - a3 ≤ M) {r : z_M → Int → z_O} {k : z_M → z_O} (hr : ∀ (s' : z_M) (v3 : Int), z_CI s' → z_Fr R_X0_gather_223 r0 s' → (0 ≤ v3 ∧ v3 ≤ 201) → (2147483647 - v3 < M) → z_T (r s' v3) (P_X0_gather_223 r0)) (hk : ∀ (s' : z_M), z_CI s' → z_Fr R_X0_gather_223 r0 s' → z_T (k s') (P_X0_gather_223 r0)) : z_T (fX0_gather_J116 fu s 223 a1 a2 a3 r k) (P_X0_gather_223 r0) := by
  refine T_of (fX0_gather_J116.eq_1 ..) ?_
  have u1 := CI_b c (k := 223) (j := 9) bd_223_9
  refine T_if1 (by decide +kernel) ?_
  refine T_leq (fun x2 e3 => ?_)
  have u4 := CI_b c (k := 223) (j := 9) bd_223_9
  refine T_leq (fun x5 e6 => ?_)
  have w7 := z_wr e6
  refine T_if1 (by decide +kernel) ?_
  refine T_let 226 (by decide +kernel) ?_
  refine T_if1 (by decide +kernel) ?_
  refine T_put (by decide +kernel) (c := 227) (by decide +kernel) bdr_227 (by omega) c (fun s8 e11 c9 g12 => ?_)
  have f10 := z_Fr.up (R := R_X0_gather_223) f g12 (fun _ => (Or.inl (⟨by decide, by decide⟩)))
  have t13 : s8 223 9 = s 223 9 := g12 223 9 (by decide)
  refine T_if1 (by decide +kernel) ?_
  refine T_let 228 (by decide +kernel) ?_
  refine T_if1 (by decide +kernel) ?_
  refine T_let 191 (by decide +kernel) ?_
  refine T_if1 (by decide +kernel) ?_
  refine T_let 198 (by decide +kernel) ?_
  refine T_if1 (by decide +kernel) ?_
  refine T_get (by decide +kernel) (c := 199) (by decide +kernel) bdr_199 (by decide) c9 (fun x14 e15 b16 w17 => ?_)
  have l18 : z_ln 198 = 200 := by decide +kernel
  refine T_if1 (by decide +kernel) ?_
  refine T_add (by decide +kernel) (c := 229) (by decide +kernel) bdr_229 c9 (fun s19 e22 c20 g23 => ?_)
  have f21 := z_Fr.up (R := R_X0_gather_223) f10 g23 (fun _ => (Or.inl (⟨by decide, by decide⟩)))
  have t24 : s19 223 9 = s8 223 9 := g23 223 9 (by decide)
  refine T_if1 (by decide +kernel) ?_
  refine T_let 236 (by decide +kernel) ?_
  refine T_if1 (by decide +kernel) ?_
  refine T_let 191 (by decide +kernel) ?_
  refine T_if1 (by decide +kernel) ?_
  refine T_let 202 (by decide +kernel) ?_
  refine T_if1 (by decide +kernel) ?_
  refine T_get (by decide +kernel) (c := 203) (by decide +kernel) bdr_203 (by decide) c20 (fun x25 e26 b27 w28 => ?_)
  have l29 : z_ln 202 = 200 := by decide +kernel
  refine T_if1 (by decide +kernel) ?_
  refine T_add (by decide +kernel) (c := 237) (by decide +kernel) bdr_237 c20 (fun s30 e33 c31 g34 => ?_)
  have f32 := z_Fr.up (R := R_X0_gather_223) f21 g34 (fun _ => (Or.inr (Or.inl (⟨by decide, by decide⟩))))
  have t35 : s30 223 9 = s19 223 9 := g34 223 9 (by decide)
  refine T_if1 (by decide +kernel) ?_
  refine T_let 238 (by decide +kernel) ?_
  refine T_if1 (by decide +kernel) ?_
  refine T_let 191 (by decide +kernel) ?_
  refine T_if1 (by decide +kernel) ?_
  refine T_let 204 (by decide +kernel) ?_
  refine T_if1 (by decide +kernel) ?_
  refine T_get (by decide +kernel) (c := 205) (by decide +kernel) bdr_205 (by decide) c31 (fun x36 e37 b38 w39 => ?_)
  have l40 : z_ln 204 = 200 := by decide +kernel
  refine T_if1 (by decide +kernel) ?_
  refine T_add (by decide +kernel) (c := 239) (by decide +kernel) bdr_239 c31 (fun s41 e44 c42 g45 => ?_)
  have f43 := z_Fr.up (R := R_X0_gather_223) f32 g45 (fun _ => (Or.inr (Or.inl (⟨by decide, by decide⟩))))
  have t46 : s41 223 9 = s30 223 9 := g45 223 9 (by decide)
  refine T_if1 (by decide +kernel) ?_
  refine T_let 236 (by decide +kernel) ?_
  refine T_if1 (by decide +kernel) ?_
  refine T_get (by decide +kernel) (c := 237) (by decide +kernel) bdr_237 (by decide) c42 (fun x47 e48 b49 w50 => ?_)
  have l51 : z_ln 236 = 200 := by decide +kernel
  refine T_if1 (by decide +kernel) ?_
  refine T_let 238 (by decide +kernel) ?_
  refine T_if1 (by decide +kernel) ?_
  refine T_get (by decide +kernel) (c := 239) (by decide +kernel) bdr_239 (by decide) c42 (fun x52 e53 b54 w55 => ?_)
  have l56 : z_ln 238 = 200 := by decide +kernel
  refine T_leq (fun x57 e58 => ?_)
  have w59 := z_maxb x47 x52
  rw [e58] at w59
  refine T_leq (fun x60 e61 => ?_)
  have w62 := z_wr e61
  refine T_if1 (by decide +kernel) ?_
  refine T_let 230 (by decide +kernel) ?_
  refine T_if1 (by decide +kernel) ?_
  refine T_let 228 (by decide +kernel) ?_
  refine T_if1 (by decide +kernel) ?_
  refine T_get (by decide +kernel) (c := 229) (by decide +kernel) bdr_229 (by decide) c42 (fun x63 e64 b65 w66 => ?_)
  have l67 : z_ln 228 = 200 := by decide +kernel
  refine T_leq (fun x68 e69 => ?_)
  have w70 := z_wr e69
  refine T_leq (fun x71 e72 => ?_)
  have w73 := z_maxb 0 x68
  rw [e72] at w73
  refine T_if1 (by decide +kernel) ?_
  refine T_put (by decide +kernel) (c := 231) (by decide +kernel) bdr_231 (by omega) c42 (fun s74 e77 c75 g78 => ?_)
  have f76 := z_Fr.up (R := R_X0_gather_223) f43 g78 (fun _ => (Or.inl (⟨by decide, by decide⟩)))
  have t79 : s74 223 9 = s41 223 9 := g78 223 9 (by decide)
  exact sj_X0_gather_223_J245 hfu r0 s74 c75 f76 a1 a2 a3 (by omega) (by omega) (by omega) M (by omega) (fun s' v3 c' f' w3 pg => hr s' v3 c' f' w3 (by omega)) hk
theorem sj_X0_gather_223_J58 {fu : Nat} (hfu : 8589934592 ≤ fu) (r0 s : z_M) (c : z_CI s) (f : z_Fr R_X0_gather_223 r0 s) (a1 : Int) (a2 : Int) (a3 : Int) (b1 : 0 ≤ a1 ∧ a1 ≤ 201) (b2 : (-1) ≤ a2 ∧ a2 ≤ 200) (b3 : 0 ≤ a3 ∧ a3 ≤ 200) (M : Int) (pm : 2147483647 - a3 ≤ M) {r : z_M → Int → z_O} {k : z_M → z_O} (hr : ∀ (s' : z_M) (v3 : Int), z_CI s' → z_Fr R_X0_gather_223 r0 s' → (0 ≤ v3 ∧ v3 ≤ 201) → (2147483647 - v3 < M) → z_T (r s' v3) (P_X0_gather_223 r0)) (hk : ∀ (s' : z_M), z_CI s' → z_Fr R_X0_gather_223 r0 s' → z_T (k s') (P_X0_gather_223 r0)) : z_T (fX0_gather_J58 fu s 223 a1 a2 a3 r k) (P_X0_gather_223 r0) := by
  refine T_of (fX0_gather_J58.eq_1 ..) ?_
  have u1 := CI_b c (k := 223) (j := 9) bd_223_9
  refine T_if1 (by decide +kernel) ?_
  refine T_let 224 (by decide +kernel) ?_
  refine T_if1 (by decide +kernel) ?_
  refine T_leq (fun x2 e3 => ?_)
  have u4 := CI_b c (k := 223) (j := 9) bd_223_9
  refine T_if1 (by decide +kernel) ?_
  refine T_put (by decide +kernel) (c := 225) (by decide +kernel) bdr_225 (by omega) c (fun s5 e8 c6 g9 => ?_)
  have f7 := z_Fr.up (R := R_X0_gather_223) f g9 (fun _ => (Or.inl (⟨by decide, by decide⟩)))
  have t10 : s5 223 9 = s 223 9 := g9 223 9 (by decide)
  refine T_if1 (by decide +kernel) ?_
  refine T_let 228 (by decide +kernel) ?_
  refine T_if1 (by decide +kernel) ?_
  refine T_leq (fun x11 e12 => ?_)
  have u13 := CI_b c6 (k := 223) (j := 9) bd_223_9
  refine T_if1 (by decide +kernel) ?_
  refine T_put (by decide +kernel) (c := 229) (by decide +kernel) bdr_229 (by omega) c6 (fun s14 e17 c15 g18 => ?_)
  have f16 := z_Fr.up (R := R_X0_gather_223) f7 g18 (fun _ => (Or.inl (⟨by decide, by decide⟩)))
  have t19 : s14 223 9 = s5 223 9 := g18 223 9 (by decide)
  refine T_if1 (by decide +kernel) ?_
  refine T_let 236 (by decide +kernel) ?_
  refine T_if1 (by decide +kernel) ?_
  refine T_leq (fun x20 e21 => ?_)
  have u22 := CI_b c15 (k := 223) (j := 9) bd_223_9
  refine T_if1 (by decide +kernel) ?_
  refine T_put (by decide +kernel) (c := 237) (by decide +kernel) bdr_237 (by omega) c15 (fun s23 e26 c24 g27 => ?_)
  have f25 := z_Fr.up (R := R_X0_gather_223) f16 g27 (fun _ => (Or.inr (Or.inl (⟨by decide, by decide⟩))))
  have t28 : s23 223 9 = s14 223 9 := g27 223 9 (by decide)
  refine T_if1 (by decide +kernel) ?_
  refine T_let 238 (by decide +kernel) ?_
  refine T_if1 (by decide +kernel) ?_
  refine T_leq (fun x29 e30 => ?_)
  have u31 := CI_b c24 (k := 223) (j := 9) bd_223_9
  refine T_if1 (by decide +kernel) ?_
  refine T_put (by decide +kernel) (c := 239) (by decide +kernel) bdr_239 (by omega) c24 (fun s32 e35 c33 g36 => ?_)
  have f34 := z_Fr.up (R := R_X0_gather_223) f25 g36 (fun _ => (Or.inr (Or.inl (⟨by decide, by decide⟩))))
  have t37 : s32 223 9 = s23 223 9 := g36 223 9 (by decide)
  refine T_if1 (by decide +kernel) ?_
  refine T_leq (fun x38 e39 => ?_)
  have u40 := CI_b c33 (k := 223) (j := 9) bd_223_9
  refine T_leq (fun x41 e42 => ?_)
  have w43 := z_wr e42
  refine T_if1 (by decide +kernel) ?_
  refine T_upg c33 bd_223_9 (by omega) (fun s44 c45 g47 g48 e49 => ?_)
  have f46 := z_Fr.upf (R := R_X0_gather_223) f34 g47 g48 (Or.inr (Or.inr (⟨rfl, by decide⟩)))
  exact sj_X0_gather_223_J116 hfu r0 s44 c45 f46 a1 a2 a3 (by omega) (by omega) (by omega) M (by omega) (fun s' v3 c' f' w3 pg => hr s' v3 c' f' w3 (by omega)) hk
theorem sl_X0_gather_223_L2 {fu : Nat} (hfu : 8589934592 ≤ fu) (r0 : z_M) (a1 : Int) (a2 : Int) (b1 : 0 ≤ a1 ∧ a1 ≤ 201) (b2 : (-1) ≤ a2 ∧ a2 ≤ 200) {k : z_M → z_O} (hk : ∀ (s' : z_M), z_CI s' → z_Fr R_X0_gather_223 r0 s' → z_T (k s') (P_X0_gather_223 r0)) : ∀ (F : Nat) (s : z_M) (a3 : Int), z_CI s → z_Fr R_X0_gather_223 r0 s → (0 ≤ a3 ∧ a3 ≤ 201) → (2147483647 - a3 < (F : Int)) → z_T (fX0_gather_L2 fu 223 a1 a2 F s a3 k) (P_X0_gather_223 r0) := by
  intro F
  induction F with
  | zero =>
    intro s a3 c f b3 hm
    have u24 := CI_b c (k := 223) (j := 9) bd_223_9
    exfalso; omega
  | succ F ih =>
    intro s a3 c f b3 hm
    refine T_of (fX0_gather_L2.eq_2 ..) ?_
    have u1 := CI_b c (k := 223) (j := 9) bd_223_9
    refine T_ite (fun h2 => ?_) (fun h2 => ?_)
    · exact hk s c f
    · refine T_if1 (by decide +kernel) ?_
      refine T_let 191 (by decide +kernel) ?_
      refine T_if1 (by decide +kernel) ?_
      refine T_let 192 (by decide +kernel) ?_
      refine T_if1 (by decide +kernel) ?_
      refine T_get (by decide +kernel) (c := 193) (by decide +kernel) bdr_193 (by decide) c (fun x3 e4 b5 w6 => ?_)
      have l7 : z_ln 192 = 200 := by decide +kernel
      refine T_ite (fun h8 => ?_) (fun h8 => ?_)
      · refine T_ite (fun h9 => ?_) (fun h9 => ?_)
        · exact sj_X0_gather_223_J58 hfu r0 s c f a1 a2 a3 (by omega) (by omega) (by omega) (2147483647 - a3) (by omega) (fun s' v3 c' f' w3 pg => ih s' v3 c' f' w3 (by omega)) hk
        · refine T_if1 (by decide +kernel) ?_
          refine T_let 191 (by decide +kernel) ?_
          refine T_if1 (by decide +kernel) ?_
          refine T_let 200 (by decide +kernel) ?_
          refine T_leq (fun x10 e11 => ?_)
          have w12 := z_wr e11
          refine T_if1 (by decide +kernel) ?_
          refine T_get (by decide +kernel) (c := 201) (by decide +kernel) bdr_201 (by decide) c (fun x13 e14 b15 w16 => ?_)
          have l17 : z_ln 200 = 200 := by decide +kernel
          refine T_if1 (by decide +kernel) ?_
          refine T_let 191 (by decide +kernel) ?_
          refine T_if1 (by decide +kernel) ?_
          refine T_let 200 (by decide +kernel) ?_
          refine T_if1 (by decide +kernel) ?_
          refine T_get (by decide +kernel) (c := 201) (by decide +kernel) bdr_201 (by decide) c (fun x18 e19 b20 w21 => ?_)
          have l22 : z_ln 200 = 200 := by decide +kernel
          refine T_ite (fun h23 => ?_) (fun h23 => ?_)
          · exact sj_X0_gather_223_J116 hfu r0 s c f a1 a2 a3 (by omega) (by omega) (by omega) (2147483647 - a3) (by omega) (fun s' v3 c' f' w3 pg => ih s' v3 c' f' w3 (by omega)) hk
          · exact sj_X0_gather_223_J58 hfu r0 s c f a1 a2 a3 (by omega) (by omega) (by omega) (2147483647 - a3) (by omega) (fun s' v3 c' f' w3 pg => ih s' v3 c' f' w3 (by omega)) hk
      · exact sj_X0_gather_223_J245 hfu r0 s c f a1 a2 a3 (by omega) (by omega) (by omega) (2147483647 - a3) (by omega) (fun s' v3 c' f' w3 pg => ih s' v3 c' f' w3 (by omega)) hk
theorem sf_X0_gather_223 {fu : Nat} (hfu : 8589934592 ≤ fu) (r0 : z_M) (c0 : z_CI r0) (a1 : Int) (a2 : Int) (b1 : 0 ≤ a1 ∧ a1 ≤ 201) (b2 : (-1) ≤ a2 ∧ a2 ≤ 200) : z_T (fX0_gather fu r0 223 a1 a2) (P_X0_gather_223 r0) := by
  refine T_of (fX0_gather.eq_1 ..) ?_
  refine sl_X0_gather_223_L2 hfu r0 a1 a2 (by omega) (by omega) (fun s1 c2 f3 => ?_) fu r0 a1 c0 z_Fr.rf (by omega) (by omega)
  have u4 := CI_b c2 (k := 223) (j := 9) bd_223_9
  exact T_ret ⟨c2, f3, rfl⟩
abbrev R_X0_room (a b : Int) : Prop := False
abbrev P_X0_room (r0 : z_M) : z_V → z_M → Prop := fun v s' => z_CI s' ∧ z_Fr R_X0_room r0 s' ∧ (∃ x, v = vI x ∧ -2147483648 ≤ x ∧ x ≤ 2147483647)
theorem sj_X0_room_J58 {fu : Nat} (hfu : 8589934592 ≤ fu) (r0 s : z_M) (c : z_CI s) (f : z_Fr R_X0_room r0 s) (t0 : Int) (d0 : 0 ≤ t0 ∧ t0 ≤ 6) : z_T (fX0_room_J58 fu s t0) (P_X0_room r0) := by
  refine T_of (fX0_room_J58.eq_1 ..) ?_
  exact T_ret ⟨c, f, ⟨t0, rfl, by omega, by omega⟩⟩
theorem sj_X0_room_J69 {fu : Nat} (hfu : 8589934592 ≤ fu) (r0 s : z_M) (c : z_CI s) (f : z_Fr R_X0_room r0 s) (t0 : Int) (d0 : 0 ≤ t0 ∧ t0 ≤ 6) : z_T (fX0_room_J69 fu s t0) (P_X0_room r0) := by
  refine T_of (fX0_room_J69.eq_1 ..) ?_
  exact T_ret ⟨c, f, ⟨t0, rfl, by omega, by omega⟩⟩
theorem sf_X0_room {fu : Nat} (hfu : 8589934592 ≤ fu) (r0 : z_M) (c0 : z_CI r0) (a0 : Int) (a1 : Int) (a2 : Int) (b0 : -2147483648 ≤ a0 ∧ a0 ≤ 2147483647) (b1 : -2147483648 ≤ a1 ∧ a1 ≤ 2147483647) (b2 : -2147483648 ≤ a2 ∧ a2 ≤ 2147483647) : z_T (fX0_room fu r0 a0 a1 a2) (P_X0_room r0) := by
  refine T_of (fX0_room.eq_1 ..) ?_
  refine T_ite (fun h1 => ?_) (fun h1 => ?_)
  · exact T_ret ⟨c0, z_Fr.rf, ⟨a1, rfl, by omega, by omega⟩⟩
  · refine T_ite (fun h2 => ?_) (fun h2 => ?_)
    · exact T_ret ⟨c0, z_Fr.rf, ⟨a1, rfl, by omega, by omega⟩⟩
    · refine T_ite (fun h3 => ?_) (fun h3 => ?_)
      · exact T_ret ⟨c0, z_Fr.rf, ⟨a1, rfl, by omega, by omega⟩⟩
      · refine T_ite (fun h4 => ?_) (fun h4 => ?_)
        · refine T_ite (fun h5 => ?_) (fun h5 => ?_)
          · exact sj_X0_room_J58 hfu r0 r0 c0 z_Fr.rf 0 (by omega)
          · exact sj_X0_room_J58 hfu r0 r0 c0 z_Fr.rf 6 (by omega)
        · refine T_ite (fun h6 => ?_) (fun h6 => ?_)
          · refine T_ite (fun h7 => ?_) (fun h7 => ?_)
            · exact sj_X0_room_J69 hfu r0 r0 c0 z_Fr.rf 6 (by omega)
            · exact sj_X0_room_J69 hfu r0 r0 c0 z_Fr.rf 0 (by omega)
          · refine T_ite (fun h8 => ?_) (fun h8 => ?_)
            · refine T_ite (fun h9 => ?_) (fun h9 => ?_)
              · exact sj_X0_room_J58 hfu r0 r0 c0 z_Fr.rf 0 (by omega)
              · exact sj_X0_room_J58 hfu r0 r0 c0 z_Fr.rf 6 (by omega)
            · refine T_ite (fun h10 => ?_) (fun h10 => ?_)
              · exact T_ret ⟨c0, z_Fr.rf, ⟨4, rfl, by omega, by omega⟩⟩
              · exact T_ret ⟨c0, z_Fr.rf, ⟨0, rfl, by omega, by omega⟩⟩
abbrev R_X0_hang_223 (a b : Int) : Prop := (233 ≤ a ∧ a ≤ 235)
abbrev P_X0_hang_223 (r0 : z_M) : z_V → z_M → Prop := fun v s' => z_CI s' ∧ z_Fr R_X0_hang_223 r0 s' ∧ (∃ x, v = vI x ∧ -2147483648 ≤ x ∧ x ≤ 2147483647)
theorem sj_X0_hang_223_J229 {fu : Nat} (hfu : 8589934592 ≤ fu) (r0 s : z_M) (c : z_CI s) (f : z_Fr R_X0_hang_223 r0 s) (a1 : Int) (a3 : Int) (a4 : Int) (a5 : Int) (a6 : Int) (a7 : Int) (a9 : Int) (a10 : Int) (a11 : Int) (b1 : -2147483648 ≤ a1 ∧ a1 ≤ 2147483647) (b3 : -2147483648 ≤ a3 ∧ a3 ≤ 2147483647) (b4 : -2147483648 ≤ a4 ∧ a4 ≤ 2147483647) (b5 : -2147483648 ≤ a5 ∧ a5 ≤ 2147483647) (b6 : -2147483648 ≤ a6 ∧ a6 ≤ 2147483647) (b7 : -2147483648 ≤ a7 ∧ a7 ≤ 2147483646) (b9 : -2147483648 ≤ a9 ∧ a9 ≤ 2147483647) (b10 : -2147483648 ≤ a10 ∧ a10 ≤ 2147483647) (b11 : -2147483648 ≤ a11 ∧ a11 ≤ 2147483647) (M : Int) (pm : 2147483647 - a7 ≤ M) {r : z_M → Int → Int → z_O} {k : z_M → Int → z_O} (hr : ∀ (s' : z_M) (v5 : Int) (v7 : Int), z_CI s' → z_Fr R_X0_hang_223 r0 s' → (-2147483648 ≤ v5 ∧ v5 ≤ 2147483647) → (-2147483648 ≤ v7 ∧ v7 ≤ 2147483647) → (2147483647 - v7 < M) → z_T (r s' v5 v7) (P_X0_hang_223 r0)) (hk : ∀ (s' : z_M) (v5 : Int), z_CI s' → z_Fr R_X0_hang_223 r0 s' → (-2147483648 ≤ v5 ∧ v5 ≤ 2147483647) → z_T (k s' v5) (P_X0_hang_223 r0)) : z_T (fX0_hang_J229 fu s 223 a1 a3 a4 a5 a6 a7 a9 a10 a11 r k) (P_X0_hang_223 r0) := by
  refine T_of (fX0_hang_J229.eq_1 ..) ?_
  have u1 := CI_b c (k := 223) (j := 9) bd_223_9
  refine T_if1 (by decide +kernel) ?_
  refine T_let 232 (by decide +kernel) ?_
  refine T_if1 (by omega) ?_
  refine T_leq (fun x2 e3 => ?_)
  have w4 := z_wr e3
  refine T_leq (fun x5 e6 => ?_)
  have w7 := z_minb x2 a10
  rw [e6] at w7
  refine T_if1 (by decide +kernel) ?_
  refine T_put (by decide +kernel) (c := 233) (by decide +kernel) bdr_233 (by omega) c (fun s8 e11 c9 g12 => ?_)
  have f10 := z_Fr.up (R := R_X0_hang_223) f g12 (fun _ => (⟨by decide, by decide⟩))
  have t13 : s8 223 9 = s 223 9 := g12 223 9 (by decide)
  refine T_if1 (by decide +kernel) ?_
  refine T_let 234 (by decide +kernel) ?_
  refine T_if1 (by omega) ?_
  refine T_leq (fun x14 e15 => ?_)
  have w16 := z_wr e15
  refine T_leq (fun x17 e18 => ?_)
  have w19 := z_wr e18
  refine T_leq (fun x20 e21 => ?_)
  have w22 := z_minb x17 a11
  rw [e21] at w22
  refine T_if1 (by decide +kernel) ?_
  refine T_put (by decide +kernel) (c := 235) (by decide +kernel) bdr_235 (by omega) c9 (fun s23 e26 c24 g27 => ?_)
  have f25 := z_Fr.up (R := R_X0_hang_223) f10 g27 (fun _ => (⟨by decide, by decide⟩))
  have t28 : s23 223 9 = s8 223 9 := g27 223 9 (by decide)
  refine T_if1 (by decide +kernel) ?_
  refine T_let 232 (by decide +kernel) ?_
  refine T_if1 (by decide +kernel) ?_
  refine T_get (by decide +kernel) (c := 233) (by decide +kernel) bdr_233 (by decide) c24 (fun x29 e30 b31 w32 => ?_)
  have l33 : z_ln 232 = 200 := by decide +kernel
  refine T_leq (fun x34 e35 => ?_)
  have w36 := z_wr e35
  refine T_if1 (by decide +kernel) ?_
  refine T_let 234 (by decide +kernel) ?_
  refine T_if1 (by decide +kernel) ?_
  refine T_get (by decide +kernel) (c := 235) (by decide +kernel) bdr_235 (by decide) c24 (fun x37 e38 b39 w40 => ?_)
  have l41 : z_ln 234 = 200 := by decide +kernel
  refine T_leq (fun x42 e43 => ?_)
  have w44 := z_wr e43
  refine T_leq (fun x45 e46 => ?_)
  have w47 := z_wr e46
  refine T_leq (fun x48 e49 => ?_)
  have w50 := z_wb e49
  exact hr s23 x45 x48 c24 f25 (by omega) (by omega) (by omega)
theorem sj_X0_hang_223_J175 {fu : Nat} (hfu : 8589934592 ≤ fu) (r0 s : z_M) (c : z_CI s) (f : z_Fr R_X0_hang_223 r0 s) (a1 : Int) (a3 : Int) (a4 : Int) (a5 : Int) (a6 : Int) (a7 : Int) (a8 : Int) (a9 : Int) (a10 : Int) (a11 : Int) (b1 : -2147483648 ≤ a1 ∧ a1 ≤ 2147483647) (b3 : -2147483648 ≤ a3 ∧ a3 ≤ 2147483647) (b4 : -2147483648 ≤ a4 ∧ a4 ≤ 2147483647) (b5 : -2147483648 ≤ a5 ∧ a5 ≤ 2147483647) (b6 : -2147483648 ≤ a6 ∧ a6 ≤ 2147483647) (b7 : -2147483648 ≤ a7 ∧ a7 ≤ 2147483646) (b8 : -2147483648 ≤ a8 ∧ a8 ≤ 2147483647) (b9 : -2147483648 ≤ a9 ∧ a9 ≤ 2147483647) (b10 : -2147483648 ≤ a10 ∧ a10 ≤ 2147483647) (b11 : -2147483648 ≤ a11 ∧ a11 ≤ 2147483647) (M : Int) (pm : 2147483647 - a7 ≤ M) {r : z_M → Int → Int → z_O} {k : z_M → Int → z_O} (hr : ∀ (s' : z_M) (v5 : Int) (v7 : Int), z_CI s' → z_Fr R_X0_hang_223 r0 s' → (-2147483648 ≤ v5 ∧ v5 ≤ 2147483647) → (-2147483648 ≤ v7 ∧ v7 ≤ 2147483647) → (2147483647 - v7 < M) → z_T (r s' v5 v7) (P_X0_hang_223 r0)) (hk : ∀ (s' : z_M) (v5 : Int), z_CI s' → z_Fr R_X0_hang_223 r0 s' → (-2147483648 ≤ v5 ∧ v5 ≤ 2147483647) → z_T (k s' v5) (P_X0_hang_223 r0)) : z_T (fX0_hang_J175 fu s 223 a1 a3 a4 a5 a6 a7 a8 a9 a10 a11 r k) (P_X0_hang_223 r0) := by
  refine T_of (fX0_hang_J175.eq_1 ..) ?_
  have u1 := CI_b c (k := 223) (j := 9) bd_223_9
  refine T_ite (fun h2 => ?_) (fun h2 => ?_)
  · exact sj_X0_hang_223_J229 hfu r0 s c f a1 a3 a4 a5 a6 a7 a9 a10 a11 (by omega) (by omega) (by omega) (by omega) (by omega) (by omega) (by omega) (by omega) (by omega) M (by omega) (fun s' v5 v7 c' f' w5 w7 pg => hr s' v5 v7 c' f' w5 w7 (by omega)) hk
  · refine T_leq (fun x3 e4 => ?_)
    have w5 := z_wr e4
    refine T_if1 (by decide +kernel) ?_
    refine T_leq (fun x6 e7 => ?_)
    have u8 := CI_b c (k := 223) (j := 9) bd_223_9
    refine T_ite (fun h9 => ?_) (fun h9 => ?_)
    · exact sj_X0_hang_223_J229 hfu r0 s c f a1 a3 a4 a5 a6 a7 a9 a10 a11 (by omega) (by omega) (by omega) (by omega) (by omega) (by omega) (by omega) (by omega) (by omega) M (by omega) (fun s' v5 v7 c' f' w5 w7 pg => hr s' v5 v7 c' f' w5 w7 (by omega)) hk
    · refine T_if1 (by decide +kernel) ?_
      refine T_let 224 (by decide +kernel) ?_
      refine T_leq (fun x10 e11 => ?_)
      have w12 := z_wr e11
      refine T_if1 (by decide +kernel) ?_
      refine T_get (by decide +kernel) (c := 225) (by decide +kernel) bdr_225 (by decide) c (fun x13 e14 b15 w16 => ?_)
      have l17 : z_ln 224 = 200 := by decide +kernel
      refine T_leq (fun x18 e19 => ?_)
      have w20 := z_wr e19
      refine T_ite (fun h21 => ?_) (fun h21 => ?_)
      · exact sj_X0_hang_223_J229 hfu r0 s c f a1 a3 a4 a5 a6 a7 a9 a10 a11 (by omega) (by omega) (by omega) (by omega) (by omega) (by omega) (by omega) (by omega) (by omega) M (by omega) (fun s' v5 v7 c' f' w5 w7 pg => hr s' v5 v7 c' f' w5 w7 (by omega)) hk
      · refine T_if1 (by decide +kernel) ?_
        refine T_let 230 (by decide +kernel) ?_
        refine T_leq (fun x22 e23 => ?_)
        have w24 := z_wr e23
        refine T_if1 (by decide +kernel) ?_
        refine T_get (by decide +kernel) (c := 231) (by decide +kernel) bdr_231 (by decide) c (fun x25 e26 b27 w28 => ?_)
        have l29 : z_ln 230 = 200 := by decide +kernel
        refine T_ite (fun h30 => ?_) (fun h30 => ?_)
        · exact sj_X0_hang_223_J229 hfu r0 s c f a1 a3 a4 a5 a6 a7 a9 a10 a11 (by omega) (by omega) (by omega) (by omega) (by omega) (by omega) (by omega) (by omega) (by omega) M (by omega) (fun s' v5 v7 c' f' w5 w7 pg => hr s' v5 v7 c' f' w5 w7 (by omega)) hk
        · refine T_if1 (by omega) ?_
          refine T_leq (fun x31 e32 => ?_)
          have w33 := z_wr e32
          exact sj_X0_hang_223_J229 hfu r0 s c f a1 a3 a4 a5 a6 a7 a9 a10 x31 (by omega) (by omega) (by omega) (by omega) (by omega) (by omega) (by omega) (by omega) (by omega) M (by omega) (fun s' v5 v7 c' f' w5 w7 pg => hr s' v5 v7 c' f' w5 w7 (by omega)) hk
theorem sj_X0_hang_223_J117 {fu : Nat} (hfu : 8589934592 ≤ fu) (r0 s : z_M) (c : z_CI s) (f : z_Fr R_X0_hang_223 r0 s) (a1 : Int) (a3 : Int) (a4 : Int) (a5 : Int) (a6 : Int) (a7 : Int) (a8 : Int) (a9 : Int) (a10 : Int) (t0 : Int) (b1 : -2147483648 ≤ a1 ∧ a1 ≤ 2147483647) (b3 : -2147483648 ≤ a3 ∧ a3 ≤ 2147483647) (b4 : -2147483648 ≤ a4 ∧ a4 ≤ 2147483647) (b5 : -2147483648 ≤ a5 ∧ a5 ≤ 2147483647) (b6 : -2147483648 ≤ a6 ∧ a6 ≤ 2147483647) (b7 : -2147483648 ≤ a7 ∧ a7 ≤ 2147483646) (b8 : -2147483648 ≤ a8 ∧ a8 ≤ 2147483647) (b9 : -2147483648 ≤ a9 ∧ a9 ≤ 2147483647) (b10 : -2147483648 ≤ a10 ∧ a10 ≤ 2147483647) (d0 : -2147483648 ≤ t0 ∧ t0 ≤ 2147483647) (M : Int) (pm : 2147483647 - a7 ≤ M) {r : z_M → Int → Int → z_O} {k : z_M → Int → z_O} (hr : ∀ (s' : z_M) (v5 : Int) (v7 : Int), z_CI s' → z_Fr R_X0_hang_223 r0 s' → (-2147483648 ≤ v5 ∧ v5 ≤ 2147483647) → (-2147483648 ≤ v7 ∧ v7 ≤ 2147483647) → (2147483647 - v7 < M) → z_T (r s' v5 v7) (P_X0_hang_223 r0)) (hk : ∀ (s' : z_M) (v5 : Int), z_CI s' → z_Fr R_X0_hang_223 r0 s' → (-2147483648 ≤ v5 ∧ v5 ≤ 2147483647) → z_T (k s' v5) (P_X0_hang_223 r0)) : z_T (fX0_hang_J117 fu s 223 a1 a3 a4 a5 a6 a7 a8 a9 a10 t0 r k) (P_X0_hang_223 r0) := by
  refine T_of (fX0_hang_J117.eq_1 ..) ?_
  have u1 := CI_b c (k := 223) (j := 9) bd_223_9
  refine T_ite (fun h2 => ?_) (fun h2 => ?_)
  · exact sj_X0_hang_223_J175 hfu r0 s c f a1 a3 a4 a5 a6 a7 a8 a9 a10 t0 (by omega) (by omega) (by omega) (by omega) (by omega) (by omega) (by omega) (by omega) (by omega) (by omega) M (by omega) (fun s' v5 v7 c' f' w5 w7 pg => hr s' v5 v7 c' f' w5 w7 (by omega)) hk
  · refine T_ite (fun h3 => ?_) (fun h3 => ?_)
    · exact sj_X0_hang_223_J175 hfu r0 s c f a1 a3 a4 a5 a6 a7 a8 a9 a10 t0 (by omega) (by omega) (by omega) (by omega) (by omega) (by omega) (by omega) (by omega) (by omega) (by omega) M (by omega) (fun s' v5 v7 c' f' w5 w7 pg => hr s' v5 v7 c' f' w5 w7 (by omega)) hk
    · refine T_if1 (by decide +kernel) ?_
      refine T_let 226 (by decide +kernel) ?_
      refine T_leq (fun x4 e5 => ?_)
      have w6 := z_wr e5
      refine T_if1 (by decide +kernel) ?_
      refine T_get (by decide +kernel) (c := 227) (by decide +kernel) bdr_227 (by decide) c (fun x7 e8 b9 w10 => ?_)
      have l11 : z_ln 226 = 200 := by decide +kernel
      refine T_leq (fun x12 e13 => ?_)
      have w14 := z_wr e13
      refine T_if1 (by decide +kernel) ?_
      refine T_let 224 (by decide +kernel) ?_
      refine T_if1 (by decide +kernel) ?_
      refine T_get (by decide +kernel) (c := 225) (by decide +kernel) bdr_225 (by decide) c (fun x15 e16 b17 w18 => ?_)
      have l19 : z_ln 224 = 200 := by decide +kernel
      refine T_ite (fun h20 => ?_) (fun h20 => ?_)
      · exact sj_X0_hang_223_J175 hfu r0 s c f a1 a3 a4 a5 a6 a7 a8 a9 a10 t0 (by omega) (by omega) (by omega) (by omega) (by omega) (by omega) (by omega) (by omega) (by omega) (by omega) M (by omega) (fun s' v5 v7 c' f' w5 w7 pg => hr s' v5 v7 c' f' w5 w7 (by omega)) hk
      · refine T_if1 (by decide +kernel) ?_
        refine T_let 230 (by decide +kernel) ?_
        refine T_leq (fun x21 e22 => ?_)
        have w23 := z_wr e22
        refine T_if1 (by decide +kernel) ?_
        refine T_get (by decide +kernel) (c := 231) (by decide +kernel) bdr_231 (by decide) c (fun x24 e25 b26 w27 => ?_)
        have l28 : z_ln 230 = 200 := by decide +kernel
        refine T_ite (fun h29 => ?_) (fun h29 => ?_)
        · exact sj_X0_hang_223_J175 hfu r0 s c f a1 a3 a4 a5 a6 a7 a8 a9 a10 t0 (by omega) (by omega) (by omega) (by omega) (by omega) (by omega) (by omega) (by omega) (by omega) (by omega) M (by omega) (fun s' v5 v7 c' f' w5 w7 pg => hr s' v5 v7 c' f' w5 w7 (by omega)) hk
        · refine T_if1 (by omega) ?_
          refine T_leq (fun x30 e31 => ?_)
          have w32 := z_wr e31
          exact sj_X0_hang_223_J175 hfu r0 s c f a1 a3 a4 a5 a6 a7 a8 a9 x30 t0 (by omega) (by omega) (by omega) (by omega) (by omega) (by omega) (by omega) (by omega) (by omega) (by omega) M (by omega) (fun s' v5 v7 c' f' w5 w7 pg => hr s' v5 v7 c' f' w5 w7 (by omega)) hk
theorem sj_X0_hang_223_J87 {fu : Nat} (hfu : 8589934592 ≤ fu) (r0 s : z_M) (c : z_CI s) (f : z_Fr R_X0_hang_223 r0 s) (a1 : Int) (a3 : Int) (a4 : Int) (a5 : Int) (a6 : Int) (a7 : Int) (a8 : Int) (a9 : Int) (t0 : Int) (b1 : -2147483648 ≤ a1 ∧ a1 ≤ 2147483647) (b3 : -2147483648 ≤ a3 ∧ a3 ≤ 2147483647) (b4 : -2147483648 ≤ a4 ∧ a4 ≤ 2147483647) (b5 : -2147483648 ≤ a5 ∧ a5 ≤ 2147483647) (b6 : -2147483648 ≤ a6 ∧ a6 ≤ 2147483647) (b7 : -2147483648 ≤ a7 ∧ a7 ≤ 2147483646) (b8 : -2147483648 ≤ a8 ∧ a8 ≤ 2147483647) (b9 : -2147483648 ≤ a9 ∧ a9 ≤ 2147483647) (d0 : -2147483648 ≤ t0 ∧ t0 ≤ 2147483647) (M : Int) (pm : 2147483647 - a7 ≤ M) {r : z_M → Int → Int → z_O} {k : z_M → Int → z_O} (hr : ∀ (s' : z_M) (v5 : Int) (v7 : Int), z_CI s' → z_Fr R_X0_hang_223 r0 s' → (-2147483648 ≤ v5 ∧ v5 ≤ 2147483647) → (-2147483648 ≤ v7 ∧ v7 ≤ 2147483647) → (2147483647 - v7 < M) → z_T (r s' v5 v7) (P_X0_hang_223 r0)) (hk : ∀ (s' : z_M) (v5 : Int), z_CI s' → z_Fr R_X0_hang_223 r0 s' → (-2147483648 ≤ v5 ∧ v5 ≤ 2147483647) → z_T (k s' v5) (P_X0_hang_223 r0)) : z_T (fX0_hang_J87 fu s 223 a1 a3 a4 a5 a6 a7 a8 a9 t0 r k) (P_X0_hang_223 r0) := by
  refine T_of (fX0_hang_J87.eq_1 ..) ?_
  have u1 := CI_b c (k := 223) (j := 9) bd_223_9
  refine T_ite (fun h2 => ?_) (fun h2 => ?_)
  · exact sj_X0_hang_223_J117 hfu r0 s c f a1 a3 a4 a5 a6 a7 a8 a9 t0 0 (by omega) (by omega) (by omega) (by omega) (by omega) (by omega) (by omega) (by omega) (by omega) (by omega) M (by omega) (fun s' v5 v7 c' f' w5 w7 pg => hr s' v5 v7 c' f' w5 w7 (by omega)) hk
  · refine T_if1 (by decide +kernel) ?_
    refine T_let 191 (by decide +kernel) ?_
    refine T_if1 (by decide +kernel) ?_
    refine T_let 192 (by decide +kernel) ?_
    refine T_if1 (by decide +kernel) ?_
    refine T_get (by decide +kernel) (c := 193) (by decide +kernel) bdr_193 (by decide) c (fun x3 e4 b5 w6 => ?_)
    have l7 : z_ln 192 = 200 := by decide +kernel
    refine T_useI (sf_X0_room hfu s c x3 a4 0 (by omega) (by omega) (by omega)) (fun v13 s8 hq => ?_)
    obtain ⟨c9, f10, ⟨x12, rfl, b14, b15⟩⟩ := hq
    refine T_vI ?_
    have f11 := z_Fr.tr (R := R_X0_hang_223) f f10 (fun a b h => absurd h not_false)
    have t16 : s8 223 9 = s 223 9 := f10 223 9 (by decide)
    exact sj_X0_hang_223_J117 hfu r0 s8 c9 f11 a1 a3 a4 a5 a6 a7 a8 a9 t0 x12 (by omega) (by omega) (by omega) (by omega) (by omega) (by omega) (by omega) (by omega) (by omega) (by omega) M (by omega) (fun s' v5 v7 c' f' w5 w7 pg => hr s' v5 v7 c' f' w5 w7 (by omega)) hk
theorem sl_X0_hang_223_L9 {fu : Nat} (hfu : 8589934592 ≤ fu) (r0 : z_M) (a1 : Int) (a3 : Int) (a4 : Int) (a6 : Int) (b1 : -2147483648 ≤ a1 ∧ a1 ≤ 2147483647) (b3 : -2147483648 ≤ a3 ∧ a3 ≤ 2147483647) (b4 : -2147483648 ≤ a4 ∧ a4 ≤ 2147483647) (b6 : -2147483648 ≤ a6 ∧ a6 ≤ 2147483647) {k : z_M → Int → z_O} (hk : ∀ (s' : z_M) (v5 : Int), z_CI s' → z_Fr R_X0_hang_223 r0 s' → (-2147483648 ≤ v5 ∧ v5 ≤ 2147483647) → z_T (k s' v5) (P_X0_hang_223 r0)) : ∀ (F : Nat) (s : z_M) (a5 : Int) (a7 : Int), z_CI s → z_Fr R_X0_hang_223 r0 s → (-2147483648 ≤ a5 ∧ a5 ≤ 2147483647) → (-2147483648 ≤ a7 ∧ a7 ≤ 2147483647) → (2147483647 - a7 < (F : Int)) → z_T (fX0_hang_L9 fu 223 a1 a3 a4 a6 F s a5 a7 k) (P_X0_hang_223 r0) := by
  intro F
  induction F with
  | zero =>
    intro s a5 a7 c f b5 b7 hm
    have u47 := CI_b c (k := 223) (j := 9) bd_223_9
    exfalso; omega
  | succ F ih =>
    intro s a5 a7 c f b5 b7 hm
    refine T_of (fX0_hang_L9.eq_2 ..) ?_
    have u1 := CI_b c (k := 223) (j := 9) bd_223_9
    refine T_if1 (by decide +kernel) ?_
    refine T_leq (fun x2 e3 => ?_)
    have u4 := CI_b c (k := 223) (j := 9) bd_223_9
    refine T_ite (fun h5 => ?_) (fun h5 => ?_)
    · exact hk s a5 c f (by omega)
    · refine T_if1 (by decide +kernel) ?_
      refine T_let 226 (by decide +kernel) ?_
      refine T_if1 (by decide +kernel) ?_
      refine T_get (by decide +kernel) (c := 227) (by decide +kernel) bdr_227 (by decide) c (fun x6 e7 b8 w9 => ?_)
      have l10 : z_ln 226 = 200 := by decide +kernel
      refine T_leq (fun x11 e12 => ?_)
      have w13 := z_wr e12
      refine T_if1 (by decide +kernel) ?_
      refine T_let 230 (by decide +kernel) ?_
      refine T_if1 (by decide +kernel) ?_
      refine T_get (by decide +kernel) (c := 231) (by decide +kernel) bdr_231 (by decide) c (fun x14 e15 b16 w17 => ?_)
      have l18 : z_ln 230 = 200 := by decide +kernel
      refine T_if1 (by decide +kernel) ?_
      refine T_let 224 (by decide +kernel) ?_
      refine T_if1 (by decide +kernel) ?_
      refine T_get (by decide +kernel) (c := 225) (by decide +kernel) bdr_225 (by decide) c (fun x19 e20 b21 w22 => ?_)
      have l23 : z_ln 224 = 200 := by decide +kernel
      refine T_ite (fun h24 => ?_) (fun h24 => ?_)
      · exact sj_X0_hang_223_J87 hfu r0 s c f a1 a3 a4 a5 a6 a7 x11 x14 0 (by omega) (by omega) (by omega) (by omega) (by omega) (by omega) (by omega) (by omega) (by omega) (2147483647 - a7) (by omega) (fun s' v5 v7 c' f' w5 w7 pg => ih s' v5 v7 c' f' w5 w7 (by omega)) hk
      · refine T_if1 (by decide +kernel) ?_
        refine T_let 191 (by decide +kernel) ?_
        refine T_if1 (by decide +kernel) ?_
        refine T_let 192 (by decide +kernel) ?_
        refine T_if1 (by decide +kernel) ?_
        refine T_let 224 (by decide +kernel) ?_
        refine T_if1 (by decide +kernel) ?_
        refine T_get (by decide +kernel) (c := 225) (by decide +kernel) bdr_225 (by decide) c (fun x25 e26 b27 w28 => ?_)
        have l29 : z_ln 224 = 200 := by decide +kernel
        refine T_leq (fun x30 e31 => ?_)
        have w32 := z_wr e31
        refine T_if1 (by decide +kernel) ?_
        refine T_get (by decide +kernel) (c := 193) (by decide +kernel) bdr_193 (by decide) c (fun x33 e34 b35 w36 => ?_)
        have l37 : z_ln 192 = 200 := by decide +kernel
        refine T_useI (sf_X0_room hfu s c x33 a4 1 (by omega) (by omega) (by omega)) (fun v43 s38 hq => ?_)
        obtain ⟨c39, f40, ⟨x42, rfl, b44, b45⟩⟩ := hq
        refine T_vI ?_
        have f41 := z_Fr.tr (R := R_X0_hang_223) f f40 (fun a b h => absurd h not_false)
        have t46 : s38 223 9 = s 223 9 := f40 223 9 (by decide)
        exact sj_X0_hang_223_J87 hfu r0 s38 c39 f41 a1 a3 a4 a5 a6 a7 x11 x14 x42 (by omega) (by omega) (by omega) (by omega) (by omega) (by omega) (by omega) (by omega) (by omega) (2147483647 - a7) (by omega) (fun s' v5 v7 c' f' w5 w7 pg => ih s' v5 v7 c' f' w5 w7 (by omega)) hk
theorem sf_X0_hang_223 {fu : Nat} (hfu : 8589934592 ≤ fu) (r0 : z_M) (c0 : z_CI r0) (a1 : Int) (a2 : Int) (a3 : Int) (a4 : Int) (b1 : -2147483648 ≤ a1 ∧ a1 ≤ 2147483647) (b2 : -2147483648 ≤ a2 ∧ a2 ≤ 2147483647) (b3 : -2147483648 ≤ a3 ∧ a3 ≤ 2147483647) (b4 : -2147483648 ≤ a4 ∧ a4 ≤ 2147483647) : z_T (fX0_hang fu r0 223 a1 a2 a3 a4) (P_X0_hang_223 r0) := by
  refine T_of (fX0_hang.eq_1 ..) ?_
  refine sl_X0_hang_223_L9 hfu r0 a1 a3 a4 a2 (by omega) (by omega) (by omega) (by omega) (fun s1 y4 c2 f3 b5 => ?_) fu r0 0 a1 c0 z_Fr.rf (by omega) (by omega) (by omega)
  have u6 := CI_b c2 (k := 223) (j := 9) bd_223_9
  exact T_ret ⟨c2, f3, ⟨y4, rfl, by omega, by omega⟩⟩
abbrev R_X5_longWith_220 (a b : Int) : Prop := (225 ≤ a ∧ a ≤ 239) ∨ (a = 220 ∧ (b = 4 ∨ b = 5)) ∨ (a = 223 ∧ (b = 9))
abbrev P_X5_longWith_220 (r0 : z_M) : z_V → z_M → Prop := fun v s' => z_CI s' ∧ z_Fr R_X5_longWith_220 r0 s' ∧ (∃ x, v = vI x ∧ -2147483648 ≤ x ∧ x ≤ 2147483647)
theorem rs_X5_trim_220__X5_longWith_220 (a b : Int) (h : R_X5_trim_220 a b) : R_X5_longWith_220 a b := (Or.inr (Or.inl (⟨h.1, by omega⟩)))
theorem sl_X5_longWith_220_L75 {fu : Nat} (hfu : 8589934592 ≤ fu) (r0 : z_M) (a3 : Int) (b3 : -2147483648 ≤ a3 ∧ a3 ≤ 2147483647) {k : z_M → Int → z_O} (hk : ∀ (s' : z_M) (v4 : Int), z_CI s' → z_Fr R_X5_longWith_220 r0 s' → (-2147483648 ≤ v4 ∧ v4 ≤ 2147483647) → z_T (k s' v4) (P_X5_longWith_220 r0)) : ∀ (F : Nat) (s : z_M) (a4 : Int) (a5 : Int), z_CI s → z_Fr R_X5_longWith_220 r0 s → (-2147483648 ≤ a4 ∧ a4 ≤ 2147483647) → (0 ≤ a5 ∧ a5 ≤ 2147483647) → (2147483647 - a5 < (F : Int)) → z_T (fX5_longWith_L75 fu 220 a3 F s a4 a5 k) (P_X5_longWith_220 r0) := by
  intro F
  induction F with
  | zero =>
    intro s a4 a5 c f b4 b5 hm
    have u23 := CI_b c (k := 220) (j := 4) bd_220_4
    have u24 := CI_b c (k := 220) (j := 5) bd_220_5
    exfalso; omega
  | succ F ih =>
    intro s a4 a5 c f b4 b5 hm
    refine T_of (fX5_longWith_L75.eq_2 ..) ?_
    have u1 := CI_b c (k := 220) (j := 4) bd_220_4
    have u2 := CI_b c (k := 220) (j := 5) bd_220_5
    refine T_if1 (by decide +kernel) ?_
    refine T_leq (fun x3 e4 => ?_)
    have u5 := CI_b c (k := 220) (j := 5) bd_220_5
    refine T_ite (fun h6 => ?_) (fun h6 => ?_)
    · exact hk s a4 c f (by omega)
    · refine T_if1 (by decide +kernel) ?_
      refine T_useI (sf_X5_spaceOf_220 hfu s c a5 (by omega)) (fun v12 s7 hq => ?_)
      obtain ⟨c8, f9, ⟨x11, rfl, b13, b14⟩⟩ := hq
      refine T_vI ?_
      have f10 := z_Fr.tr (R := R_X5_longWith_220) f f9 (fun a b h => absurd h not_false)
      have t15 : s7 220 4 = s 220 4 := f9 220 4 (by decide)
      have t16 : s7 220 5 = s 220 5 := f9 220 5 (by decide)
      refine T_leq (fun x17 e18 => ?_)
      have w19 := z_wb e18
      refine T_leq (fun x20 e21 => ?_)
      have w22 := z_wb e21
      exact ih s7 x17 x20 c8 f10 (by omega) (by omega) (by omega)
theorem rs_X0_clear_223__X5_longWith_220 (a b : Int) (h : R_X0_clear_223 a b) : R_X5_longWith_220 a b := (Or.inr (Or.inr (⟨h.1, by omega⟩)))
theorem rs_X0_gather_223__X5_longWith_220 (a b : Int) (h : R_X0_gather_223 a b) : R_X5_longWith_220 a b := (h.elim (fun h => (Or.inl (⟨by omega, by omega⟩))) (fun h => (h.elim (fun h => (Or.inl (⟨by omega, by omega⟩))) (fun h => (Or.inr (Or.inr (⟨h.1, by omega⟩)))))))
theorem rs_X0_hang_223__X5_longWith_220 (a b : Int) (h : R_X0_hang_223 a b) : R_X5_longWith_220 a b := (Or.inl (⟨by omega, by omega⟩))
theorem sj_X5_longWith_220_J69 {fu : Nat} (hfu : 8589934592 ≤ fu) (r0 s : z_M) (c : z_CI s) (f : z_Fr R_X5_longWith_220 r0 s) (a3 : Int) (a4 : Int) (b3 : -2147483648 ≤ a3 ∧ a3 ≤ 2147483647) (b4 : -2147483648 ≤ a4 ∧ a4 ≤ 2147483647) : z_T (fX5_longWith_J69 fu s 220 a3 a4) (P_X5_longWith_220 r0) := by
  refine T_of (fX5_longWith_J69.eq_1 ..) ?_
  have u1 := CI_b c (k := 220) (j := 4) bd_220_4
  have u2 := CI_b c (k := 220) (j := 5) bd_220_5
  refine T_if1 (by decide +kernel) ?_
  refine T_leq (fun x3 e4 => ?_)
  have u5 := CI_b c (k := 220) (j := 4) bd_220_4
  refine sl_X5_longWith_220_L75 hfu r0 a3 (by omega) (fun s6 y9 c7 f8 b10 => ?_) fu s a4 x3 c f (by omega) (by omega) (by omega)
  have u11 := CI_b c7 (k := 220) (j := 4) bd_220_4
  have u12 := CI_b c7 (k := 220) (j := 5) bd_220_5
  refine T_if1 (by decide +kernel) ?_
  refine T_let 223 (by decide +kernel) ?_
  refine T_if1 (by decide +kernel) ?_
  refine T_useN (sf_X0_clear_223 hfu s6 c7) (fun v18 s13 hq => ?_)
  obtain ⟨c14, f15, rfl⟩ := hq
  refine T_vN ?_
  have f16 := z_Fr.tr (R := R_X5_longWith_220) f8 f15 rs_X0_clear_223__X5_longWith_220
  have t21 : s13 220 4 = s6 220 4 := f15 220 4 (by decide)
  have t22 : s13 220 5 = s6 220 5 := f15 220 5 (by decide)
  refine T_if1 (by decide +kernel) ?_
  refine T_let 223 (by decide +kernel) ?_
  refine T_if1 (by decide +kernel) ?_
  refine T_leq (fun x23 e24 => ?_)
  have u25 := CI_b c14 (k := 220) (j := 4) bd_220_4
  refine T_if1 (by decide +kernel) ?_
  refine T_leq (fun x26 e27 => ?_)
  have u28 := CI_b c14 (k := 220) (j := 5) bd_220_5
  refine T_if1 (by decide +kernel) ?_
  refine T_useN (sf_X0_gather_223 hfu s13 c14 x23 x26 (by omega) (by omega)) (fun v34 s29 hq => ?_)
  obtain ⟨c30, f31, rfl⟩ := hq
  refine T_vN ?_
  have f32 := z_Fr.tr (R := R_X5_longWith_220) f16 f31 rs_X0_gather_223__X5_longWith_220
  have t37 : s29 220 4 = s13 220 4 := f31 220 4 (by decide)
  have t38 : s29 220 5 = s13 220 5 := f31 220 5 (by decide)
  refine T_if1 (by decide +kernel) ?_
  refine T_let 223 (by decide +kernel) ?_
  refine T_if1 (by decide +kernel) ?_
  refine T_leq (fun x39 e40 => ?_)
  have u41 := CI_b c30 (k := 220) (j := 4) bd_220_4
  refine T_if1 (by decide +kernel) ?_
  refine T_leq (fun x42 e43 => ?_)
  have u44 := CI_b c30 (k := 220) (j := 5) bd_220_5
  refine T_if1 (by decide +kernel) ?_
  refine T_useI (sf_X0_hang_223 hfu s29 c30 0 x39 x42 a3 (by omega) (by omega) (by omega) (by omega)) (fun v50 s45 hq => ?_)
  obtain ⟨c46, f47, ⟨x49, rfl, b51, b52⟩⟩ := hq
  refine T_vI ?_
  have f48 := z_Fr.tr (R := R_X5_longWith_220) f32 f47 rs_X0_hang_223__X5_longWith_220
  have t53 : s45 220 4 = s29 220 4 := f47 220 4 (by decide)
  have t54 : s45 220 5 = s29 220 5 := f47 220 5 (by decide)
  refine T_leq (fun x55 e56 => ?_)
  have w57 := z_wb e56
  exact T_ret ⟨c46, f48, ⟨x55, rfl, by omega, by omega⟩⟩
theorem sf_X5_longWith_220 {fu : Nat} (hfu : 8589934592 ≤ fu) (r0 : z_M) (c0 : z_CI r0) (a1 : Int) (a2 : Int) (a3 : Int) (b1 : 0 ≤ a1 ∧ a1 ≤ 200) (b2 : (-1) ≤ a2 ∧ a2 ≤ 200) (b3 : -2147483648 ≤ a3 ∧ a3 ≤ 2147483647) : z_T (fX5_longWith fu r0 220 a1 a2 a3) (P_X5_longWith_220 r0) := by
  refine T_of (fX5_longWith.eq_1 ..) ?_
  refine T_if1 (by decide +kernel) ?_
  refine T_useN (sf_X5_trim_220 hfu r0 c0 a1 a2 (by omega) (by omega)) (fun v6 s1 hq => ?_)
  obtain ⟨c2, f3, rfl⟩ := hq
  refine T_vN ?_
  have f4 := z_Fr.tr (R := R_X5_longWith_220) z_Fr.rf f3 rs_X5_trim_220__X5_longWith_220
  have u9 := CI_b c2 (k := 220) (j := 4) bd_220_4
  have u10 := CI_b c2 (k := 220) (j := 5) bd_220_5
  refine T_if1 (by decide +kernel) ?_
  refine T_let 191 (by decide +kernel) ?_
  refine T_if1 (by decide +kernel) ?_
  refine T_let 210 (by decide +kernel) ?_
  refine T_if1 (by decide +kernel) ?_
  refine T_leq (fun x11 e12 => ?_)
  have u13 := CI_b c2 (k := 220) (j := 5) bd_220_5
  refine T_leq (fun x14 e15 => ?_)
  have w16 := z_wb e15
  refine T_if1 (by decide +kernel) ?_
  refine T_get (by decide +kernel) (c := 211) (by decide +kernel) bdr_211 (by decide) c2 (fun x17 e18 b19 w20 => ?_)
  have l21 : z_ln 210 = 201 := by decide +kernel
  refine T_if1 (by decide +kernel) ?_
  refine T_let 191 (by decide +kernel) ?_
  refine T_if1 (by decide +kernel) ?_
  refine T_let 210 (by decide +kernel) ?_
  refine T_if1 (by decide +kernel) ?_
  refine T_leq (fun x22 e23 => ?_)
  have u24 := CI_b c2 (k := 220) (j := 4) bd_220_4
  refine T_if1 (by decide +kernel) ?_
  refine T_get (by decide +kernel) (c := 211) (by decide +kernel) bdr_211 (by decide) c2 (fun x25 e26 b27 w28 => ?_)
  have l29 : z_ln 210 = 201 := by decide +kernel
  refine T_leq (fun x30 e31 => ?_)
  have w32 := z_wb e31
  refine T_if1 (by decide +kernel) ?_
  refine T_leq (fun x33 e34 => ?_)
  have u35 := CI_b c2 (k := 220) (j := 5) bd_220_5
  refine T_if1 (by decide +kernel) ?_
  refine T_useI (sf_X5_hangsOut_220 hfu s1 c2 x33 (by omega)) (fun v41 s36 hq => ?_)
  obtain ⟨c37, f38, ⟨x40, rfl, b42, b43⟩⟩ := hq
  refine T_vI ?_
  have f39 := z_Fr.tr (R := R_X5_longWith_220) f4 f38 (fun a b h => absurd h not_false)
  have t44 : s36 220 4 = s1 220 4 := f38 220 4 (by decide)
  have t45 : s36 220 5 = s1 220 5 := f38 220 5 (by decide)
  refine T_ite (fun h46 => ?_) (fun h46 => ?_)
  · exact sj_X5_longWith_220_J69 hfu r0 s36 c37 f39 a3 x30 (by omega) (by omega)
  · refine T_if1 (by decide +kernel) ?_
    refine T_let 191 (by decide +kernel) ?_
    refine T_if1 (by decide +kernel) ?_
    refine T_let 198 (by decide +kernel) ?_
    refine T_if1 (by decide +kernel) ?_
    refine T_leq (fun x47 e48 => ?_)
    have u49 := CI_b c37 (k := 220) (j := 5) bd_220_5
    refine T_if1 (by decide +kernel) ?_
    refine T_get (by decide +kernel) (c := 199) (by decide +kernel) bdr_199 (by decide) c37 (fun x50 e51 b52 w53 => ?_)
    have l54 : z_ln 198 = 200 := by decide +kernel
    refine T_leq (fun x55 e56 => ?_)
    have w57 := z_wb e56
    exact sj_X5_longWith_220_J69 hfu r0 s36 c37 f39 a3 x55 (by omega) (by omega)
abbrev R_X5_lengthOf_220 (a b : Int) : Prop := (222 ≤ a ∧ a ≤ 222) ∨ (225 ≤ a ∧ a ≤ 239) ∨ (a = 220 ∧ (b = 4 ∨ b = 5)) ∨ (a = 223 ∧ (b = 9))
abbrev P_X5_lengthOf_220 (r0 : z_M) : z_V → z_M → Prop := fun v s' => z_CI s' ∧ z_Fr R_X5_lengthOf_220 r0 s' ∧ (∃ x, v = vI x ∧ -2147483648 ≤ x ∧ x ≤ 2147483647)
theorem sj_X5_lengthOf_220_J51 {fu : Nat} (hfu : 8589934592 ≤ fu) (r0 s : z_M) (c : z_CI s) (f : z_Fr R_X5_lengthOf_220 r0 s) (a4 : Int) (b4 : -2147483648 ≤ a4 ∧ a4 ≤ 2147483647) : z_T (fX5_lengthOf_J51 fu s a4) (P_X5_lengthOf_220 r0) := by
  refine T_of (fX5_lengthOf_J51.eq_1 ..) ?_
  exact T_ret ⟨c, f, ⟨a4, rfl, by omega, by omega⟩⟩
theorem rs_X5_longWith_220__X5_lengthOf_220 (a b : Int) (h : R_X5_longWith_220 a b) : R_X5_lengthOf_220 a b := (h.elim (fun h => (Or.inr (Or.inl (⟨by omega, by omega⟩)))) (fun h => (h.elim (fun h => (Or.inr (Or.inr (Or.inl (⟨h.1, by omega⟩))))) (fun h => (Or.inr (Or.inr (Or.inr (⟨h.1, by omega⟩))))))))
theorem sf_X5_lengthOf_220 {fu : Nat} (hfu : 8589934592 ≤ fu) (r0 : z_M) (c0 : z_CI r0) (a1 : Int) (a2 : Int) (b1 : 0 ≤ a1 ∧ a1 ≤ 200) (b2 : (-1) ≤ a2 ∧ a2 ≤ 200) : z_T (fX5_lengthOf fu r0 220 a1 a2) (P_X5_lengthOf_220 r0) := by
  refine T_of (fX5_lengthOf.eq_1 ..) ?_
  refine T_useI (sf_X5_slotOf hfu r0 c0 a1 a2 (by omega) (by omega)) (fun v6 s1 hq => ?_)
  obtain ⟨c2, f3, ⟨x5, rfl, b7, b8⟩⟩ := hq
  refine T_vI ?_
  have f4 := z_Fr.tr (R := R_X5_lengthOf_220) z_Fr.rf f3 (fun a b h => absurd h not_false)
  refine T_if1 (by decide +kernel) ?_
  refine T_let 221 (by decide +kernel) ?_
  refine T_if1 (by decide +kernel) ?_
  refine T_get (by decide +kernel) (c := 222) (by decide +kernel) bdr_222 (by decide) c2 (fun x9 e10 b11 w12 => ?_)
  have l13 : z_ln 221 = 20100 := by decide +kernel
  refine T_leq (fun x14 e15 => ?_)
  have w16 := z_wr e15
  refine T_ite (fun h17 => ?_) (fun h17 => ?_)
  · exact sj_X5_lengthOf_220_J51 hfu r0 s1 c2 f4 x14 (by omega)
  · refine T_if1 (by decide +kernel) ?_
    refine T_let 2 (by decide +kernel) ?_
    refine T_if1 (by decide +kernel) ?_
    refine T_get (by decide +kernel) (c := 3) (by decide +kernel) bdr_3 (by decide) c2 (fun x18 e19 b20 w21 => ?_)
    have l22 : z_ln 2 = 9 := by decide +kernel
    refine T_if1 (by decide +kernel) ?_
    refine T_useI (sf_X5_longWith_220 hfu s1 c2 a1 a2 x18 (by omega) (by omega) (by omega)) (fun v28 s23 hq => ?_)
    obtain ⟨c24, f25, ⟨x27, rfl, b29, b30⟩⟩ := hq
    refine T_vI ?_
    have f26 := z_Fr.tr (R := R_X5_lengthOf_220) f4 f25 rs_X5_longWith_220__X5_lengthOf_220
    refine T_if1 (by decide +kernel) ?_
    refine T_let 221 (by decide +kernel) ?_
    refine T_leq (fun x31 e32 => ?_)
    have w33 := z_wr e32
    refine T_if1 (by decide +kernel) ?_
    refine T_put (by decide +kernel) (c := 222) (by decide +kernel) bdr_222 (by omega) c24 (fun s34 e37 c35 g38 => ?_)
    have f36 := z_Fr.up (R := R_X5_lengthOf_220) f26 g38 (fun _ => (Or.inl (⟨by decide, by decide⟩)))
    exact sj_X5_lengthOf_220_J51 hfu r0 s34 c35 f36 x27 (by omega)
abbrev R_X5_forget_220 (a b : Int) : Prop := (222 ≤ a ∧ a ≤ 222)
abbrev P_X5_forget_220 (r0 : z_M) : z_V → z_M → Prop := fun v s' => z_CI s' ∧ z_Fr R_X5_forget_220 r0 s' ∧ (v = vN)
theorem sf_X5_forget_220 {fu : Nat} (hfu : 8589934592 ≤ fu) (r0 : z_M) (c0 : z_CI r0) : z_T (fX5_forget fu r0 220) (P_X5_forget_220 r0) := by
  refine T_of (fX5_forget.eq_1 ..) ?_
  refine T_if1 (by decide +kernel) ?_
  refine T_let 221 (by decide +kernel) ?_
  refine T_if1 (by decide +kernel) ?_
  refine T_let 191 (by decide +kernel) ?_
  refine T_if1 (by decide +kernel) ?_
  refine T_leq (fun x1 e2 => ?_)
  have u3 := CI_b c0 (k := 191) (j := 16) bd_191_16
  refine T_useI (sf_X5_slotOf hfu r0 c0 0 x1 (by omega) (by omega)) (fun v9 s4 hq => ?_)
  obtain ⟨c5, f6, ⟨x8, rfl, b10, b11⟩⟩ := hq
  refine T_vI ?_
  have f7 := z_Fr.tr (R := R_X5_forget_220) z_Fr.rf f6 (fun a b h => absurd h not_false)
  have t12 : s4 191 16 = r0 191 16 := f6 191 16 (by decide)
  refine T_if1 (by decide +kernel) ?_
  refine T_clear hfu (by decide +kernel) (by omega) (c := 222) (by decide +kernel) bdr_222 (by decide) c5 (fun s13 e16 c14 g17 => ?_)
  have f15 := z_Fr.up (R := R_X5_forget_220) f7 g17 (fun _ => (⟨by decide, by decide⟩))
  have t18 : s13 191 16 = s4 191 16 := g17 191 16 (by decide)
  exact T_ret ⟨c14, f15, rfl⟩
abbrev R_X10_solid_191 (a b : Int) : Prop := False
abbrev P_X10_solid_191 (r0 : z_M) : z_V → z_M → Prop := fun v s' => z_CI s' ∧ z_Fr R_X10_solid_191 r0 s' ∧ (∃ x, v = vI x ∧ -2147483648 ≤ x ∧ x ≤ 2147483647)
theorem sf_X10_solid_191 {fu : Nat} (hfu : 8589934592 ≤ fu) (r0 : z_M) (c0 : z_CI r0) (a1 : Int) (a2 : Int) (b1 : -2147483648 ≤ a1 ∧ a1 ≤ 2147483647) (b2 : -2147483648 ≤ a2 ∧ a2 ≤ 2147483647) : z_T (fX10_solid fu r0 191 a1 a2) (P_X10_solid_191 r0) := by
  refine T_of (fX10_solid.eq_1 ..) ?_
  refine T_if1 (by decide +kernel) ?_
  refine T_let 212 (by decide +kernel) ?_
  refine T_leq (fun x1 e2 => ?_)
  have w3 := z_wr e2
  refine T_if1 (by decide +kernel) ?_
  refine T_get (by decide +kernel) (c := 213) (by decide +kernel) bdr_213 (by decide) c0 (fun x4 e5 b6 w7 => ?_)
  have l8 : z_ln 212 = 201 := by decide +kernel
  refine T_if1 (by decide +kernel) ?_
  refine T_let 212 (by decide +kernel) ?_
  refine T_if1 (by decide +kernel) ?_
  refine T_get (by decide +kernel) (c := 213) (by decide +kernel) bdr_213 (by decide) c0 (fun x9 e10 b11 w12 => ?_)
  have l13 : z_ln 212 = 201 := by decide +kernel
  refine T_leq (fun x14 e15 => ?_)
  have w16 := z_wr e15
  exact T_ret ⟨c0, z_Fr.rf, ⟨x14, rfl, by omega, by omega⟩⟩
abbrev R_X1_closesLine_240 (a b : Int) : Prop := False
abbrev P_X1_closesLine_240 (r0 : z_M) : z_V → z_M → Prop := fun v s' => z_CI s' ∧ z_Fr R_X1_closesLine_240 r0 s' ∧ (∃ x, v = vI x ∧ 0 ≤ x ∧ x ≤ 1)
theorem sj_X1_closesLine_240_J33 {fu : Nat} (hfu : 8589934592 ≤ fu) (r0 s : z_M) (c : z_CI s) (f : z_Fr R_X1_closesLine_240 r0 s) (t0 : Int) (d0 : 0 ≤ t0 ∧ t0 ≤ 1) : z_T (fX1_closesLine_J33 fu s t0) (P_X1_closesLine_240 r0) := by
  refine T_of (fX1_closesLine_J33.eq_1 ..) ?_
  have u1 := CI_b c (k := 191) (j := 16) bd_191_16
  refine T_if1 (by unfold z_bl; omega) ?_
  exact T_ret ⟨c, f, ⟨t0, rfl, by omega, by omega⟩⟩
theorem sj_X1_closesLine_240_J28 {fu : Nat} (hfu : 8589934592 ≤ fu) (r0 s : z_M) (c : z_CI s) (f : z_Fr R_X1_closesLine_240 r0 s) : z_T (fX1_closesLine_J28 fu s) (P_X1_closesLine_240 r0) := by
  refine T_of (fX1_closesLine_J28.eq_1 ..) ?_
  have u1 := CI_b c (k := 191) (j := 16) bd_191_16
  exact sj_X1_closesLine_240_J33 hfu r0 s c f 1 (by omega)
theorem sf_X1_closesLine_240 {fu : Nat} (hfu : 8589934592 ≤ fu) (r0 : z_M) (c0 : z_CI r0) (a1 : Int) (b1 : -2147483648 ≤ a1 ∧ a1 ≤ 2147483647) : z_T (fX1_closesLine fu r0 240 a1) (P_X1_closesLine_240 r0) := by
  refine T_of (fX1_closesLine.eq_1 ..) ?_
  refine T_if1 (by decide +kernel) ?_
  refine T_let 191 (by decide +kernel) ?_
  refine T_if1 (by decide +kernel) ?_
  refine T_leq (fun x1 e2 => ?_)
  have u3 := CI_b c0 (k := 191) (j := 16) bd_191_16
  refine T_leq (fun x4 e5 => ?_)
  have w6 := z_wr e5
  refine T_ite (fun h7 => ?_) (fun h7 => ?_)
  · exact sj_X1_closesLine_240_J28 hfu r0 r0 c0 z_Fr.rf
  · refine T_if1 (by decide +kernel) ?_
    refine T_let 191 (by decide +kernel) ?_
    refine T_if1 (by decide +kernel) ?_
    refine T_let 208 (by decide +kernel) ?_
    refine T_if1 (by decide +kernel) ?_
    refine T_get (by decide +kernel) (c := 209) (by decide +kernel) bdr_209 (by decide) c0 (fun x8 e9 b10 w11 => ?_)
    have l12 : z_ln 208 = 200 := by decide +kernel
    refine T_ite (fun h13 => ?_) (fun h13 => ?_)
    · exact sj_X1_closesLine_240_J33 hfu r0 r0 c0 z_Fr.rf 0 (by omega)
    · exact sj_X1_closesLine_240_J28 hfu r0 r0 c0 z_Fr.rf
abbrev R_X1_costFor (a b : Int) : Prop := False
abbrev P_X1_costFor (r0 : z_M) : z_V → z_M → Prop := fun v s' => z_CI s' ∧ z_Fr R_X1_costFor r0 s' ∧ (∃ x, v = vL x ∧ -9223372036854775808 ≤ x ∧ x ≤ 9223372036854775807)
theorem sj_X1_costFor_J29 {fu : Nat} (hfu : 8589934592 ≤ fu) (r0 s : z_M) (c : z_CI s) (f : z_Fr R_X1_costFor r0 s) (t0 : Int) (d0 : -9223372036854775808 ≤ t0 ∧ t0 ≤ 9223372036854775807) : z_T (fX1_costFor_J29 fu s t0) (P_X1_costFor r0) := by
  refine T_of (fX1_costFor_J29.eq_1 ..) ?_
  exact T_ret ⟨c, f, ⟨t0, rfl, by omega, by omega⟩⟩
theorem sf_X1_costFor {fu : Nat} (hfu : 8589934592 ≤ fu) (r0 : z_M) (c0 : z_CI r0) (a0 : Int) (a1 : Int) (a2 : Int) (b0 : -2147483648 ≤ a0 ∧ a0 ≤ 2147483647) (b1 : -2147483648 ≤ a1 ∧ a1 ≤ 2147483647) (b2 : -2147483648 ≤ a2 ∧ a2 ≤ 2147483647) : z_T (fX1_costFor fu r0 a0 a1 a2) (P_X1_costFor r0) := by
  refine T_of (fX1_costFor.eq_1 ..) ?_
  refine T_leq (fun x1 e2 => ?_)
  have w3 := z_wr e2
  refine T_leq (fun x4 e5 => ?_)
  have w6 : -1 ≤ x4 ∧ x4 ≤ 1 := by rw [← e5]; exact z_cmpb _ _
  refine T_ite (fun h7 => ?_) (fun h7 => ?_)
  · refine T_ite (fun h8 => ?_) (fun h8 => ?_)
    · refine T_leq (fun x9 e10 => ?_)
      have w11 := z_wlr e10
      exact sj_X1_costFor_J29 hfu r0 r0 c0 z_Fr.rf x9 (by omega)
    · exact sj_X1_costFor_J29 hfu r0 r0 c0 z_Fr.rf 0 (by omega)
  · refine T_leq (fun x12 e13 => ?_)
    have w14 := z_wlr e13
    refine T_leq (fun x15 e16 => ?_)
    have w17 := z_wlr e16
    exact T_ret ⟨c0, z_Fr.rf, ⟨x15, rfl, by omega, by omega⟩⟩
abbrev R_X1_chooseBest_240 (a b : Int) : Prop := (222 ≤ a ∧ a ≤ 222) ∨ (225 ≤ a ∧ a ≤ 239) ∨ (242 ≤ a ∧ a ≤ 244) ∨ (a = 220 ∧ (b = 4 ∨ b = 5)) ∨ (a = 223 ∧ (b = 9))
abbrev P_X1_chooseBest_240 (r0 : z_M) : z_V → z_M → Prop := fun v s' => z_CI s' ∧ z_Fr R_X1_chooseBest_240 r0 s' ∧ (v = vN)
theorem sj_X1_chooseBest_240_J157 {fu : Nat} (hfu : 8589934592 ≤ fu) (r0 s : z_M) (c : z_CI s) (f : z_Fr R_X1_chooseBest_240 r0 s) (a1 : Int) (a2 : Int) (a3 : Int) (a5 : Int) (b1 : -2147483648 ≤ a1 ∧ a1 ≤ 2147483647) (b2 : 0 ≤ a2 ∧ a2 ≤ 200) (b3 : -9223372036854775808 ≤ a3 ∧ a3 ≤ 9223372036854775807) (b5 : 0 ≤ a5 ∧ a5 ≤ 199) (p0 : a2 ≤ a5) (M : Int) (pm : 2147483647 - a5 ≤ M) {r : z_M → Int → Int → z_O} {k : z_M → Int → z_O} (hr : ∀ (s' : z_M) (v3 : Int) (v5 : Int), z_CI s' → z_Fr R_X1_chooseBest_240 r0 s' → (-9223372036854775808 ≤ v3 ∧ v3 ≤ 9223372036854775807) → (0 ≤ v5 ∧ v5 ≤ 200) → (a2 ≤ v5) → (2147483647 - v5 < M) → z_T (r s' v3 v5) (P_X1_chooseBest_240 r0)) (hk : ∀ (s' : z_M) (v3 : Int), z_CI s' → z_Fr R_X1_chooseBest_240 r0 s' → (-9223372036854775808 ≤ v3 ∧ v3 ≤ 9223372036854775807) → z_T (k s' v3) (P_X1_chooseBest_240 r0)) : z_T (fX1_chooseBest_J157 fu s 240 a1 a2 a3 a5 r k) (P_X1_chooseBest_240 r0) := by
  refine T_of (fX1_chooseBest_J157.eq_1 ..) ?_
  have u1 := CI_b c (k := 191) (j := 16) bd_191_16
  refine T_leq (fun x2 e3 => ?_)
  have w4 := z_wb e3
  exact hr s a3 x2 c f (by omega) (by omega) (by omega) (by omega)
theorem rs_X5_lengthOf_220__X1_chooseBest_240 (a b : Int) (h : R_X5_lengthOf_220 a b) : R_X1_chooseBest_240 a b := (h.elim (fun h => (Or.inl (⟨by omega, by omega⟩))) (fun h => (h.elim (fun h => (Or.inr (Or.inl (⟨by omega, by omega⟩)))) (fun h => (h.elim (fun h => (Or.inr (Or.inr (Or.inr (Or.inl (⟨h.1, by omega⟩)))))) (fun h => (Or.inr (Or.inr (Or.inr (Or.inr (⟨h.1, by omega⟩)))))))))))
theorem sj_X1_chooseBest_240_J112 {fu : Nat} (hfu : 8589934592 ≤ fu) (r0 s : z_M) (c : z_CI s) (f : z_Fr R_X1_chooseBest_240 r0 s) (a1 : Int) (a2 : Int) (a3 : Int) (a5 : Int) (t0 : Int) (t1 : Int) (t2 : Int) (b1 : -2147483648 ≤ a1 ∧ a1 ≤ 2147483647) (b2 : 0 ≤ a2 ∧ a2 ≤ 200) (b3 : -9223372036854775808 ≤ a3 ∧ a3 ≤ 9223372036854775807) (b5 : 0 ≤ a5 ∧ a5 ≤ 199) (d0 : -2147483648 ≤ t0 ∧ t0 ≤ 2147483647) (d1 : -2147483648 ≤ t1 ∧ t1 ≤ 2147483647) (d2 : 0 ≤ t2 ∧ t2 ≤ 1) (p0 : a2 ≤ a5) (M : Int) (pm : 2147483647 - a5 ≤ M) {r : z_M → Int → Int → z_O} {k : z_M → Int → z_O} (hr : ∀ (s' : z_M) (v3 : Int) (v5 : Int), z_CI s' → z_Fr R_X1_chooseBest_240 r0 s' → (-9223372036854775808 ≤ v3 ∧ v3 ≤ 9223372036854775807) → (0 ≤ v5 ∧ v5 ≤ 200) → (a2 ≤ v5) → (2147483647 - v5 < M) → z_T (r s' v3 v5) (P_X1_chooseBest_240 r0)) (hk : ∀ (s' : z_M) (v3 : Int), z_CI s' → z_Fr R_X1_chooseBest_240 r0 s' → (-9223372036854775808 ≤ v3 ∧ v3 ≤ 9223372036854775807) → z_T (k s' v3) (P_X1_chooseBest_240 r0)) : z_T (fX1_chooseBest_J112 fu s 240 a1 a2 a3 a5 t0 t1 t2 r k) (P_X1_chooseBest_240 r0) := by
  refine T_of (fX1_chooseBest_J112.eq_1 ..) ?_
  have u1 := CI_b c (k := 191) (j := 16) bd_191_16
  refine T_useL (sf_X1_costFor hfu s c t0 t1 t2 (by omega) (by omega) (by omega)) (fun v7 s2 hq => ?_)
  obtain ⟨c3, f4, ⟨x6, rfl, b8, b9⟩⟩ := hq
  refine T_vL ?_
  have f5 := z_Fr.tr (R := R_X1_chooseBest_240) f f4 (fun a b h => absurd h not_false)
  have t10 : s2 191 16 = s 191 16 := f4 191 16 (by decide)
  refine T_if1 (by decide +kernel) ?_
  refine T_let 243 (by decide +kernel) ?_
  refine T_leq (fun x11 e12 => ?_)
  have w13 := z_wb e12
  refine T_if1 (by decide +kernel) ?_
  refine T_lget (by decide +kernel) (c := 244) (by decide +kernel) bdr_244 (by decide) c3 (fun x14 e15 b16 => ?_)
  refine T_leq (fun x18 e19 => ?_)
  have w20 := z_wlr e19
  refine T_leq (fun x21 e22 => ?_)
  have w23 : -1 ≤ x21 ∧ x21 ≤ 1 := by rw [← e22]; exact z_cmpb _ _
  refine T_ite (fun h24 => ?_) (fun h24 => ?_)
  · exact sj_X1_chooseBest_240_J157 hfu r0 s2 c3 f5 a1 a2 a3 a5 (by omega) (by omega) (by omega) (by omega) (by omega) M (by omega) (fun s' v3 v5 c' f' w3 w5 z0 pg => hr s' v3 v5 c' f' w3 w5 z0 (by omega)) hk
  · refine T_if1 (by decide +kernel) ?_
    refine T_let 241 (by decide +kernel) ?_
    refine T_leq (fun x25 e26 => ?_)
    have w27 := z_wb e26
    refine T_leq (fun x28 e29 => ?_)
    have w30 := z_wb e29
    refine T_if1 (by decide +kernel) ?_
    refine T_put (by decide +kernel) (c := 242) (by decide +kernel) bdr_242 (by omega) c3 (fun s31 e34 c32 g35 => ?_)
    have f33 := z_Fr.up (R := R_X1_chooseBest_240) f5 g35 (fun _ => (Or.inr (Or.inr (Or.inl (⟨by decide, by decide⟩)))))
    have t36 : s31 191 16 = s2 191 16 := g35 191 16 (by decide)
    exact sj_X1_chooseBest_240_J157 hfu r0 s31 c32 f33 a1 a2 x18 a5 (by omega) (by omega) (by omega) (by omega) (by omega) M (by omega) (fun s' v3 v5 c' f' w3 w5 z0 pg => hr s' v3 v5 c' f' w3 w5 z0 (by omega)) hk
theorem sl_X1_chooseBest_240_L36 {fu : Nat} (hfu : 8589934592 ≤ fu) (r0 : z_M) (a1 : Int) (a2 : Int) (b1 : -2147483648 ≤ a1 ∧ a1 ≤ 2147483647) (b2 : 0 ≤ a2 ∧ a2 ≤ 200) {k : z_M → Int → z_O} (hk : ∀ (s' : z_M) (v3 : Int), z_CI s' → z_Fr R_X1_chooseBest_240 r0 s' → (-9223372036854775808 ≤ v3 ∧ v3 ≤ 9223372036854775807) → z_T (k s' v3) (P_X1_chooseBest_240 r0)) : ∀ (F : Nat) (s : z_M) (a3 : Int) (a5 : Int), z_CI s → z_Fr R_X1_chooseBest_240 r0 s → (-9223372036854775808 ≤ a3 ∧ a3 ≤ 9223372036854775807) → (0 ≤ a5 ∧ a5 ≤ 200) → (a2 ≤ a5) → (2147483647 - a5 < (F : Int)) → z_T (fX1_chooseBest_L36 fu 240 a1 a2 F s a3 a5 k) (P_X1_chooseBest_240 r0) := by
  intro F
  induction F with
  | zero =>
    intro s a3 a5 c f b3 b5 i0 hm
    have u51 := CI_b c (k := 191) (j := 16) bd_191_16
    exfalso; omega
  | succ F ih =>
    intro s a3 a5 c f b3 b5 i0 hm
    refine T_of (fX1_chooseBest_L36.eq_2 ..) ?_
    have u1 := CI_b c (k := 191) (j := 16) bd_191_16
    refine T_if1 (by decide +kernel) ?_
    refine T_let 191 (by decide +kernel) ?_
    refine T_if1 (by decide +kernel) ?_
    refine T_leq (fun x2 e3 => ?_)
    have u4 := CI_b c (k := 191) (j := 16) bd_191_16
    refine T_ite (fun h5 => ?_) (fun h5 => ?_)
    · exact hk s a3 c f (by omega)
    · refine T_if1 (by decide +kernel) ?_
      refine T_let 191 (by decide +kernel) ?_
      refine T_if1 (by decide +kernel) ?_
      refine T_useI (sf_X10_solid_191 hfu s c a2 a5 (by omega) (by omega)) (fun v11 s6 hq => ?_)
      obtain ⟨c7, f8, ⟨x10, rfl, b12, b13⟩⟩ := hq
      refine T_vI ?_
      have f9 := z_Fr.tr (R := R_X1_chooseBest_240) f f8 (fun a b h => absurd h not_false)
      have t14 : s6 191 16 = s 191 16 := f8 191 16 (by decide)
      refine T_leq (fun x15 e16 => ?_)
      have w17 := z_wb e16
      refine T_leq (fun x18 e19 => ?_)
      have w20 := z_wlr e19
      refine T_leq (fun x21 e22 => ?_)
      have w23 : -1 ≤ x21 ∧ x21 ≤ 1 := by rw [← e22]; exact z_cmpb _ _
      refine T_ite (fun h24 => ?_) (fun h24 => ?_)
      · refine T_if1 (by decide +kernel) ?_
        refine T_useI (sf_X1_closesLine_240 hfu s6 c7 a5 (by omega)) (fun v30 s25 hq => ?_)
        obtain ⟨c26, f27, ⟨x29, rfl, b31, b32⟩⟩ := hq
        refine T_vI ?_
        have f28 := z_Fr.tr (R := R_X1_chooseBest_240) f9 f27 (fun a b h => absurd h not_false)
        have t33 : s25 191 16 = s6 191 16 := f27 191 16 (by decide)
        refine T_ite (fun h34 => ?_) (fun h34 => ?_)
        · exact sj_X1_chooseBest_240_J157 hfu r0 s25 c26 f28 a1 a2 a3 a5 (by omega) (by omega) (by omega) (by omega) (by omega) (2147483647 - a5) (by omega) (fun s' v3 v5 c' f' w3 w5 z0 pg => ih s' v3 v5 c' f' w3 w5 z0 (by omega)) hk
        · refine T_if1 (by decide +kernel) ?_
          refine T_let 220 (by decide +kernel) ?_
          refine T_if1 (by decide +kernel) ?_
          refine T_useI (sf_X5_lengthOf_220 hfu s25 c26 a2 a5 (by omega) (by omega)) (fun v40 s35 hq => ?_)
          obtain ⟨c36, f37, ⟨x39, rfl, b41, b42⟩⟩ := hq
          refine T_vI ?_
          have f38 := z_Fr.tr (R := R_X1_chooseBest_240) f28 f37 rs_X5_lengthOf_220__X1_chooseBest_240
          have t43 : s35 191 16 = s25 191 16 := f37 191 16 (by decide)
          refine T_if1 (by decide +kernel) ?_
          refine T_let 191 (by decide +kernel) ?_
          refine T_if1 (by decide +kernel) ?_
          refine T_leq (fun x44 e45 => ?_)
          have u46 := CI_b c36 (k := 191) (j := 16) bd_191_16
          refine T_leq (fun x47 e48 => ?_)
          have w49 := z_wb e48
          refine T_ite (fun h50 => ?_) (fun h50 => ?_)
          · exact sj_X1_chooseBest_240_J112 hfu r0 s35 c36 f38 a1 a2 a3 a5 x39 a1 0 (by omega) (by omega) (by omega) (by omega) (by omega) (by omega) (by omega) (by omega) (2147483647 - a5) (by omega) (fun s' v3 v5 c' f' w3 w5 z0 pg => ih s' v3 v5 c' f' w3 w5 z0 (by omega)) hk
          · exact sj_X1_chooseBest_240_J112 hfu r0 s35 c36 f38 a1 a2 a3 a5 x39 a1 1 (by omega) (by omega) (by omega) (by omega) (by omega) (by omega) (by omega) (by omega) (2147483647 - a5) (by omega) (fun s' v3 v5 c' f' w3 w5 z0 pg => ih s' v3 v5 c' f' w3 w5 z0 (by omega)) hk
      · exact hk s6 a3 c7 f9 (by omega)
theorem sj_X1_chooseBest_240_J163 {fu : Nat} (hfu : 8589934592 ≤ fu) (r0 s : z_M) (c : z_CI s) (f : z_Fr R_X1_chooseBest_240 r0 s) (a1 : Int) (a2 : Int) (a3 : Int) (b1 : -2147483648 ≤ a1 ∧ a1 ≤ 2147483647) (b2 : 0 ≤ a2 ∧ a2 ≤ 200) (b3 : -9223372036854775808 ≤ a3 ∧ a3 ≤ 9223372036854775807) (M : Int) (pm : a2 + 2147483648 ≤ M) {r : z_M → Int → z_O} {k : z_M → z_O} (hr : ∀ (s' : z_M) (v2 : Int), z_CI s' → z_Fr R_X1_chooseBest_240 r0 s' → ((-1) ≤ v2 ∧ v2 ≤ 199) → (v2 + 2147483648 < M) → z_T (r s' v2) (P_X1_chooseBest_240 r0)) (hk : ∀ (s' : z_M), z_CI s' → z_Fr R_X1_chooseBest_240 r0 s' → z_T (k s') (P_X1_chooseBest_240 r0)) : z_T (fX1_chooseBest_J163 fu s 240 a1 a2 a3 r k) (P_X1_chooseBest_240 r0) := by
  refine T_of (fX1_chooseBest_J163.eq_1 ..) ?_
  have u1 := CI_b c (k := 191) (j := 16) bd_191_16
  refine T_if1 (by decide +kernel) ?_
  refine T_let 243 (by decide +kernel) ?_
  refine T_if1 (by decide +kernel) ?_
  refine T_lput (by decide +kernel) (c := 244) (by decide +kernel) bdr_244 (by omega) c (fun s2 e5 c3 g6 => ?_)
  have f4 := z_Fr.up (R := R_X1_chooseBest_240) f g6 (fun _ => (Or.inr (Or.inr (Or.inl (⟨by decide, by decide⟩)))))
  have t7 : s2 191 16 = s 191 16 := g6 191 16 (by decide)
  refine T_leq (fun x8 e9 => ?_)
  have w10 := z_wb e9
  exact hr s2 x8 c3 f4 (by omega) (by omega)
theorem sl_X1_chooseBest_240_L25 {fu : Nat} (hfu : 8589934592 ≤ fu) (r0 : z_M) (a1 : Int) (b1 : -2147483648 ≤ a1 ∧ a1 ≤ 2147483647) {k : z_M → z_O} (hk : ∀ (s' : z_M), z_CI s' → z_Fr R_X1_chooseBest_240 r0 s' → z_T (k s') (P_X1_chooseBest_240 r0)) : ∀ (F : Nat) (s : z_M) (a2 : Int), z_CI s → z_Fr R_X1_chooseBest_240 r0 s → ((-1) ≤ a2 ∧ a2 ≤ 199) → (a2 + 2147483648 < (F : Int)) → z_T (fX1_chooseBest_L25 fu 240 a1 F s a2 k) (P_X1_chooseBest_240 r0) := by
  intro F
  induction F with
  | zero =>
    intro s a2 c f b2 hm
    have u9 := CI_b c (k := 191) (j := 16) bd_191_16
    exfalso; omega
  | succ F ih =>
    intro s a2 c f b2 hm
    refine T_of (fX1_chooseBest_L25.eq_2 ..) ?_
    have u1 := CI_b c (k := 191) (j := 16) bd_191_16
    refine T_ite (fun h2 => ?_) (fun h2 => ?_)
    · exact hk s c f
    · refine sl_X1_chooseBest_240_L36 hfu r0 a1 a2 (by omega) (by omega) (fun s3 y6 c4 f5 b7 => ?_) fu s 9223372036854775807 a2 c f (by omega) (by omega) (by omega) (by omega)
      have u8 := CI_b c4 (k := 191) (j := 16) bd_191_16
      exact sj_X1_chooseBest_240_J163 hfu r0 s3 c4 f5 a1 a2 y6 (by omega) (by omega) (by omega) (a2 + 2147483648) (by omega) (fun s' v2 c' f' w2 pg => ih s' v2 c' f' w2 (by omega)) hk
theorem sf_X1_chooseBest_240 {fu : Nat} (hfu : 8589934592 ≤ fu) (r0 : z_M) (c0 : z_CI r0) (a1 : Int) (b1 : -2147483648 ≤ a1 ∧ a1 ≤ 2147483647) : z_T (fX1_chooseBest fu r0 240 a1) (P_X1_chooseBest_240 r0) := by
  refine T_of (fX1_chooseBest.eq_1 ..) ?_
  refine T_if1 (by decide +kernel) ?_
  refine T_let 243 (by decide +kernel) ?_
  refine T_if1 (by decide +kernel) ?_
  refine T_let 191 (by decide +kernel) ?_
  refine T_if1 (by decide +kernel) ?_
  refine T_leq (fun x1 e2 => ?_)
  have u3 := CI_b c0 (k := 191) (j := 16) bd_191_16
  refine T_if1 (by decide +kernel) ?_
  refine T_lput (by decide +kernel) (c := 244) (by decide +kernel) bdr_244 (by omega) c0 (fun s4 e7 c5 g8 => ?_)
  have f6 := z_Fr.up (R := R_X1_chooseBest_240) z_Fr.rf g8 (fun _ => (Or.inr (Or.inr (Or.inl (⟨by decide, by decide⟩)))))
  have t9 : s4 191 16 = r0 191 16 := g8 191 16 (by decide)
  refine T_if1 (by decide +kernel) ?_
  refine T_let 191 (by decide +kernel) ?_
  refine T_if1 (by decide +kernel) ?_
  refine T_leq (fun x10 e11 => ?_)
  have u12 := CI_b c5 (k := 191) (j := 16) bd_191_16
  refine T_leq (fun x13 e14 => ?_)
  have w15 := z_wb e14
  refine sl_X1_chooseBest_240_L25 hfu r0 a1 (by omega) (fun s16 c17 f18 => ?_) fu s4 x13 c5 f6 (by omega) (by omega)
  have u19 := CI_b c17 (k := 191) (j := 16) bd_191_16
  exact T_ret ⟨c17, f18, rfl⟩
abbrev R_X1_asMany_240 (a b : Int) : Prop := (222 ≤ a ∧ a ≤ 222) ∨ (225 ≤ a ∧ a ≤ 239) ∨ (a = 220 ∧ (b = 4 ∨ b = 5)) ∨ (a = 223 ∧ (b = 9))
abbrev P_X1_asMany_240 (r0 : z_M) : z_V → z_M → Prop := fun v s' => z_CI s' ∧ z_Fr R_X1_asMany_240 r0 s' ∧ (∃ x, v = vI x ∧ 0 ≤ x ∧ x ≤ 200)
theorem rs_X5_lengthOf_220__X1_asMany_240 (a b : Int) (h : R_X5_lengthOf_220 a b) : R_X1_asMany_240 a b := (h.elim (fun h => (Or.inl (⟨by omega, by omega⟩))) (fun h => (h.elim (fun h => (Or.inr (Or.inl (⟨by omega, by omega⟩)))) (fun h => (h.elim (fun h => (Or.inr (Or.inr (Or.inl (⟨h.1, by omega⟩))))) (fun h => (Or.inr (Or.inr (Or.inr (⟨h.1, by omega⟩))))))))))
theorem sj_X1_asMany_240_J72 {fu : Nat} (hfu : 8589934592 ≤ fu) (r0 s : z_M) (c : z_CI s) (f : z_Fr R_X1_asMany_240 r0 s) (a1 : Int) (a2 : Int) (a3 : Int) (a4 : Int) (a5 : Int) (b1 : 0 ≤ a1 ∧ a1 ≤ 200) (b2 : -2147483648 ≤ a2 ∧ a2 ≤ 2147483647) (b3 : 0 ≤ a3 ∧ a3 ≤ 200) (b4 : 0 ≤ a4 ∧ a4 ≤ 200) (b5 : 0 ≤ a5 ∧ a5 ≤ 199) (p0 : a1 ≤ a5) (M : Int) (pm : 2147483647 - a5 ≤ M) {r : z_M → Int → Int → Int → z_O} {k : z_M → Int → Int → z_O} (hr : ∀ (s' : z_M) (v3 : Int) (v4 : Int) (v5 : Int), z_CI s' → z_Fr R_X1_asMany_240 r0 s' → (0 ≤ v3 ∧ v3 ≤ 200) → (0 ≤ v4 ∧ v4 ≤ 200) → (0 ≤ v5 ∧ v5 ≤ 200) → (a1 ≤ v5) → (2147483647 - v5 < M) → z_T (r s' v3 v4 v5) (P_X1_asMany_240 r0)) (hk : ∀ (s' : z_M) (v3 : Int) (v4 : Int), z_CI s' → z_Fr R_X1_asMany_240 r0 s' → (0 ≤ v3 ∧ v3 ≤ 200) → (0 ≤ v4 ∧ v4 ≤ 200) → z_T (k s' v3 v4) (P_X1_asMany_240 r0)) : z_T (fX1_asMany_J72 fu s 240 a1 a2 a3 a4 a5 r k) (P_X1_asMany_240 r0) := by
  refine T_of (fX1_asMany_J72.eq_1 ..) ?_
  have u1 := CI_b c (k := 191) (j := 16) bd_191_16
  refine T_leq (fun x2 e3 => ?_)
  have w4 := z_wb e3
  exact hr s a3 a4 x2 c f (by omega) (by omega) (by omega) (by omega) (by omega)
theorem sj_X1_asMany_240_J70 {fu : Nat} (hfu : 8589934592 ≤ fu) (r0 s : z_M) (c : z_CI s) (f : z_Fr R_X1_asMany_240 r0 s) (a1 : Int) (a2 : Int) (a3 : Int) (a5 : Int) (t0 : Int) (b1 : 0 ≤ a1 ∧ a1 ≤ 200) (b2 : -2147483648 ≤ a2 ∧ a2 ≤ 2147483647) (b3 : 0 ≤ a3 ∧ a3 ≤ 200) (b5 : 0 ≤ a5 ∧ a5 ≤ 199) (d0 : 0 ≤ t0 ∧ t0 ≤ 200) (p0 : a1 ≤ a5) (M : Int) (pm : 2147483647 - a5 ≤ M) {r : z_M → Int → Int → Int → z_O} {k : z_M → Int → Int → z_O} (hr : ∀ (s' : z_M) (v3 : Int) (v4 : Int) (v5 : Int), z_CI s' → z_Fr R_X1_asMany_240 r0 s' → (0 ≤ v3 ∧ v3 ≤ 200) → (0 ≤ v4 ∧ v4 ≤ 200) → (0 ≤ v5 ∧ v5 ≤ 200) → (a1 ≤ v5) → (2147483647 - v5 < M) → z_T (r s' v3 v4 v5) (P_X1_asMany_240 r0)) (hk : ∀ (s' : z_M) (v3 : Int) (v4 : Int), z_CI s' → z_Fr R_X1_asMany_240 r0 s' → (0 ≤ v3 ∧ v3 ≤ 200) → (0 ≤ v4 ∧ v4 ≤ 200) → z_T (k s' v3 v4) (P_X1_asMany_240 r0)) : z_T (fX1_asMany_J70 fu s 240 a1 a2 a3 a5 t0 r k) (P_X1_asMany_240 r0) := by
  refine T_of (fX1_asMany_J70.eq_1 ..) ?_
  have u1 := CI_b c (k := 191) (j := 16) bd_191_16
  exact sj_X1_asMany_240_J72 hfu r0 s c f a1 a2 a3 t0 a5 (by omega) (by omega) (by omega) (by omega) (by omega) (by omega) M (by omega) (fun s' v3 v4 v5 c' f' w3 w4 w5 z0 pg => hr s' v3 v4 v5 c' f' w3 w4 w5 z0 (by omega)) hk
theorem sl_X1_asMany_240_L8 {fu : Nat} (hfu : 8589934592 ≤ fu) (r0 : z_M) (a1 : Int) (a2 : Int) (b1 : 0 ≤ a1 ∧ a1 ≤ 200) (b2 : -2147483648 ≤ a2 ∧ a2 ≤ 2147483647) {k : z_M → Int → Int → z_O} (hk : ∀ (s' : z_M) (v3 : Int) (v4 : Int), z_CI s' → z_Fr R_X1_asMany_240 r0 s' → (0 ≤ v3 ∧ v3 ≤ 200) → (0 ≤ v4 ∧ v4 ≤ 200) → z_T (k s' v3 v4) (P_X1_asMany_240 r0)) : ∀ (F : Nat) (s : z_M) (a3 : Int) (a4 : Int) (a5 : Int), z_CI s → z_Fr R_X1_asMany_240 r0 s → (0 ≤ a3 ∧ a3 ≤ 200) → (0 ≤ a4 ∧ a4 ≤ 200) → (0 ≤ a5 ∧ a5 ≤ 200) → (a1 ≤ a5) → (2147483647 - a5 < (F : Int)) → z_T (fX1_asMany_L8 fu 240 a1 a2 F s a3 a4 a5 k) (P_X1_asMany_240 r0) := by
  intro F
  induction F with
  | zero =>
    intro s a3 a4 a5 c f b3 b4 b5 i0 hm
    have u42 := CI_b c (k := 191) (j := 16) bd_191_16
    exfalso; omega
  | succ F ih =>
    intro s a3 a4 a5 c f b3 b4 b5 i0 hm
    refine T_of (fX1_asMany_L8.eq_2 ..) ?_
    have u1 := CI_b c (k := 191) (j := 16) bd_191_16
    refine T_if1 (by decide +kernel) ?_
    refine T_let 191 (by decide +kernel) ?_
    refine T_if1 (by decide +kernel) ?_
    refine T_leq (fun x2 e3 => ?_)
    have u4 := CI_b c (k := 191) (j := 16) bd_191_16
    refine T_ite (fun h5 => ?_) (fun h5 => ?_)
    · exact hk s a3 a4 c f (by omega) (by omega)
    · refine T_if1 (by decide +kernel) ?_
      refine T_let 191 (by decide +kernel) ?_
      refine T_if1 (by decide +kernel) ?_
      refine T_useI (sf_X10_solid_191 hfu s c a1 a5 (by omega) (by omega)) (fun v11 s6 hq => ?_)
      obtain ⟨c7, f8, ⟨x10, rfl, b12, b13⟩⟩ := hq
      refine T_vI ?_
      have f9 := z_Fr.tr (R := R_X1_asMany_240) f f8 (fun a b h => absurd h not_false)
      have t14 : s6 191 16 = s 191 16 := f8 191 16 (by decide)
      refine T_ite (fun h15 => ?_) (fun h15 => ?_)
      · exact hk s6 a3 a4 c7 f9 (by omega) (by omega)
      · refine T_if1 (by decide +kernel) ?_
        refine T_let 220 (by decide +kernel) ?_
        refine T_if1 (by decide +kernel) ?_
        refine T_useI (sf_X5_lengthOf_220 hfu s6 c7 a1 a5 (by omega) (by omega)) (fun v21 s16 hq => ?_)
        obtain ⟨c17, f18, ⟨x20, rfl, b22, b23⟩⟩ := hq
        refine T_vI ?_
        have f19 := z_Fr.tr (R := R_X1_asMany_240) f9 f18 rs_X5_lengthOf_220__X1_asMany_240
        have t24 : s16 191 16 = s6 191 16 := f18 191 16 (by decide)
        refine T_ite (fun h25 => ?_) (fun h25 => ?_)
        · exact sj_X1_asMany_240_J72 hfu r0 s16 c17 f19 a1 a2 a3 a4 a5 (by omega) (by omega) (by omega) (by omega) (by omega) (by omega) (2147483647 - a5) (by omega) (fun s' v3 v4 v5 c' f' w3 w4 w5 z0 pg => ih s' v3 v4 v5 c' f' w3 w4 w5 z0 (by omega)) hk
        · refine T_leq (fun x26 e27 => ?_)
          have w28 := z_wb e27
          refine T_leq (fun x29 e30 => ?_)
          have w31 := z_wb e30
          refine T_if1 (by decide +kernel) ?_
          refine T_useI (sf_X1_closesLine_240 hfu s16 c17 a5 (by omega)) (fun v37 s32 hq => ?_)
          obtain ⟨c33, f34, ⟨x36, rfl, b38, b39⟩⟩ := hq
          refine T_vI ?_
          have f35 := z_Fr.tr (R := R_X1_asMany_240) f19 f34 (fun a b h => absurd h not_false)
          have t40 : s32 191 16 = s16 191 16 := f34 191 16 (by decide)
          refine T_ite (fun h41 => ?_) (fun h41 => ?_)
          · exact sj_X1_asMany_240_J70 hfu r0 s32 c33 f35 a1 a2 x29 a5 a4 (by omega) (by omega) (by omega) (by omega) (by omega) (by omega) (2147483647 - a5) (by omega) (fun s' v3 v4 v5 c' f' w3 w4 w5 z0 pg => ih s' v3 v4 v5 c' f' w3 w4 w5 z0 (by omega)) hk
          · exact sj_X1_asMany_240_J70 hfu r0 s32 c33 f35 a1 a2 x29 a5 x29 (by omega) (by omega) (by omega) (by omega) (by omega) (by omega) (2147483647 - a5) (by omega) (fun s' v3 v4 v5 c' f' w3 w4 w5 z0 pg => ih s' v3 v4 v5 c' f' w3 w4 w5 z0 (by omega)) hk
theorem sj_X1_asMany_240_J89 {fu : Nat} (hfu : 8589934592 ≤ fu) (r0 s : z_M) (c : z_CI s) (f : z_Fr R_X1_asMany_240 r0 s) (t0 : Int) (d0 : 0 ≤ t0 ∧ t0 ≤ 200) : z_T (fX1_asMany_J89 fu s t0) (P_X1_asMany_240 r0) := by
  refine T_of (fX1_asMany_J89.eq_1 ..) ?_
  have u1 := CI_b c (k := 191) (j := 16) bd_191_16
  exact T_ret ⟨c, f, ⟨t0, rfl, by omega, by omega⟩⟩
theorem sj_X1_asMany_240_J78 {fu : Nat} (hfu : 8589934592 ≤ fu) (r0 s : z_M) (c : z_CI s) (f : z_Fr R_X1_asMany_240 r0 s) (a3 : Int) (a4 : Int) (b3 : 0 ≤ a3 ∧ a3 ≤ 200) (b4 : 0 ≤ a4 ∧ a4 ≤ 200) : z_T (fX1_asMany_J78 fu s a3 a4) (P_X1_asMany_240 r0) := by
  refine T_of (fX1_asMany_J78.eq_1 ..) ?_
  have u1 := CI_b c (k := 191) (j := 16) bd_191_16
  refine T_ite (fun h2 => ?_) (fun h2 => ?_)
  · exact sj_X1_asMany_240_J89 hfu r0 s c f a3 (by omega)
  · exact sj_X1_asMany_240_J89 hfu r0 s c f a4 (by omega)
theorem sf_X1_asMany_240 {fu : Nat} (hfu : 8589934592 ≤ fu) (r0 : z_M) (c0 : z_CI r0) (a1 : Int) (a2 : Int) (b1 : 0 ≤ a1 ∧ a1 ≤ 200) (b2 : -2147483648 ≤ a2 ∧ a2 ≤ 2147483647) : z_T (fX1_asMany fu r0 240 a1 a2) (P_X1_asMany_240 r0) := by
  refine T_of (fX1_asMany.eq_1 ..) ?_
  refine sl_X1_asMany_240_L8 hfu r0 a1 a2 (by omega) (by omega) (fun s1 y4 y5 c2 f3 b6 b7 => ?_) fu r0 1 0 a1 c0 z_Fr.rf (by omega) (by omega) (by omega) (by omega) (by omega)
  have u8 := CI_b c2 (k := 191) (j := 16) bd_191_16
  exact sj_X1_asMany_240_J78 hfu r0 s1 c2 f3 y4 y5 (by omega) (by omega)
abbrev R_X1_go_240 (a b : Int) : Prop := (222 ≤ a ∧ a ≤ 222) ∨ (225 ≤ a ∧ a ≤ 239) ∨ (242 ≤ a ∧ a ≤ 244) ∨ (248 ≤ a ∧ a ≤ 248) ∨ (a = 220 ∧ (b = 4 ∨ b = 5)) ∨ (a = 223 ∧ (b = 9)) ∨ (a = 240 ∧ (b = 6))
abbrev P_X1_go_240 (r0 : z_M) : z_V → z_M → Prop := fun v s' => z_CI s' ∧ z_Fr R_X1_go_240 r0 s' ∧ (v = vN)
theorem rs_X1_asMany_240__X1_go_240 (a b : Int) (h : R_X1_asMany_240 a b) : R_X1_go_240 a b := (h.elim (fun h => (Or.inl (⟨by omega, by omega⟩))) (fun h => (h.elim (fun h => (Or.inr (Or.inl (⟨by omega, by omega⟩)))) (fun h => (h.elim (fun h => (Or.inr (Or.inr (Or.inr (Or.inr (Or.inl (⟨h.1, by omega⟩))))))) (fun h => (Or.inr (Or.inr (Or.inr (Or.inr (Or.inr (Or.inl (⟨h.1, by omega⟩)))))))))))))
theorem sj_X1_go_240_J74 {fu : Nat} (hfu : 8589934592 ≤ fu) (r0 s : z_M) (c : z_CI s) (f : z_Fr R_X1_go_240 r0 s) (a1 : Int) (a2 : Int) (t0 : Int) (t1 : Int) (t2 : Int) (b1 : -2147483648 ≤ a1 ∧ a1 ≤ 2147483647) (b2 : -2147483648 ≤ a2 ∧ a2 ≤ 2147483647) (d0 : 0 ≤ t0 ∧ t0 ≤ 199) (d1 : 1 ≤ t1 ∧ t1 ≤ 1) (d2 : 0 ≤ t2 ∧ t2 ≤ 200) (p0 : 0 ≤ s 240 6) (p1 : s 240 6 ≤ t0 + 1) (M : Int) (pm : 2147483647 - t0 ≤ M) {r : z_M → Int → z_O} {k : z_M → z_O} (hr : ∀ (s' : z_M) (v3 : Int), z_CI s' → z_Fr R_X1_go_240 r0 s' → (0 ≤ v3 ∧ v3 ≤ 400) → (0 ≤ s' 240 6) → (s' 240 6 ≤ v3) → (2147483647 - v3 < M) → z_T (r s' v3) (P_X1_go_240 r0)) (hk : ∀ (s' : z_M), z_CI s' → z_Fr R_X1_go_240 r0 s' → z_T (k s') (P_X1_go_240 r0)) : z_T (fX1_go_J74 fu s 240 a1 a2 t0 t1 t2 r k) (P_X1_go_240 r0) := by
  refine T_of (fX1_go_J74.eq_1 ..) ?_
  have u1 := CI_b c (k := 191) (j := 16) bd_191_16
  have u2 := CI_b c (k := 240) (j := 6) bd_240_6
  refine T_leq (fun x3 e4 => ?_)
  have w5 := z_maxb t1 t2
  rw [e4] at w5
  refine T_leq (fun x6 e7 => ?_)
  have w8 := z_wb e7
  exact hr s x6 c f (by omega) (by omega) (by omega) (by omega)
theorem sl_X1_go_240_L17 {fu : Nat} (hfu : 8589934592 ≤ fu) (r0 : z_M) (a1 : Int) (a2 : Int) (b1 : -2147483648 ≤ a1 ∧ a1 ≤ 2147483647) (b2 : -2147483648 ≤ a2 ∧ a2 ≤ 2147483647) {k : z_M → z_O} (hk : ∀ (s' : z_M), z_CI s' → z_Fr R_X1_go_240 r0 s' → z_T (k s') (P_X1_go_240 r0)) : ∀ (F : Nat) (s : z_M) (a3 : Int), z_CI s → z_Fr R_X1_go_240 r0 s → (0 ≤ a3 ∧ a3 ≤ 400) → (0 ≤ s 240 6) → (s 240 6 ≤ a3) → (2147483647 - a3 < (F : Int)) → z_T (fX1_go_L17 fu 240 a1 a2 F s a3 k) (P_X1_go_240 r0) := by
  intro F
  induction F with
  | zero =>
    intro s a3 c f b3 i0 i1 hm
    have u46 := CI_b c (k := 191) (j := 16) bd_191_16
    have u47 := CI_b c (k := 240) (j := 6) bd_240_6
    exfalso; omega
  | succ F ih =>
    intro s a3 c f b3 i0 i1 hm
    refine T_of (fX1_go_L17.eq_2 ..) ?_
    have u1 := CI_b c (k := 191) (j := 16) bd_191_16
    have u2 := CI_b c (k := 240) (j := 6) bd_240_6
    refine T_if1 (by decide +kernel) ?_
    refine T_let 191 (by decide +kernel) ?_
    refine T_if1 (by decide +kernel) ?_
    refine T_leq (fun x3 e4 => ?_)
    have u5 := CI_b c (k := 191) (j := 16) bd_191_16
    refine T_ite (fun h6 => ?_) (fun h6 => ?_)
    · exact hk s c f
    · refine T_if1 (by decide +kernel) ?_
      refine T_let 247 (by decide +kernel) ?_
      refine T_if1 (by decide +kernel) ?_
      refine T_leq (fun x7 e8 => ?_)
      have u9 := CI_b c (k := 240) (j := 6) bd_240_6
      refine T_if1 (by decide +kernel) ?_
      refine T_put (by decide +kernel) (c := 248) (by decide +kernel) bdr_248 (by omega) c (fun s10 e13 c11 g14 => ?_)
      have f12 := z_Fr.up (R := R_X1_go_240) f g14 (fun _ => (Or.inr (Or.inr (Or.inr (Or.inl (⟨by decide, by decide⟩))))))
      have t15 : s10 191 16 = s 191 16 := g14 191 16 (by decide)
      have t16 : s10 240 6 = s 240 6 := g14 240 6 (by decide)
      refine T_if1 (by decide +kernel) ?_
      refine T_leq (fun x17 e18 => ?_)
      have u19 := CI_b c11 (k := 240) (j := 6) bd_240_6
      refine T_leq (fun x20 e21 => ?_)
      have w22 := z_wb e21
      refine T_if1 (by decide +kernel) ?_
      refine T_upg c11 bd_240_6 (by omega) (fun s23 c24 g26 g27 e28 => ?_)
      have f25 := z_Fr.upf (R := R_X1_go_240) f12 g26 g27 (Or.inr (Or.inr (Or.inr (Or.inr (Or.inr (Or.inr (⟨rfl, by decide⟩)))))))
      have t29 : s23 191 16 = s10 191 16 := g26 191 16 (by decide)
      refine T_ite (fun h30 => ?_) (fun h30 => ?_)
      · refine T_if1 (by decide +kernel) ?_
        refine T_useI (sf_X1_asMany_240 hfu s23 c24 a3 a1 (by omega) (by omega)) (fun v36 s31 hq => ?_)
        obtain ⟨c32, f33, ⟨x35, rfl, b37, b38⟩⟩ := hq
        refine T_vI ?_
        have f34 := z_Fr.tr (R := R_X1_go_240) f25 f33 rs_X1_asMany_240__X1_go_240
        have t39 : s31 191 16 = s23 191 16 := f33 191 16 (by decide)
        have t40 : s31 240 6 = s23 240 6 := f33 240 6 (by decide)
        exact sj_X1_go_240_J74 hfu r0 s31 c32 f34 a1 a2 a3 1 x35 (by omega) (by omega) (by omega) (by omega) (by omega) (by omega) (by omega) (2147483647 - a3) (by omega) (fun s' v3 c' f' w3 z0 z1 pg => ih s' v3 c' f' w3 z0 z1 (by omega)) hk
      · refine T_if1 (by decide +kernel) ?_
        refine T_let 241 (by decide +kernel) ?_
        refine T_if1 (by decide +kernel) ?_
        refine T_get (by decide +kernel) (c := 242) (by decide +kernel) bdr_242 (by decide) c24 (fun x41 e42 b43 w44 => ?_)
        have l45 : z_ln 241 = 200 := by decide +kernel
        exact sj_X1_go_240_J74 hfu r0 s23 c24 f25 a1 a2 a3 1 x41 (by omega) (by omega) (by omega) (by omega) (by omega) (by omega) (by omega) (2147483647 - a3) (by omega) (fun s' v3 c' f' w3 z0 z1 pg => ih s' v3 c' f' w3 z0 z1 (by omega)) hk
theorem sj_X1_go_240_J10 {fu : Nat} (hfu : 8589934592 ≤ fu) (r0 s : z_M) (c : z_CI s) (f : z_Fr R_X1_go_240 r0 s) (a1 : Int) (a2 : Int) (b1 : -2147483648 ≤ a1 ∧ a1 ≤ 2147483647) (b2 : -2147483648 ≤ a2 ∧ a2 ≤ 2147483647) : z_T (fX1_go_J10 fu s 240 a1 a2) (P_X1_go_240 r0) := by
  refine T_of (fX1_go_J10.eq_1 ..) ?_
  have u1 := CI_b c (k := 191) (j := 16) bd_191_16
  have u2 := CI_b c (k := 240) (j := 6) bd_240_6
  refine T_if1 (by decide +kernel) ?_
  refine T_upg c bd_240_6 (by omega) (fun s3 c4 g6 g7 e8 => ?_)
  have f5 := z_Fr.upf (R := R_X1_go_240) f g6 g7 (Or.inr (Or.inr (Or.inr (Or.inr (Or.inr (Or.inr (⟨rfl, by decide⟩)))))))
  have t9 : s3 191 16 = s 191 16 := g6 191 16 (by decide)
  refine sl_X1_go_240_L17 hfu r0 a1 a2 (by omega) (by omega) (fun s10 c11 f12 => ?_) fu s3 0 c4 f5 (by omega) (by omega) (by omega) (by omega)
  have u13 := CI_b c11 (k := 191) (j := 16) bd_191_16
  have u14 := CI_b c11 (k := 240) (j := 6) bd_240_6
  refine T_if1 (by decide +kernel) ?_
  refine T_let 247 (by decide +kernel) ?_
  refine T_if1 (by decide +kernel) ?_
  refine T_leq (fun x15 e16 => ?_)
  have u17 := CI_b c11 (k := 240) (j := 6) bd_240_6
  refine T_if1 (by decide +kernel) ?_
  refine T_let 191 (by decide +kernel) ?_
  refine T_if1 (by decide +kernel) ?_
  refine T_leq (fun x18 e19 => ?_)
  have u20 := CI_b c11 (k := 191) (j := 16) bd_191_16
  refine T_if1 (by decide +kernel) ?_
  refine T_put (by decide +kernel) (c := 248) (by decide +kernel) bdr_248 (by omega) c11 (fun s21 e24 c22 g25 => ?_)
  have f23 := z_Fr.up (R := R_X1_go_240) f12 g25 (fun _ => (Or.inr (Or.inr (Or.inr (Or.inl (⟨by decide, by decide⟩))))))
  have t26 : s21 191 16 = s10 191 16 := g25 191 16 (by decide)
  have t27 : s21 240 6 = s10 240 6 := g25 240 6 (by decide)
  exact T_ret ⟨c22, f23, rfl⟩
theorem rs_X1_chooseBest_240__X1_go_240 (a b : Int) (h : R_X1_chooseBest_240 a b) : R_X1_go_240 a b := (h.elim (fun h => (Or.inl (⟨by omega, by omega⟩))) (fun h => (h.elim (fun h => (Or.inr (Or.inl (⟨by omega, by omega⟩)))) (fun h => (h.elim (fun h => (Or.inr (Or.inr (Or.inl (⟨by omega, by omega⟩))))) (fun h => (h.elim (fun h => (Or.inr (Or.inr (Or.inr (Or.inr (Or.inl (⟨h.1, by omega⟩))))))) (fun h => (Or.inr (Or.inr (Or.inr (Or.inr (Or.inr (Or.inl (⟨h.1, by omega⟩)))))))))))))))
theorem sf_X1_go_240 {fu : Nat} (hfu : 8589934592 ≤ fu) (r0 : z_M) (c0 : z_CI r0) (a1 : Int) (a2 : Int) (b1 : -2147483648 ≤ a1 ∧ a1 ≤ 2147483647) (b2 : -2147483648 ≤ a2 ∧ a2 ≤ 2147483647) : z_T (fX1_go fu r0 240 a1 a2) (P_X1_go_240 r0) := by
  refine T_of (fX1_go.eq_1 ..) ?_
  refine T_ite (fun h1 => ?_) (fun h1 => ?_)
  · exact sj_X1_go_240_J10 hfu r0 r0 c0 z_Fr.rf a1 a2 (by omega) (by omega)
  · refine T_if1 (by decide +kernel) ?_
    refine T_useN (sf_X1_chooseBest_240 hfu r0 c0 a1 (by omega)) (fun v7 s2 hq => ?_)
    obtain ⟨c3, f4, rfl⟩ := hq
    refine T_vN ?_
    have f5 := z_Fr.tr (R := R_X1_go_240) z_Fr.rf f4 rs_X1_chooseBest_240__X1_go_240
    have t10 : s2 191 16 = r0 191 16 := f4 191 16 (by decide)
    have t11 : s2 240 6 = r0 240 6 := f4 240 6 (by decide)
    exact sj_X1_go_240_J10 hfu r0 s2 c3 f5 a1 a2 (by omega) (by omega)
abbrev R_X1_closesLine_249 (a b : Int) : Prop := False
abbrev P_X1_closesLine_249 (r0 : z_M) : z_V → z_M → Prop := fun v s' => z_CI s' ∧ z_Fr R_X1_closesLine_249 r0 s' ∧ (∃ x, v = vI x ∧ 0 ≤ x ∧ x ≤ 1)
theorem sj_X1_closesLine_249_J33 {fu : Nat} (hfu : 8589934592 ≤ fu) (r0 s : z_M) (c : z_CI s) (f : z_Fr R_X1_closesLine_249 r0 s) (t0 : Int) (d0 : 0 ≤ t0 ∧ t0 ≤ 1) : z_T (fX1_closesLine_J33 fu s t0) (P_X1_closesLine_249 r0) := by
  refine T_of (fX1_closesLine_J33.eq_1 ..) ?_
  have u1 := CI_b c (k := 191) (j := 16) bd_191_16
  refine T_if1 (by unfold z_bl; omega) ?_
  exact T_ret ⟨c, f, ⟨t0, rfl, by omega, by omega⟩⟩
theorem sj_X1_closesLine_249_J28 {fu : Nat} (hfu : 8589934592 ≤ fu) (r0 s : z_M) (c : z_CI s) (f : z_Fr R_X1_closesLine_249 r0 s) : z_T (fX1_closesLine_J28 fu s) (P_X1_closesLine_249 r0) := by
  refine T_of (fX1_closesLine_J28.eq_1 ..) ?_
  have u1 := CI_b c (k := 191) (j := 16) bd_191_16
  exact sj_X1_closesLine_249_J33 hfu r0 s c f 1 (by omega)
theorem sf_X1_closesLine_249 {fu : Nat} (hfu : 8589934592 ≤ fu) (r0 : z_M) (c0 : z_CI r0) (a1 : Int) (b1 : -2147483648 ≤ a1 ∧ a1 ≤ 2147483647) : z_T (fX1_closesLine fu r0 249 a1) (P_X1_closesLine_249 r0) := by
  refine T_of (fX1_closesLine.eq_1 ..) ?_
  refine T_if1 (by decide +kernel) ?_
  refine T_let 191 (by decide +kernel) ?_
  refine T_if1 (by decide +kernel) ?_
  refine T_leq (fun x1 e2 => ?_)
  have u3 := CI_b c0 (k := 191) (j := 16) bd_191_16
  refine T_leq (fun x4 e5 => ?_)
  have w6 := z_wr e5
  refine T_ite (fun h7 => ?_) (fun h7 => ?_)
  · exact sj_X1_closesLine_249_J28 hfu r0 r0 c0 z_Fr.rf
  · refine T_if1 (by decide +kernel) ?_
    refine T_let 191 (by decide +kernel) ?_
    refine T_if1 (by decide +kernel) ?_
    refine T_let 208 (by decide +kernel) ?_
    refine T_if1 (by decide +kernel) ?_
    refine T_get (by decide +kernel) (c := 209) (by decide +kernel) bdr_209 (by decide) c0 (fun x8 e9 b10 w11 => ?_)
    have l12 : z_ln 208 = 200 := by decide +kernel
    refine T_ite (fun h13 => ?_) (fun h13 => ?_)
    · exact sj_X1_closesLine_249_J33 hfu r0 r0 c0 z_Fr.rf 0 (by omega)
    · exact sj_X1_closesLine_249_J28 hfu r0 r0 c0 z_Fr.rf
abbrev R_X1_chooseBest_249 (a b : Int) : Prop := (222 ≤ a ∧ a ≤ 222) ∨ (225 ≤ a ∧ a ≤ 239) ∨ (251 ≤ a ∧ a ≤ 253) ∨ (a = 220 ∧ (b = 4 ∨ b = 5)) ∨ (a = 223 ∧ (b = 9))
abbrev P_X1_chooseBest_249 (r0 : z_M) : z_V → z_M → Prop := fun v s' => z_CI s' ∧ z_Fr R_X1_chooseBest_249 r0 s' ∧ (v = vN)
theorem sj_X1_chooseBest_249_J157 {fu : Nat} (hfu : 8589934592 ≤ fu) (r0 s : z_M) (c : z_CI s) (f : z_Fr R_X1_chooseBest_249 r0 s) (a1 : Int) (a2 : Int) (a3 : Int) (a5 : Int) (b1 : -2147483648 ≤ a1 ∧ a1 ≤ 2147483647) (b2 : 0 ≤ a2 ∧ a2 ≤ 200) (b3 : -9223372036854775808 ≤ a3 ∧ a3 ≤ 9223372036854775807) (b5 : 0 ≤ a5 ∧ a5 ≤ 199) (p0 : a2 ≤ a5) (M : Int) (pm : 2147483647 - a5 ≤ M) {r : z_M → Int → Int → z_O} {k : z_M → Int → z_O} (hr : ∀ (s' : z_M) (v3 : Int) (v5 : Int), z_CI s' → z_Fr R_X1_chooseBest_249 r0 s' → (-9223372036854775808 ≤ v3 ∧ v3 ≤ 9223372036854775807) → (0 ≤ v5 ∧ v5 ≤ 200) → (a2 ≤ v5) → (2147483647 - v5 < M) → z_T (r s' v3 v5) (P_X1_chooseBest_249 r0)) (hk : ∀ (s' : z_M) (v3 : Int), z_CI s' → z_Fr R_X1_chooseBest_249 r0 s' → (-9223372036854775808 ≤ v3 ∧ v3 ≤ 9223372036854775807) → z_T (k s' v3) (P_X1_chooseBest_249 r0)) : z_T (fX1_chooseBest_J157 fu s 249 a1 a2 a3 a5 r k) (P_X1_chooseBest_249 r0) := by
  refine T_of (fX1_chooseBest_J157.eq_1 ..) ?_
  have u1 := CI_b c (k := 191) (j := 16) bd_191_16
  refine T_leq (fun x2 e3 => ?_)
  have w4 := z_wb e3
  exact hr s a3 x2 c f (by omega) (by omega) (by omega) (by omega)
theorem rs_X5_lengthOf_220__X1_chooseBest_249 (a b : Int) (h : R_X5_lengthOf_220 a b) : R_X1_chooseBest_249 a b := (h.elim (fun h => (Or.inl (⟨by omega, by omega⟩))) (fun h => (h.elim (fun h => (Or.inr (Or.inl (⟨by omega, by omega⟩)))) (fun h => (h.elim (fun h => (Or.inr (Or.inr (Or.inr (Or.inl (⟨h.1, by omega⟩)))))) (fun h => (Or.inr (Or.inr (Or.inr (Or.inr (⟨h.1, by omega⟩)))))))))))
theorem sj_X1_chooseBest_249_J112 {fu : Nat} (hfu : 8589934592 ≤ fu) (r0 s : z_M) (c : z_CI s) (f : z_Fr R_X1_chooseBest_249 r0 s) (a1 : Int) (a2 : Int) (a3 : Int) (a5 : Int) (t0 : Int) (t1 : Int) (t2 : Int) (b1 : -2147483648 ≤ a1 ∧ a1 ≤ 2147483647) (b2 : 0 ≤ a2 ∧ a2 ≤ 200) (b3 : -9223372036854775808 ≤ a3 ∧ a3 ≤ 9223372036854775807) (b5 : 0 ≤ a5 ∧ a5 ≤ 199) (d0 : -2147483648 ≤ t0 ∧ t0 ≤ 2147483647) (d1 : -2147483648 ≤ t1 ∧ t1 ≤ 2147483647) (d2 : 0 ≤ t2 ∧ t2 ≤ 1) (p0 : a2 ≤ a5) (M : Int) (pm : 2147483647 - a5 ≤ M) {r : z_M → Int → Int → z_O} {k : z_M → Int → z_O} (hr : ∀ (s' : z_M) (v3 : Int) (v5 : Int), z_CI s' → z_Fr R_X1_chooseBest_249 r0 s' → (-9223372036854775808 ≤ v3 ∧ v3 ≤ 9223372036854775807) → (0 ≤ v5 ∧ v5 ≤ 200) → (a2 ≤ v5) → (2147483647 - v5 < M) → z_T (r s' v3 v5) (P_X1_chooseBest_249 r0)) (hk : ∀ (s' : z_M) (v3 : Int), z_CI s' → z_Fr R_X1_chooseBest_249 r0 s' → (-9223372036854775808 ≤ v3 ∧ v3 ≤ 9223372036854775807) → z_T (k s' v3) (P_X1_chooseBest_249 r0)) : z_T (fX1_chooseBest_J112 fu s 249 a1 a2 a3 a5 t0 t1 t2 r k) (P_X1_chooseBest_249 r0) := by
  refine T_of (fX1_chooseBest_J112.eq_1 ..) ?_
  have u1 := CI_b c (k := 191) (j := 16) bd_191_16
  refine T_useL (sf_X1_costFor hfu s c t0 t1 t2 (by omega) (by omega) (by omega)) (fun v7 s2 hq => ?_)
  obtain ⟨c3, f4, ⟨x6, rfl, b8, b9⟩⟩ := hq
  refine T_vL ?_
  have f5 := z_Fr.tr (R := R_X1_chooseBest_249) f f4 (fun a b h => absurd h not_false)
  have t10 : s2 191 16 = s 191 16 := f4 191 16 (by decide)
  refine T_if1 (by decide +kernel) ?_
  refine T_let 252 (by decide +kernel) ?_
  refine T_leq (fun x11 e12 => ?_)
  have w13 := z_wb e12
  refine T_if1 (by decide +kernel) ?_
  refine T_lget (by decide +kernel) (c := 253) (by decide +kernel) bdr_253 (by decide) c3 (fun x14 e15 b16 => ?_)
  refine T_leq (fun x18 e19 => ?_)
  have w20 := z_wlr e19
  refine T_leq (fun x21 e22 => ?_)
  have w23 : -1 ≤ x21 ∧ x21 ≤ 1 := by rw [← e22]; exact z_cmpb _ _
  refine T_ite (fun h24 => ?_) (fun h24 => ?_)
  · exact sj_X1_chooseBest_249_J157 hfu r0 s2 c3 f5 a1 a2 a3 a5 (by omega) (by omega) (by omega) (by omega) (by omega) M (by omega) (fun s' v3 v5 c' f' w3 w5 z0 pg => hr s' v3 v5 c' f' w3 w5 z0 (by omega)) hk
  · refine T_if1 (by decide +kernel) ?_
    refine T_let 250 (by decide +kernel) ?_
    refine T_leq (fun x25 e26 => ?_)
    have w27 := z_wb e26
    refine T_leq (fun x28 e29 => ?_)
    have w30 := z_wb e29
    refine T_if1 (by decide +kernel) ?_
    refine T_put (by decide +kernel) (c := 251) (by decide +kernel) bdr_251 (by omega) c3 (fun s31 e34 c32 g35 => ?_)
    have f33 := z_Fr.up (R := R_X1_chooseBest_249) f5 g35 (fun _ => (Or.inr (Or.inr (Or.inl (⟨by decide, by decide⟩)))))
    have t36 : s31 191 16 = s2 191 16 := g35 191 16 (by decide)
    exact sj_X1_chooseBest_249_J157 hfu r0 s31 c32 f33 a1 a2 x18 a5 (by omega) (by omega) (by omega) (by omega) (by omega) M (by omega) (fun s' v3 v5 c' f' w3 w5 z0 pg => hr s' v3 v5 c' f' w3 w5 z0 (by omega)) hk
theorem sl_X1_chooseBest_249_L36 {fu : Nat} (hfu : 8589934592 ≤ fu) (r0 : z_M) (a1 : Int) (a2 : Int) (b1 : -2147483648 ≤ a1 ∧ a1 ≤ 2147483647) (b2 : 0 ≤ a2 ∧ a2 ≤ 200) {k : z_M → Int → z_O} (hk : ∀ (s' : z_M) (v3 : Int), z_CI s' → z_Fr R_X1_chooseBest_249 r0 s' → (-9223372036854775808 ≤ v3 ∧ v3 ≤ 9223372036854775807) → z_T (k s' v3) (P_X1_chooseBest_249 r0)) : ∀ (F : Nat) (s : z_M) (a3 : Int) (a5 : Int), z_CI s → z_Fr R_X1_chooseBest_249 r0 s → (-9223372036854775808 ≤ a3 ∧ a3 ≤ 9223372036854775807) → (0 ≤ a5 ∧ a5 ≤ 200) → (a2 ≤ a5) → (2147483647 - a5 < (F : Int)) → z_T (fX1_chooseBest_L36 fu 249 a1 a2 F s a3 a5 k) (P_X1_chooseBest_249 r0) := by
  intro F
  induction F with
  | zero =>
    intro s a3 a5 c f b3 b5 i0 hm
    have u51 := CI_b c (k := 191) (j := 16) bd_191_16
    exfalso; omega
  | succ F ih =>
    intro s a3 a5 c f b3 b5 i0 hm
    refine T_of (fX1_chooseBest_L36.eq_2 ..) ?_
    have u1 := CI_b c (k := 191) (j := 16) bd_191_16
    refine T_if1 (by decide +kernel) ?_
    refine T_let 191 (by decide +kernel) ?_
    refine T_if1 (by decide +kernel) ?_
    refine T_leq (fun x2 e3 => ?_)
    have u4 := CI_b c (k := 191) (j := 16) bd_191_16
    refine T_ite (fun h5 => ?_) (fun h5 => ?_)
    · exact hk s a3 c f (by omega)
    · refine T_if1 (by decide +kernel) ?_
      refine T_let 191 (by decide +kernel) ?_
      refine T_if1 (by decide +kernel) ?_
      refine T_useI (sf_X10_solid_191 hfu s c a2 a5 (by omega) (by omega)) (fun v11 s6 hq => ?_)
      obtain ⟨c7, f8, ⟨x10, rfl, b12, b13⟩⟩ := hq
      refine T_vI ?_
      have f9 := z_Fr.tr (R := R_X1_chooseBest_249) f f8 (fun a b h => absurd h not_false)
      have t14 : s6 191 16 = s 191 16 := f8 191 16 (by decide)
      refine T_leq (fun x15 e16 => ?_)
      have w17 := z_wb e16
      refine T_leq (fun x18 e19 => ?_)
      have w20 := z_wlr e19
      refine T_leq (fun x21 e22 => ?_)
      have w23 : -1 ≤ x21 ∧ x21 ≤ 1 := by rw [← e22]; exact z_cmpb _ _
      refine T_ite (fun h24 => ?_) (fun h24 => ?_)
      · refine T_if1 (by decide +kernel) ?_
        refine T_useI (sf_X1_closesLine_249 hfu s6 c7 a5 (by omega)) (fun v30 s25 hq => ?_)
        obtain ⟨c26, f27, ⟨x29, rfl, b31, b32⟩⟩ := hq
        refine T_vI ?_
        have f28 := z_Fr.tr (R := R_X1_chooseBest_249) f9 f27 (fun a b h => absurd h not_false)
        have t33 : s25 191 16 = s6 191 16 := f27 191 16 (by decide)
        refine T_ite (fun h34 => ?_) (fun h34 => ?_)
        · exact sj_X1_chooseBest_249_J157 hfu r0 s25 c26 f28 a1 a2 a3 a5 (by omega) (by omega) (by omega) (by omega) (by omega) (2147483647 - a5) (by omega) (fun s' v3 v5 c' f' w3 w5 z0 pg => ih s' v3 v5 c' f' w3 w5 z0 (by omega)) hk
        · refine T_if1 (by decide +kernel) ?_
          refine T_let 220 (by decide +kernel) ?_
          refine T_if1 (by decide +kernel) ?_
          refine T_useI (sf_X5_lengthOf_220 hfu s25 c26 a2 a5 (by omega) (by omega)) (fun v40 s35 hq => ?_)
          obtain ⟨c36, f37, ⟨x39, rfl, b41, b42⟩⟩ := hq
          refine T_vI ?_
          have f38 := z_Fr.tr (R := R_X1_chooseBest_249) f28 f37 rs_X5_lengthOf_220__X1_chooseBest_249
          have t43 : s35 191 16 = s25 191 16 := f37 191 16 (by decide)
          refine T_if1 (by decide +kernel) ?_
          refine T_let 191 (by decide +kernel) ?_
          refine T_if1 (by decide +kernel) ?_
          refine T_leq (fun x44 e45 => ?_)
          have u46 := CI_b c36 (k := 191) (j := 16) bd_191_16
          refine T_leq (fun x47 e48 => ?_)
          have w49 := z_wb e48
          refine T_ite (fun h50 => ?_) (fun h50 => ?_)
          · exact sj_X1_chooseBest_249_J112 hfu r0 s35 c36 f38 a1 a2 a3 a5 x39 a1 0 (by omega) (by omega) (by omega) (by omega) (by omega) (by omega) (by omega) (by omega) (2147483647 - a5) (by omega) (fun s' v3 v5 c' f' w3 w5 z0 pg => ih s' v3 v5 c' f' w3 w5 z0 (by omega)) hk
          · exact sj_X1_chooseBest_249_J112 hfu r0 s35 c36 f38 a1 a2 a3 a5 x39 a1 1 (by omega) (by omega) (by omega) (by omega) (by omega) (by omega) (by omega) (by omega) (2147483647 - a5) (by omega) (fun s' v3 v5 c' f' w3 w5 z0 pg => ih s' v3 v5 c' f' w3 w5 z0 (by omega)) hk
      · exact hk s6 a3 c7 f9 (by omega)
theorem sj_X1_chooseBest_249_J163 {fu : Nat} (hfu : 8589934592 ≤ fu) (r0 s : z_M) (c : z_CI s) (f : z_Fr R_X1_chooseBest_249 r0 s) (a1 : Int) (a2 : Int) (a3 : Int) (b1 : -2147483648 ≤ a1 ∧ a1 ≤ 2147483647) (b2 : 0 ≤ a2 ∧ a2 ≤ 200) (b3 : -9223372036854775808 ≤ a3 ∧ a3 ≤ 9223372036854775807) (M : Int) (pm : a2 + 2147483648 ≤ M) {r : z_M → Int → z_O} {k : z_M → z_O} (hr : ∀ (s' : z_M) (v2 : Int), z_CI s' → z_Fr R_X1_chooseBest_249 r0 s' → ((-1) ≤ v2 ∧ v2 ≤ 199) → (v2 + 2147483648 < M) → z_T (r s' v2) (P_X1_chooseBest_249 r0)) (hk : ∀ (s' : z_M), z_CI s' → z_Fr R_X1_chooseBest_249 r0 s' → z_T (k s') (P_X1_chooseBest_249 r0)) : z_T (fX1_chooseBest_J163 fu s 249 a1 a2 a3 r k) (P_X1_chooseBest_249 r0) := by
  refine T_of (fX1_chooseBest_J163.eq_1 ..) ?_
  have u1 := CI_b c (k := 191) (j := 16) bd_191_16
  refine T_if1 (by decide +kernel) ?_
  refine T_let 252 (by decide +kernel) ?_
  refine T_if1 (by decide +kernel) ?_
  refine T_lput (by decide +kernel) (c := 253) (by decide +kernel) bdr_253 (by omega) c (fun s2 e5 c3 g6 => ?_)
  have f4 := z_Fr.up (R := R_X1_chooseBest_249) f g6 (fun _ => (Or.inr (Or.inr (Or.inl (⟨by decide, by decide⟩)))))
  have t7 : s2 191 16 = s 191 16 := g6 191 16 (by decide)
  refine T_leq (fun x8 e9 => ?_)
  have w10 := z_wb e9
  exact hr s2 x8 c3 f4 (by omega) (by omega)
theorem sl_X1_chooseBest_249_L25 {fu : Nat} (hfu : 8589934592 ≤ fu) (r0 : z_M) (a1 : Int) (b1 : -2147483648 ≤ a1 ∧ a1 ≤ 2147483647) {k : z_M → z_O} (hk : ∀ (s' : z_M), z_CI s' → z_Fr R_X1_chooseBest_249 r0 s' → z_T (k s') (P_X1_chooseBest_249 r0)) : ∀ (F : Nat) (s : z_M) (a2 : Int), z_CI s → z_Fr R_X1_chooseBest_249 r0 s → ((-1) ≤ a2 ∧ a2 ≤ 199) → (a2 + 2147483648 < (F : Int)) → z_T (fX1_chooseBest_L25 fu 249 a1 F s a2 k) (P_X1_chooseBest_249 r0) := by
  intro F
  induction F with
  | zero =>
    intro s a2 c f b2 hm
    have u9 := CI_b c (k := 191) (j := 16) bd_191_16
    exfalso; omega
  | succ F ih =>
    intro s a2 c f b2 hm
    refine T_of (fX1_chooseBest_L25.eq_2 ..) ?_
    have u1 := CI_b c (k := 191) (j := 16) bd_191_16
    refine T_ite (fun h2 => ?_) (fun h2 => ?_)
    · exact hk s c f
    · refine sl_X1_chooseBest_249_L36 hfu r0 a1 a2 (by omega) (by omega) (fun s3 y6 c4 f5 b7 => ?_) fu s 9223372036854775807 a2 c f (by omega) (by omega) (by omega) (by omega)
      have u8 := CI_b c4 (k := 191) (j := 16) bd_191_16
      exact sj_X1_chooseBest_249_J163 hfu r0 s3 c4 f5 a1 a2 y6 (by omega) (by omega) (by omega) (a2 + 2147483648) (by omega) (fun s' v2 c' f' w2 pg => ih s' v2 c' f' w2 (by omega)) hk
theorem sf_X1_chooseBest_249 {fu : Nat} (hfu : 8589934592 ≤ fu) (r0 : z_M) (c0 : z_CI r0) (a1 : Int) (b1 : -2147483648 ≤ a1 ∧ a1 ≤ 2147483647) : z_T (fX1_chooseBest fu r0 249 a1) (P_X1_chooseBest_249 r0) := by
  refine T_of (fX1_chooseBest.eq_1 ..) ?_
  refine T_if1 (by decide +kernel) ?_
  refine T_let 252 (by decide +kernel) ?_
  refine T_if1 (by decide +kernel) ?_
  refine T_let 191 (by decide +kernel) ?_
  refine T_if1 (by decide +kernel) ?_
  refine T_leq (fun x1 e2 => ?_)
  have u3 := CI_b c0 (k := 191) (j := 16) bd_191_16
  refine T_if1 (by decide +kernel) ?_
  refine T_lput (by decide +kernel) (c := 253) (by decide +kernel) bdr_253 (by omega) c0 (fun s4 e7 c5 g8 => ?_)
  have f6 := z_Fr.up (R := R_X1_chooseBest_249) z_Fr.rf g8 (fun _ => (Or.inr (Or.inr (Or.inl (⟨by decide, by decide⟩)))))
  have t9 : s4 191 16 = r0 191 16 := g8 191 16 (by decide)
  refine T_if1 (by decide +kernel) ?_
  refine T_let 191 (by decide +kernel) ?_
  refine T_if1 (by decide +kernel) ?_
  refine T_leq (fun x10 e11 => ?_)
  have u12 := CI_b c5 (k := 191) (j := 16) bd_191_16
  refine T_leq (fun x13 e14 => ?_)
  have w15 := z_wb e14
  refine sl_X1_chooseBest_249_L25 hfu r0 a1 (by omega) (fun s16 c17 f18 => ?_) fu s4 x13 c5 f6 (by omega) (by omega)
  have u19 := CI_b c17 (k := 191) (j := 16) bd_191_16
  exact T_ret ⟨c17, f18, rfl⟩
abbrev R_X1_asMany_249 (a b : Int) : Prop := (222 ≤ a ∧ a ≤ 222) ∨ (225 ≤ a ∧ a ≤ 239) ∨ (a = 220 ∧ (b = 4 ∨ b = 5)) ∨ (a = 223 ∧ (b = 9))
abbrev P_X1_asMany_249 (r0 : z_M) : z_V → z_M → Prop := fun v s' => z_CI s' ∧ z_Fr R_X1_asMany_249 r0 s' ∧ (∃ x, v = vI x ∧ 0 ≤ x ∧ x ≤ 200)
theorem rs_X5_lengthOf_220__X1_asMany_249 (a b : Int) (h : R_X5_lengthOf_220 a b) : R_X1_asMany_249 a b := (h.elim (fun h => (Or.inl (⟨by omega, by omega⟩))) (fun h => (h.elim (fun h => (Or.inr (Or.inl (⟨by omega, by omega⟩)))) (fun h => (h.elim (fun h => (Or.inr (Or.inr (Or.inl (⟨h.1, by omega⟩))))) (fun h => (Or.inr (Or.inr (Or.inr (⟨h.1, by omega⟩))))))))))
theorem sj_X1_asMany_249_J72 {fu : Nat} (hfu : 8589934592 ≤ fu) (r0 s : z_M) (c : z_CI s) (f : z_Fr R_X1_asMany_249 r0 s) (a1 : Int) (a2 : Int) (a3 : Int) (a4 : Int) (a5 : Int) (b1 : 0 ≤ a1 ∧ a1 ≤ 200) (b2 : -2147483648 ≤ a2 ∧ a2 ≤ 2147483647) (b3 : 0 ≤ a3 ∧ a3 ≤ 200) (b4 : 0 ≤ a4 ∧ a4 ≤ 200) (b5 : 0 ≤ a5 ∧ a5 ≤ 199) (p0 : a1 ≤ a5) (M : Int) (pm : 2147483647 - a5 ≤ M) {r : z_M → Int → Int → Int → z_O} {k : z_M → Int → Int → z_O} (hr : ∀ (s' : z_M) (v3 : Int) (v4 : Int) (v5 : Int), z_CI s' → z_Fr R_X1_asMany_249 r0 s' → (0 ≤ v3 ∧ v3 ≤ 200) → (0 ≤ v4 ∧ v4 ≤ 200) → (0 ≤ v5 ∧ v5 ≤ 200) → (a1 ≤ v5) → (2147483647 - v5 < M) → z_T (r s' v3 v4 v5) (P_X1_asMany_249 r0)) (hk : ∀ (s' : z_M) (v3 : Int) (v4 : Int), z_CI s' → z_Fr R_X1_asMany_249 r0 s' → (0 ≤ v3 ∧ v3 ≤ 200) → (0 ≤ v4 ∧ v4 ≤ 200) → z_T (k s' v3 v4) (P_X1_asMany_249 r0)) : z_T (fX1_asMany_J72 fu s 249 a1 a2 a3 a4 a5 r k) (P_X1_asMany_249 r0) := by
  refine T_of (fX1_asMany_J72.eq_1 ..) ?_
  have u1 := CI_b c (k := 191) (j := 16) bd_191_16
  refine T_leq (fun x2 e3 => ?_)
  have w4 := z_wb e3
  exact hr s a3 a4 x2 c f (by omega) (by omega) (by omega) (by omega) (by omega)
theorem sj_X1_asMany_249_J70 {fu : Nat} (hfu : 8589934592 ≤ fu) (r0 s : z_M) (c : z_CI s) (f : z_Fr R_X1_asMany_249 r0 s) (a1 : Int) (a2 : Int) (a3 : Int) (a5 : Int) (t0 : Int) (b1 : 0 ≤ a1 ∧ a1 ≤ 200) (b2 : -2147483648 ≤ a2 ∧ a2 ≤ 2147483647) (b3 : 0 ≤ a3 ∧ a3 ≤ 200) (b5 : 0 ≤ a5 ∧ a5 ≤ 199) (d0 : 0 ≤ t0 ∧ t0 ≤ 200) (p0 : a1 ≤ a5) (M : Int) (pm : 2147483647 - a5 ≤ M) {r : z_M → Int → Int → Int → z_O} {k : z_M → Int → Int → z_O} (hr : ∀ (s' : z_M) (v3 : Int) (v4 : Int) (v5 : Int), z_CI s' → z_Fr R_X1_asMany_249 r0 s' → (0 ≤ v3 ∧ v3 ≤ 200) → (0 ≤ v4 ∧ v4 ≤ 200) → (0 ≤ v5 ∧ v5 ≤ 200) → (a1 ≤ v5) → (2147483647 - v5 < M) → z_T (r s' v3 v4 v5) (P_X1_asMany_249 r0)) (hk : ∀ (s' : z_M) (v3 : Int) (v4 : Int), z_CI s' → z_Fr R_X1_asMany_249 r0 s' → (0 ≤ v3 ∧ v3 ≤ 200) → (0 ≤ v4 ∧ v4 ≤ 200) → z_T (k s' v3 v4) (P_X1_asMany_249 r0)) : z_T (fX1_asMany_J70 fu s 249 a1 a2 a3 a5 t0 r k) (P_X1_asMany_249 r0) := by
  refine T_of (fX1_asMany_J70.eq_1 ..) ?_
  have u1 := CI_b c (k := 191) (j := 16) bd_191_16
  exact sj_X1_asMany_249_J72 hfu r0 s c f a1 a2 a3 t0 a5 (by omega) (by omega) (by omega) (by omega) (by omega) (by omega) M (by omega) (fun s' v3 v4 v5 c' f' w3 w4 w5 z0 pg => hr s' v3 v4 v5 c' f' w3 w4 w5 z0 (by omega)) hk
theorem sl_X1_asMany_249_L8 {fu : Nat} (hfu : 8589934592 ≤ fu) (r0 : z_M) (a1 : Int) (a2 : Int) (b1 : 0 ≤ a1 ∧ a1 ≤ 200) (b2 : -2147483648 ≤ a2 ∧ a2 ≤ 2147483647) {k : z_M → Int → Int → z_O} (hk : ∀ (s' : z_M) (v3 : Int) (v4 : Int), z_CI s' → z_Fr R_X1_asMany_249 r0 s' → (0 ≤ v3 ∧ v3 ≤ 200) → (0 ≤ v4 ∧ v4 ≤ 200) → z_T (k s' v3 v4) (P_X1_asMany_249 r0)) : ∀ (F : Nat) (s : z_M) (a3 : Int) (a4 : Int) (a5 : Int), z_CI s → z_Fr R_X1_asMany_249 r0 s → (0 ≤ a3 ∧ a3 ≤ 200) → (0 ≤ a4 ∧ a4 ≤ 200) → (0 ≤ a5 ∧ a5 ≤ 200) → (a1 ≤ a5) → (2147483647 - a5 < (F : Int)) → z_T (fX1_asMany_L8 fu 249 a1 a2 F s a3 a4 a5 k) (P_X1_asMany_249 r0) := by
  intro F
  induction F with
  | zero =>
    intro s a3 a4 a5 c f b3 b4 b5 i0 hm
    have u42 := CI_b c (k := 191) (j := 16) bd_191_16
    exfalso; omega
  | succ F ih =>
    intro s a3 a4 a5 c f b3 b4 b5 i0 hm
    refine T_of (fX1_asMany_L8.eq_2 ..) ?_
    have u1 := CI_b c (k := 191) (j := 16) bd_191_16
    refine T_if1 (by decide +kernel) ?_
    refine T_let 191 (by decide +kernel) ?_
    refine T_if1 (by decide +kernel) ?_
    refine T_leq (fun x2 e3 => ?_)
    have u4 := CI_b c (k := 191) (j := 16) bd_191_16
    refine T_ite (fun h5 => ?_) (fun h5 => ?_)
    · exact hk s a3 a4 c f (by omega) (by omega)
    · refine T_if1 (by decide +kernel) ?_
      refine T_let 191 (by decide +kernel) ?_
      refine T_if1 (by decide +kernel) ?_
      refine T_useI (sf_X10_solid_191 hfu s c a1 a5 (by omega) (by omega)) (fun v11 s6 hq => ?_)
      obtain ⟨c7, f8, ⟨x10, rfl, b12, b13⟩⟩ := hq
      refine T_vI ?_
      have f9 := z_Fr.tr (R := R_X1_asMany_249) f f8 (fun a b h => absurd h not_false)
      have t14 : s6 191 16 = s 191 16 := f8 191 16 (by decide)
      refine T_ite (fun h15 => ?_) (fun h15 => ?_)
      · exact hk s6 a3 a4 c7 f9 (by omega) (by omega)
      · refine T_if1 (by decide +kernel) ?_
        refine T_let 220 (by decide +kernel) ?_
        refine T_if1 (by decide +kernel) ?_
        refine T_useI (sf_X5_lengthOf_220 hfu s6 c7 a1 a5 (by omega) (by omega)) (fun v21 s16 hq => ?_)
        obtain ⟨c17, f18, ⟨x20, rfl, b22, b23⟩⟩ := hq
        refine T_vI ?_
        have f19 := z_Fr.tr (R := R_X1_asMany_249) f9 f18 rs_X5_lengthOf_220__X1_asMany_249
        have t24 : s16 191 16 = s6 191 16 := f18 191 16 (by decide)
        refine T_ite (fun h25 => ?_) (fun h25 => ?_)
        · exact sj_X1_asMany_249_J72 hfu r0 s16 c17 f19 a1 a2 a3 a4 a5 (by omega) (by omega) (by omega) (by omega) (by omega) (by omega) (2147483647 - a5) (by omega) (fun s' v3 v4 v5 c' f' w3 w4 w5 z0 pg => ih s' v3 v4 v5 c' f' w3 w4 w5 z0 (by omega)) hk
        · refine T_leq (fun x26 e27 => ?_)
          have w28 := z_wb e27
          refine T_leq (fun x29 e30 => ?_)
          have w31 := z_wb e30
          refine T_if1 (by decide +kernel) ?_
          refine T_useI (sf_X1_closesLine_249 hfu s16 c17 a5 (by omega)) (fun v37 s32 hq => ?_)
          obtain ⟨c33, f34, ⟨x36, rfl, b38, b39⟩⟩ := hq
          refine T_vI ?_
          have f35 := z_Fr.tr (R := R_X1_asMany_249) f19 f34 (fun a b h => absurd h not_false)
          have t40 : s32 191 16 = s16 191 16 := f34 191 16 (by decide)
          refine T_ite (fun h41 => ?_) (fun h41 => ?_)
          · exact sj_X1_asMany_249_J70 hfu r0 s32 c33 f35 a1 a2 x29 a5 a4 (by omega) (by omega) (by omega) (by omega) (by omega) (by omega) (2147483647 - a5) (by omega) (fun s' v3 v4 v5 c' f' w3 w4 w5 z0 pg => ih s' v3 v4 v5 c' f' w3 w4 w5 z0 (by omega)) hk
          · exact sj_X1_asMany_249_J70 hfu r0 s32 c33 f35 a1 a2 x29 a5 x29 (by omega) (by omega) (by omega) (by omega) (by omega) (by omega) (2147483647 - a5) (by omega) (fun s' v3 v4 v5 c' f' w3 w4 w5 z0 pg => ih s' v3 v4 v5 c' f' w3 w4 w5 z0 (by omega)) hk
theorem sj_X1_asMany_249_J89 {fu : Nat} (hfu : 8589934592 ≤ fu) (r0 s : z_M) (c : z_CI s) (f : z_Fr R_X1_asMany_249 r0 s) (t0 : Int) (d0 : 0 ≤ t0 ∧ t0 ≤ 200) : z_T (fX1_asMany_J89 fu s t0) (P_X1_asMany_249 r0) := by
  refine T_of (fX1_asMany_J89.eq_1 ..) ?_
  have u1 := CI_b c (k := 191) (j := 16) bd_191_16
  exact T_ret ⟨c, f, ⟨t0, rfl, by omega, by omega⟩⟩
theorem sj_X1_asMany_249_J78 {fu : Nat} (hfu : 8589934592 ≤ fu) (r0 s : z_M) (c : z_CI s) (f : z_Fr R_X1_asMany_249 r0 s) (a3 : Int) (a4 : Int) (b3 : 0 ≤ a3 ∧ a3 ≤ 200) (b4 : 0 ≤ a4 ∧ a4 ≤ 200) : z_T (fX1_asMany_J78 fu s a3 a4) (P_X1_asMany_249 r0) := by
  refine T_of (fX1_asMany_J78.eq_1 ..) ?_
  have u1 := CI_b c (k := 191) (j := 16) bd_191_16
  refine T_ite (fun h2 => ?_) (fun h2 => ?_)
  · exact sj_X1_asMany_249_J89 hfu r0 s c f a3 (by omega)
  · exact sj_X1_asMany_249_J89 hfu r0 s c f a4 (by omega)
theorem sf_X1_asMany_249 {fu : Nat} (hfu : 8589934592 ≤ fu) (r0 : z_M) (c0 : z_CI r0) (a1 : Int) (a2 : Int) (b1 : 0 ≤ a1 ∧ a1 ≤ 200) (b2 : -2147483648 ≤ a2 ∧ a2 ≤ 2147483647) : z_T (fX1_asMany fu r0 249 a1 a2) (P_X1_asMany_249 r0) := by
  refine T_of (fX1_asMany.eq_1 ..) ?_
  refine sl_X1_asMany_249_L8 hfu r0 a1 a2 (by omega) (by omega) (fun s1 y4 y5 c2 f3 b6 b7 => ?_) fu r0 1 0 a1 c0 z_Fr.rf (by omega) (by omega) (by omega) (by omega) (by omega)
  have u8 := CI_b c2 (k := 191) (j := 16) bd_191_16
  exact sj_X1_asMany_249_J78 hfu r0 s1 c2 f3 y4 y5 (by omega) (by omega)
abbrev R_X1_go_249 (a b : Int) : Prop := (222 ≤ a ∧ a ≤ 222) ∨ (225 ≤ a ∧ a ≤ 239) ∨ (251 ≤ a ∧ a ≤ 253) ∨ (257 ≤ a ∧ a ≤ 257) ∨ (a = 220 ∧ (b = 4 ∨ b = 5)) ∨ (a = 223 ∧ (b = 9)) ∨ (a = 249 ∧ (b = 6))
abbrev P_X1_go_249 (r0 : z_M) : z_V → z_M → Prop := fun v s' => z_CI s' ∧ z_Fr R_X1_go_249 r0 s' ∧ (v = vN)
theorem rs_X1_asMany_249__X1_go_249 (a b : Int) (h : R_X1_asMany_249 a b) : R_X1_go_249 a b := (h.elim (fun h => (Or.inl (⟨by omega, by omega⟩))) (fun h => (h.elim (fun h => (Or.inr (Or.inl (⟨by omega, by omega⟩)))) (fun h => (h.elim (fun h => (Or.inr (Or.inr (Or.inr (Or.inr (Or.inl (⟨h.1, by omega⟩))))))) (fun h => (Or.inr (Or.inr (Or.inr (Or.inr (Or.inr (Or.inl (⟨h.1, by omega⟩)))))))))))))
theorem sj_X1_go_249_J74 {fu : Nat} (hfu : 8589934592 ≤ fu) (r0 s : z_M) (c : z_CI s) (f : z_Fr R_X1_go_249 r0 s) (a1 : Int) (a2 : Int) (t0 : Int) (t1 : Int) (t2 : Int) (b1 : -2147483648 ≤ a1 ∧ a1 ≤ 2147483647) (b2 : -2147483648 ≤ a2 ∧ a2 ≤ 2147483647) (d0 : 0 ≤ t0 ∧ t0 ≤ 199) (d1 : 1 ≤ t1 ∧ t1 ≤ 1) (d2 : 0 ≤ t2 ∧ t2 ≤ 200) (p0 : 0 ≤ s 249 6) (p1 : s 249 6 ≤ t0 + 1) (M : Int) (pm : 2147483647 - t0 ≤ M) {r : z_M → Int → z_O} {k : z_M → z_O} (hr : ∀ (s' : z_M) (v3 : Int), z_CI s' → z_Fr R_X1_go_249 r0 s' → (0 ≤ v3 ∧ v3 ≤ 400) → (0 ≤ s' 249 6) → (s' 249 6 ≤ v3) → (2147483647 - v3 < M) → z_T (r s' v3) (P_X1_go_249 r0)) (hk : ∀ (s' : z_M), z_CI s' → z_Fr R_X1_go_249 r0 s' → z_T (k s') (P_X1_go_249 r0)) : z_T (fX1_go_J74 fu s 249 a1 a2 t0 t1 t2 r k) (P_X1_go_249 r0) := by
  refine T_of (fX1_go_J74.eq_1 ..) ?_
  have u1 := CI_b c (k := 191) (j := 16) bd_191_16
  have u2 := CI_b c (k := 249) (j := 6) bd_249_6
  refine T_leq (fun x3 e4 => ?_)
  have w5 := z_maxb t1 t2
  rw [e4] at w5
  refine T_leq (fun x6 e7 => ?_)
  have w8 := z_wb e7
  exact hr s x6 c f (by omega) (by omega) (by omega) (by omega)
theorem sl_X1_go_249_L17 {fu : Nat} (hfu : 8589934592 ≤ fu) (r0 : z_M) (a1 : Int) (a2 : Int) (b1 : -2147483648 ≤ a1 ∧ a1 ≤ 2147483647) (b2 : -2147483648 ≤ a2 ∧ a2 ≤ 2147483647) {k : z_M → z_O} (hk : ∀ (s' : z_M), z_CI s' → z_Fr R_X1_go_249 r0 s' → z_T (k s') (P_X1_go_249 r0)) : ∀ (F : Nat) (s : z_M) (a3 : Int), z_CI s → z_Fr R_X1_go_249 r0 s → (0 ≤ a3 ∧ a3 ≤ 400) → (0 ≤ s 249 6) → (s 249 6 ≤ a3) → (2147483647 - a3 < (F : Int)) → z_T (fX1_go_L17 fu 249 a1 a2 F s a3 k) (P_X1_go_249 r0) := by
  intro F
  induction F with
  | zero =>
    intro s a3 c f b3 i0 i1 hm
    have u46 := CI_b c (k := 191) (j := 16) bd_191_16
    have u47 := CI_b c (k := 249) (j := 6) bd_249_6
    exfalso; omega
  | succ F ih =>
    intro s a3 c f b3 i0 i1 hm
    refine T_of (fX1_go_L17.eq_2 ..) ?_
    have u1 := CI_b c (k := 191) (j := 16) bd_191_16
    have u2 := CI_b c (k := 249) (j := 6) bd_249_6
    refine T_if1 (by decide +kernel) ?_
    refine T_let 191 (by decide +kernel) ?_
    refine T_if1 (by decide +kernel) ?_
    refine T_leq (fun x3 e4 => ?_)
    have u5 := CI_b c (k := 191) (j := 16) bd_191_16
    refine T_ite (fun h6 => ?_) (fun h6 => ?_)
    · exact hk s c f
    · refine T_if1 (by decide +kernel) ?_
      refine T_let 256 (by decide +kernel) ?_
      refine T_if1 (by decide +kernel) ?_
      refine T_leq (fun x7 e8 => ?_)
      have u9 := CI_b c (k := 249) (j := 6) bd_249_6
      refine T_if1 (by decide +kernel) ?_
      refine T_put (by decide +kernel) (c := 257) (by decide +kernel) bdr_257 (by omega) c (fun s10 e13 c11 g14 => ?_)
      have f12 := z_Fr.up (R := R_X1_go_249) f g14 (fun _ => (Or.inr (Or.inr (Or.inr (Or.inl (⟨by decide, by decide⟩))))))
      have t15 : s10 191 16 = s 191 16 := g14 191 16 (by decide)
      have t16 : s10 249 6 = s 249 6 := g14 249 6 (by decide)
      refine T_if1 (by decide +kernel) ?_
      refine T_leq (fun x17 e18 => ?_)
      have u19 := CI_b c11 (k := 249) (j := 6) bd_249_6
      refine T_leq (fun x20 e21 => ?_)
      have w22 := z_wb e21
      refine T_if1 (by decide +kernel) ?_
      refine T_upg c11 bd_249_6 (by omega) (fun s23 c24 g26 g27 e28 => ?_)
      have f25 := z_Fr.upf (R := R_X1_go_249) f12 g26 g27 (Or.inr (Or.inr (Or.inr (Or.inr (Or.inr (Or.inr (⟨rfl, by decide⟩)))))))
      have t29 : s23 191 16 = s10 191 16 := g26 191 16 (by decide)
      refine T_ite (fun h30 => ?_) (fun h30 => ?_)
      · refine T_if1 (by decide +kernel) ?_
        refine T_useI (sf_X1_asMany_249 hfu s23 c24 a3 a1 (by omega) (by omega)) (fun v36 s31 hq => ?_)
        obtain ⟨c32, f33, ⟨x35, rfl, b37, b38⟩⟩ := hq
        refine T_vI ?_
        have f34 := z_Fr.tr (R := R_X1_go_249) f25 f33 rs_X1_asMany_249__X1_go_249
        have t39 : s31 191 16 = s23 191 16 := f33 191 16 (by decide)
        have t40 : s31 249 6 = s23 249 6 := f33 249 6 (by decide)
        exact sj_X1_go_249_J74 hfu r0 s31 c32 f34 a1 a2 a3 1 x35 (by omega) (by omega) (by omega) (by omega) (by omega) (by omega) (by omega) (2147483647 - a3) (by omega) (fun s' v3 c' f' w3 z0 z1 pg => ih s' v3 c' f' w3 z0 z1 (by omega)) hk
      · refine T_if1 (by decide +kernel) ?_
        refine T_let 250 (by decide +kernel) ?_
        refine T_if1 (by decide +kernel) ?_
        refine T_get (by decide +kernel) (c := 251) (by decide +kernel) bdr_251 (by decide) c24 (fun x41 e42 b43 w44 => ?_)
        have l45 : z_ln 250 = 200 := by decide +kernel
        exact sj_X1_go_249_J74 hfu r0 s23 c24 f25 a1 a2 a3 1 x41 (by omega) (by omega) (by omega) (by omega) (by omega) (by omega) (by omega) (2147483647 - a3) (by omega) (fun s' v3 c' f' w3 z0 z1 pg => ih s' v3 c' f' w3 z0 z1 (by omega)) hk
theorem sj_X1_go_249_J10 {fu : Nat} (hfu : 8589934592 ≤ fu) (r0 s : z_M) (c : z_CI s) (f : z_Fr R_X1_go_249 r0 s) (a1 : Int) (a2 : Int) (b1 : -2147483648 ≤ a1 ∧ a1 ≤ 2147483647) (b2 : -2147483648 ≤ a2 ∧ a2 ≤ 2147483647) : z_T (fX1_go_J10 fu s 249 a1 a2) (P_X1_go_249 r0) := by
  refine T_of (fX1_go_J10.eq_1 ..) ?_
  have u1 := CI_b c (k := 191) (j := 16) bd_191_16
  have u2 := CI_b c (k := 249) (j := 6) bd_249_6
  refine T_if1 (by decide +kernel) ?_
  refine T_upg c bd_249_6 (by omega) (fun s3 c4 g6 g7 e8 => ?_)
  have f5 := z_Fr.upf (R := R_X1_go_249) f g6 g7 (Or.inr (Or.inr (Or.inr (Or.inr (Or.inr (Or.inr (⟨rfl, by decide⟩)))))))
  have t9 : s3 191 16 = s 191 16 := g6 191 16 (by decide)
  refine sl_X1_go_249_L17 hfu r0 a1 a2 (by omega) (by omega) (fun s10 c11 f12 => ?_) fu s3 0 c4 f5 (by omega) (by omega) (by omega) (by omega)
  have u13 := CI_b c11 (k := 191) (j := 16) bd_191_16
  have u14 := CI_b c11 (k := 249) (j := 6) bd_249_6
  refine T_if1 (by decide +kernel) ?_
  refine T_let 256 (by decide +kernel) ?_
  refine T_if1 (by decide +kernel) ?_
  refine T_leq (fun x15 e16 => ?_)
  have u17 := CI_b c11 (k := 249) (j := 6) bd_249_6
  refine T_if1 (by decide +kernel) ?_
  refine T_let 191 (by decide +kernel) ?_
  refine T_if1 (by decide +kernel) ?_
  refine T_leq (fun x18 e19 => ?_)
  have u20 := CI_b c11 (k := 191) (j := 16) bd_191_16
  refine T_if1 (by decide +kernel) ?_
  refine T_put (by decide +kernel) (c := 257) (by decide +kernel) bdr_257 (by omega) c11 (fun s21 e24 c22 g25 => ?_)
  have f23 := z_Fr.up (R := R_X1_go_249) f12 g25 (fun _ => (Or.inr (Or.inr (Or.inr (Or.inl (⟨by decide, by decide⟩))))))
  have t26 : s21 191 16 = s10 191 16 := g25 191 16 (by decide)
  have t27 : s21 249 6 = s10 249 6 := g25 249 6 (by decide)
  exact T_ret ⟨c22, f23, rfl⟩
theorem rs_X1_chooseBest_249__X1_go_249 (a b : Int) (h : R_X1_chooseBest_249 a b) : R_X1_go_249 a b := (h.elim (fun h => (Or.inl (⟨by omega, by omega⟩))) (fun h => (h.elim (fun h => (Or.inr (Or.inl (⟨by omega, by omega⟩)))) (fun h => (h.elim (fun h => (Or.inr (Or.inr (Or.inl (⟨by omega, by omega⟩))))) (fun h => (h.elim (fun h => (Or.inr (Or.inr (Or.inr (Or.inr (Or.inl (⟨h.1, by omega⟩))))))) (fun h => (Or.inr (Or.inr (Or.inr (Or.inr (Or.inr (Or.inl (⟨h.1, by omega⟩)))))))))))))))
theorem sf_X1_go_249 {fu : Nat} (hfu : 8589934592 ≤ fu) (r0 : z_M) (c0 : z_CI r0) (a1 : Int) (a2 : Int) (b1 : -2147483648 ≤ a1 ∧ a1 ≤ 2147483647) (b2 : -2147483648 ≤ a2 ∧ a2 ≤ 2147483647) : z_T (fX1_go fu r0 249 a1 a2) (P_X1_go_249 r0) := by
  refine T_of (fX1_go.eq_1 ..) ?_
  refine T_ite (fun h1 => ?_) (fun h1 => ?_)
  · exact sj_X1_go_249_J10 hfu r0 r0 c0 z_Fr.rf a1 a2 (by omega) (by omega)
  · refine T_if1 (by decide +kernel) ?_
    refine T_useN (sf_X1_chooseBest_249 hfu r0 c0 a1 (by omega)) (fun v7 s2 hq => ?_)
    obtain ⟨c3, f4, rfl⟩ := hq
    refine T_vN ?_
    have f5 := z_Fr.tr (R := R_X1_go_249) z_Fr.rf f4 rs_X1_chooseBest_249__X1_go_249
    have t10 : s2 191 16 = r0 191 16 := f4 191 16 (by decide)
    have t11 : s2 249 6 = r0 249 6 := f4 249 6 (by decide)
    exact sj_X1_go_249_J10 hfu r0 s2 c3 f5 a1 a2 (by omega) (by omega)
abbrev R_X0_clear_279 (a b : Int) : Prop := (a = 279 ∧ (b = 9))
abbrev P_X0_clear_279 (r0 : z_M) : z_V → z_M → Prop := fun v s' => z_CI s' ∧ z_Fr R_X0_clear_279 r0 s' ∧ (v = vN)
theorem sf_X0_clear_279 {fu : Nat} (hfu : 8589934592 ≤ fu) (r0 : z_M) (c0 : z_CI r0) : z_T (fX0_clear fu r0 279) (P_X0_clear_279 r0) := by
  refine T_of (fX0_clear.eq_1 ..) ?_
  refine T_if1 (by decide +kernel) ?_
  refine T_upg c0 bd_279_9 (by omega) (fun s1 c2 g4 g5 e6 => ?_)
  have f3 := z_Fr.upf (R := R_X0_clear_279) z_Fr.rf g4 g5 (⟨rfl, by decide⟩)
  exact T_ret ⟨c2, f3, rfl⟩
abbrev R_X0_gather_279 (a b : Int) : Prop := (281 ≤ a ∧ a ≤ 287) ∨ (293 ≤ a ∧ a ≤ 295) ∨ (a = 279 ∧ (b = 9))
abbrev P_X0_gather_279 (r0 : z_M) : z_V → z_M → Prop := fun v s' => z_CI s' ∧ z_Fr R_X0_gather_279 r0 s' ∧ (v = vN)
theorem sj_X0_gather_279_J245 {fu : Nat} (hfu : 8589934592 ≤ fu) (r0 s : z_M) (c : z_CI s) (f : z_Fr R_X0_gather_279 r0 s) (a1 : Int) (a2 : Int) (a3 : Int) (b1 : 0 ≤ a1 ∧ a1 ≤ 201) (b2 : (-1) ≤ a2 ∧ a2 ≤ 200) (b3 : 0 ≤ a3 ∧ a3 ≤ 200) (M : Int) (pm : 2147483647 - a3 ≤ M) {r : z_M → Int → z_O} {k : z_M → z_O} (hr : ∀ (s' : z_M) (v3 : Int), z_CI s' → z_Fr R_X0_gather_279 r0 s' → (0 ≤ v3 ∧ v3 ≤ 201) → (2147483647 - v3 < M) → z_T (r s' v3) (P_X0_gather_279 r0)) (hk : ∀ (s' : z_M), z_CI s' → z_Fr R_X0_gather_279 r0 s' → z_T (k s') (P_X0_gather_279 r0)) : z_T (fX0_gather_J245 fu s 279 a1 a2 a3 r k) (P_X0_gather_279 r0) := by
  refine T_of (fX0_gather_J245.eq_1 ..) ?_
  have u1 := CI_b c (k := 279) (j := 9) bd_279_9
  refine T_leq (fun x2 e3 => ?_)
  have w4 := z_wb e3
  exact hr s x2 c f (by omega) (by omega)
theorem sj_X0_gather_279_J116 {fu : Nat} (hfu : 8589934592 ≤ fu) (r0 s : z_M) (c : z_CI s) (f : z_Fr R_X0_gather_279 r0 s) (a1 : Int) (a2 : Int) (a3 : Int) (b1 : 0 ≤ a1 ∧ a1 ≤ 201) (b2 : (-1) ≤ a2 ∧ a2 ≤ 200) (b3 : 0 ≤ a3 ∧ a3 ≤ 200) (M : Int) (pm : 2147483647 - a3 ≤ M) {r : z_M → Int → z_O} {k : z_M → z_O} (hr : ∀ (s' : z_M) (v3 : Int), z_CI s' → z_Fr R_X0_gather_279 r0 s' → (0 ≤ v3 ∧ v3 ≤ 201) → (2147483647 - v3 < M) → z_T (r s' v3) (P_X0_gather_279 r0)) (hk : ∀ (s' : z_M), z_CI s' → z_Fr R_X0_gather_279 r0 s' → z_T (k s') (P_X0_gather_279 r0)) : z_T (fX0_gather_J116 fu s 279 a1 a2 a3 r k) (P_X0_gather_279 r0) := by
  refine T_of (fX0_gather_J116.eq_1 ..) ?_
  have u1 := CI_b c (k := 279) (j := 9) bd_279_9
  refine T_if1 (by decide +kernel) ?_
  refine T_leq (fun x2 e3 => ?_)
  have u4 := CI_b c (k := 279) (j := 9) bd_279_9
  refine T_leq (fun x5 e6 => ?_)
  have w7 := z_wr e6
  refine T_if1 (by decide +kernel) ?_
  refine T_let 282 (by decide +kernel) ?_
  refine T_if1 (by decide +kernel) ?_
  refine T_put (by decide +kernel) (c := 283) (by decide +kernel) bdr_283 (by omega) c (fun s8 e11 c9 g12 => ?_)
  have f10 := z_Fr.up (R := R_X0_gather_279) f g12 (fun _ => (Or.inl (⟨by decide, by decide⟩)))
  have t13 : s8 279 9 = s 279 9 := g12 279 9 (by decide)
  refine T_if1 (by decide +kernel) ?_
  refine T_let 284 (by decide +kernel) ?_
  refine T_if1 (by decide +kernel) ?_
  refine T_let 191 (by decide +kernel) ?_
  refine T_if1 (by decide +kernel) ?_
  refine T_let 198 (by decide +kernel) ?_
  refine T_if1 (by decide +kernel) ?_
  refine T_get (by decide +kernel) (c := 199) (by decide +kernel) bdr_199 (by decide) c9 (fun x14 e15 b16 w17 => ?_)
  have l18 : z_ln 198 = 200 := by decide +kernel
  refine T_if1 (by decide +kernel) ?_
  refine T_add (by decide +kernel) (c := 285) (by decide +kernel) bdr_285 c9 (fun s19 e22 c20 g23 => ?_)
  have f21 := z_Fr.up (R := R_X0_gather_279) f10 g23 (fun _ => (Or.inl (⟨by decide, by decide⟩)))
  have t24 : s19 279 9 = s8 279 9 := g23 279 9 (by decide)
  refine T_if1 (by decide +kernel) ?_
  refine T_let 292 (by decide +kernel) ?_
  refine T_if1 (by decide +kernel) ?_
  refine T_let 191 (by decide +kernel) ?_
  refine T_if1 (by decide +kernel) ?_
  refine T_let 202 (by decide +kernel) ?_
  refine T_if1 (by decide +kernel) ?_
  refine T_get (by decide +kernel) (c := 203) (by decide +kernel) bdr_203 (by decide) c20 (fun x25 e26 b27 w28 => ?_)
  have l29 : z_ln 202 = 200 := by decide +kernel
  refine T_if1 (by decide +kernel) ?_
  refine T_add (by decide +kernel) (c := 293) (by decide +kernel) bdr_293 c20 (fun s30 e33 c31 g34 => ?_)
  have f32 := z_Fr.up (R := R_X0_gather_279) f21 g34 (fun _ => (Or.inr (Or.inl (⟨by decide, by decide⟩))))
  have t35 : s30 279 9 = s19 279 9 := g34 279 9 (by decide)
  refine T_if1 (by decide +kernel) ?_
  refine T_let 294 (by decide +kernel) ?_
  refine T_if1 (by decide +kernel) ?_
  refine T_let 191 (by decide +kernel) ?_
  refine T_if1 (by decide +kernel) ?_
  refine T_let 204 (by decide +kernel) ?_
  refine T_if1 (by decide +kernel) ?_
  refine T_get (by decide +kernel) (c := 205) (by decide +kernel) bdr_205 (by decide) c31 (fun x36 e37 b38 w39 => ?_)
  have l40 : z_ln 204 = 200 := by decide +kernel
  refine T_if1 (by decide +kernel) ?_
  refine T_add (by decide +kernel) (c := 295) (by decide +kernel) bdr_295 c31 (fun s41 e44 c42 g45 => ?_)
  have f43 := z_Fr.up (R := R_X0_gather_279) f32 g45 (fun _ => (Or.inr (Or.inl (⟨by decide, by decide⟩))))
  have t46 : s41 279 9 = s30 279 9 := g45 279 9 (by decide)
  refine T_if1 (by decide +kernel) ?_
  refine T_let 292 (by decide +kernel) ?_
  refine T_if1 (by decide +kernel) ?_
  refine T_get (by decide +kernel) (c := 293) (by decide +kernel) bdr_293 (by decide) c42 (fun x47 e48 b49 w50 => ?_)
  have l51 : z_ln 292 = 200 := by decide +kernel
  refine T_if1 (by decide +kernel) ?_
  refine T_let 294 (by decide +kernel) ?_
  refine T_if1 (by decide +kernel) ?_
  refine T_get (by decide +kernel) (c := 295) (by decide +kernel) bdr_295 (by decide) c42 (fun x52 e53 b54 w55 => ?_)
  have l56 : z_ln 294 = 200 := by decide +kernel
  refine T_leq (fun x57 e58 => ?_)
  have w59 := z_maxb x47 x52
  rw [e58] at w59
  refine T_leq (fun x60 e61 => ?_)
  have w62 := z_wr e61
  refine T_if1 (by decide +kernel) ?_
  refine T_let 286 (by decide +kernel) ?_
  refine T_if1 (by decide +kernel) ?_
  refine T_let 284 (by decide +kernel) ?_
  refine T_if1 (by decide +kernel) ?_
  refine T_get (by decide +kernel) (c := 285) (by decide +kernel) bdr_285 (by decide) c42 (fun x63 e64 b65 w66 => ?_)
  have l67 : z_ln 284 = 200 := by decide +kernel
  refine T_leq (fun x68 e69 => ?_)
  have w70 := z_wr e69
  refine T_leq (fun x71 e72 => ?_)
  have w73 := z_maxb 0 x68
  rw [e72] at w73
  refine T_if1 (by decide +kernel) ?_
  refine T_put (by decide +kernel) (c := 287) (by decide +kernel) bdr_287 (by omega) c42 (fun s74 e77 c75 g78 => ?_)
  have f76 := z_Fr.up (R := R_X0_gather_279) f43 g78 (fun _ => (Or.inl (⟨by decide, by decide⟩)))
  have t79 : s74 279 9 = s41 279 9 := g78 279 9 (by decide)
  exact sj_X0_gather_279_J245 hfu r0 s74 c75 f76 a1 a2 a3 (by omega) (by omega) (by omega) M (by omega) (fun s' v3 c' f' w3 pg => hr s' v3 c' f' w3 (by omega)) hk
theorem sj_X0_gather_279_J58 {fu : Nat} (hfu : 8589934592 ≤ fu) (r0 s : z_M) (c : z_CI s) (f : z_Fr R_X0_gather_279 r0 s) (a1 : Int) (a2 : Int) (a3 : Int) (b1 : 0 ≤ a1 ∧ a1 ≤ 201) (b2 : (-1) ≤ a2 ∧ a2 ≤ 200) (b3 : 0 ≤ a3 ∧ a3 ≤ 200) (M : Int) (pm : 2147483647 - a3 ≤ M) {r : z_M → Int → z_O} {k : z_M → z_O} (hr : ∀ (s' : z_M) (v3 : Int), z_CI s' → z_Fr R_X0_gather_279 r0 s' → (0 ≤ v3 ∧ v3 ≤ 201) → (2147483647 - v3 < M) → z_T (r s' v3) (P_X0_gather_279 r0)) (hk : ∀ (s' : z_M), z_CI s' → z_Fr R_X0_gather_279 r0 s' → z_T (k s') (P_X0_gather_279 r0)) : z_T (fX0_gather_J58 fu s 279 a1 a2 a3 r k) (P_X0_gather_279 r0) := by
  refine T_of (fX0_gather_J58.eq_1 ..) ?_
  have u1 := CI_b c (k := 279) (j := 9) bd_279_9
  refine T_if1 (by decide +kernel) ?_
  refine T_let 280 (by decide +kernel) ?_
  refine T_if1 (by decide +kernel) ?_
  refine T_leq (fun x2 e3 => ?_)
  have u4 := CI_b c (k := 279) (j := 9) bd_279_9
  refine T_if1 (by decide +kernel) ?_
  refine T_put (by decide +kernel) (c := 281) (by decide +kernel) bdr_281 (by omega) c (fun s5 e8 c6 g9 => ?_)
  have f7 := z_Fr.up (R := R_X0_gather_279) f g9 (fun _ => (Or.inl (⟨by decide, by decide⟩)))
  have t10 : s5 279 9 = s 279 9 := g9 279 9 (by decide)
  refine T_if1 (by decide +kernel) ?_
  refine T_let 284 (by decide +kernel) ?_
  refine T_if1 (by decide +kernel) ?_
  refine T_leq (fun x11 e12 => ?_)
  have u13 := CI_b c6 (k := 279) (j := 9) bd_279_9
  refine T_if1 (by decide +kernel) ?_
  refine T_put (by decide +kernel) (c := 285) (by decide +kernel) bdr_285 (by omega) c6 (fun s14 e17 c15 g18 => ?_)
  have f16 := z_Fr.up (R := R_X0_gather_279) f7 g18 (fun _ => (Or.inl (⟨by decide, by decide⟩)))
  have t19 : s14 279 9 = s5 279 9 := g18 279 9 (by decide)
  refine T_if1 (by decide +kernel) ?_
  refine T_let 292 (by decide +kernel) ?_
  refine T_if1 (by decide +kernel) ?_
  refine T_leq (fun x20 e21 => ?_)
  have u22 := CI_b c15 (k := 279) (j := 9) bd_279_9
  refine T_if1 (by decide +kernel) ?_
  refine T_put (by decide +kernel) (c := 293) (by decide +kernel) bdr_293 (by omega) c15 (fun s23 e26 c24 g27 => ?_)
  have f25 := z_Fr.up (R := R_X0_gather_279) f16 g27 (fun _ => (Or.inr (Or.inl (⟨by decide, by decide⟩))))
  have t28 : s23 279 9 = s14 279 9 := g27 279 9 (by decide)
  refine T_if1 (by decide +kernel) ?_
  refine T_let 294 (by decide +kernel) ?_
  refine T_if1 (by decide +kernel) ?_
  refine T_leq (fun x29 e30 => ?_)
  have u31 := CI_b c24 (k := 279) (j := 9) bd_279_9
  refine T_if1 (by decide +kernel) ?_
  refine T_put (by decide +kernel) (c := 295) (by decide +kernel) bdr_295 (by omega) c24 (fun s32 e35 c33 g36 => ?_)
  have f34 := z_Fr.up (R := R_X0_gather_279) f25 g36 (fun _ => (Or.inr (Or.inl (⟨by decide, by decide⟩))))
  have t37 : s32 279 9 = s23 279 9 := g36 279 9 (by decide)
  refine T_if1 (by decide +kernel) ?_
  refine T_leq (fun x38 e39 => ?_)
  have u40 := CI_b c33 (k := 279) (j := 9) bd_279_9
  refine T_leq (fun x41 e42 => ?_)
  have w43 := z_wr e42
  refine T_if1 (by decide +kernel) ?_
  refine T_upg c33 bd_279_9 (by omega) (fun s44 c45 g47 g48 e49 => ?_)
  have f46 := z_Fr.upf (R := R_X0_gather_279) f34 g47 g48 (Or.inr (Or.inr (⟨rfl, by decide⟩)))
  exact sj_X0_gather_279_J116 hfu r0 s44 c45 f46 a1 a2 a3 (by omega) (by omega) (by omega) M (by omega) (fun s' v3 c' f' w3 pg => hr s' v3 c' f' w3 (by omega)) hk
theorem sl_X0_gather_279_L2 {fu : Nat} (hfu : 8589934592 ≤ fu) (r0 : z_M) (a1 : Int) (a2 : Int) (b1 : 0 ≤ a1 ∧ a1 ≤ 201) (b2 : (-1) ≤ a2 ∧ a2 ≤ 200) {k : z_M → z_O} (hk : ∀ (s' : z_M), z_CI s' → z_Fr R_X0_gather_279 r0 s' → z_T (k s') (P_X0_gather_279 r0)) : ∀ (F : Nat) (s : z_M) (a3 : Int), z_CI s → z_Fr R_X0_gather_279 r0 s → (0 ≤ a3 ∧ a3 ≤ 201) → (2147483647 - a3 < (F : Int)) → z_T (fX0_gather_L2 fu 279 a1 a2 F s a3 k) (P_X0_gather_279 r0) := by
  intro F
  induction F with
  | zero =>
    intro s a3 c f b3 hm
    have u24 := CI_b c (k := 279) (j := 9) bd_279_9
    exfalso; omega
  | succ F ih =>
    intro s a3 c f b3 hm
    refine T_of (fX0_gather_L2.eq_2 ..) ?_
    have u1 := CI_b c (k := 279) (j := 9) bd_279_9
    refine T_ite (fun h2 => ?_) (fun h2 => ?_)
    · exact hk s c f
    · refine T_if1 (by decide +kernel) ?_
      refine T_let 191 (by decide +kernel) ?_
      refine T_if1 (by decide +kernel) ?_
      refine T_let 192 (by decide +kernel) ?_
      refine T_if1 (by decide +kernel) ?_
      refine T_get (by decide +kernel) (c := 193) (by decide +kernel) bdr_193 (by decide) c (fun x3 e4 b5 w6 => ?_)
      have l7 : z_ln 192 = 200 := by decide +kernel
      refine T_ite (fun h8 => ?_) (fun h8 => ?_)
      · refine T_ite (fun h9 => ?_) (fun h9 => ?_)
        · exact sj_X0_gather_279_J58 hfu r0 s c f a1 a2 a3 (by omega) (by omega) (by omega) (2147483647 - a3) (by omega) (fun s' v3 c' f' w3 pg => ih s' v3 c' f' w3 (by omega)) hk
        · refine T_if1 (by decide +kernel) ?_
          refine T_let 191 (by decide +kernel) ?_
          refine T_if1 (by decide +kernel) ?_
          refine T_let 200 (by decide +kernel) ?_
          refine T_leq (fun x10 e11 => ?_)
          have w12 := z_wr e11
          refine T_if1 (by decide +kernel) ?_
          refine T_get (by decide +kernel) (c := 201) (by decide +kernel) bdr_201 (by decide) c (fun x13 e14 b15 w16 => ?_)
          have l17 : z_ln 200 = 200 := by decide +kernel
          refine T_if1 (by decide +kernel) ?_
          refine T_let 191 (by decide +kernel) ?_
          refine T_if1 (by decide +kernel) ?_
          refine T_let 200 (by decide +kernel) ?_
          refine T_if1 (by decide +kernel) ?_
          refine T_get (by decide +kernel) (c := 201) (by decide +kernel) bdr_201 (by decide) c (fun x18 e19 b20 w21 => ?_)
          have l22 : z_ln 200 = 200 := by decide +kernel
          refine T_ite (fun h23 => ?_) (fun h23 => ?_)
          · exact sj_X0_gather_279_J116 hfu r0 s c f a1 a2 a3 (by omega) (by omega) (by omega) (2147483647 - a3) (by omega) (fun s' v3 c' f' w3 pg => ih s' v3 c' f' w3 (by omega)) hk
          · exact sj_X0_gather_279_J58 hfu r0 s c f a1 a2 a3 (by omega) (by omega) (by omega) (2147483647 - a3) (by omega) (fun s' v3 c' f' w3 pg => ih s' v3 c' f' w3 (by omega)) hk
      · exact sj_X0_gather_279_J245 hfu r0 s c f a1 a2 a3 (by omega) (by omega) (by omega) (2147483647 - a3) (by omega) (fun s' v3 c' f' w3 pg => ih s' v3 c' f' w3 (by omega)) hk
theorem sf_X0_gather_279 {fu : Nat} (hfu : 8589934592 ≤ fu) (r0 : z_M) (c0 : z_CI r0) (a1 : Int) (a2 : Int) (b1 : 0 ≤ a1 ∧ a1 ≤ 201) (b2 : (-1) ≤ a2 ∧ a2 ≤ 200) : z_T (fX0_gather fu r0 279 a1 a2) (P_X0_gather_279 r0) := by
  refine T_of (fX0_gather.eq_1 ..) ?_
  refine sl_X0_gather_279_L2 hfu r0 a1 a2 (by omega) (by omega) (fun s1 c2 f3 => ?_) fu r0 a1 c0 z_Fr.rf (by omega) (by omega)
  have u4 := CI_b c2 (k := 279) (j := 9) bd_279_9
  exact T_ret ⟨c2, f3, rfl⟩
abbrev R_X0_hang_279 (a b : Int) : Prop := (289 ≤ a ∧ a ≤ 291)
abbrev P_X0_hang_279 (r0 : z_M) : z_V → z_M → Prop := fun v s' => z_CI s' ∧ z_Fr R_X0_hang_279 r0 s' ∧ (∃ x, v = vI x ∧ -2147483648 ≤ x ∧ x ≤ 2147483647)
theorem sj_X0_hang_279_J229 {fu : Nat} (hfu : 8589934592 ≤ fu) (r0 s : z_M) (c : z_CI s) (f : z_Fr R_X0_hang_279 r0 s) (a1 : Int) (a3 : Int) (a4 : Int) (a5 : Int) (a6 : Int) (a7 : Int) (a9 : Int) (a10 : Int) (a11 : Int) (b1 : -2147483648 ≤ a1 ∧ a1 ≤ 2147483647) (b3 : -2147483648 ≤ a3 ∧ a3 ≤ 2147483647) (b4 : -2147483648 ≤ a4 ∧ a4 ≤ 2147483647) (b5 : -2147483648 ≤ a5 ∧ a5 ≤ 2147483647) (b6 : -2147483648 ≤ a6 ∧ a6 ≤ 2147483647) (b7 : -2147483648 ≤ a7 ∧ a7 ≤ 2147483646) (b9 : -2147483648 ≤ a9 ∧ a9 ≤ 2147483647) (b10 : -2147483648 ≤ a10 ∧ a10 ≤ 2147483647) (b11 : -2147483648 ≤ a11 ∧ a11 ≤ 2147483647) (M : Int) (pm : 2147483647 - a7 ≤ M) {r : z_M → Int → Int → z_O} {k : z_M → Int → z_O} (hr : ∀ (s' : z_M) (v5 : Int) (v7 : Int), z_CI s' → z_Fr R_X0_hang_279 r0 s' → (-2147483648 ≤ v5 ∧ v5 ≤ 2147483647) → (-2147483648 ≤ v7 ∧ v7 ≤ 2147483647) → (2147483647 - v7 < M) → z_T (r s' v5 v7) (P_X0_hang_279 r0)) (hk : ∀ (s' : z_M) (v5 : Int), z_CI s' → z_Fr R_X0_hang_279 r0 s' → (-2147483648 ≤ v5 ∧ v5 ≤ 2147483647) → z_T (k s' v5) (P_X0_hang_279 r0)) : z_T (fX0_hang_J229 fu s 279 a1 a3 a4 a5 a6 a7 a9 a10 a11 r k) (P_X0_hang_279 r0) := by
  refine T_of (fX0_hang_J229.eq_1 ..) ?_
  have u1 := CI_b c (k := 279) (j := 9) bd_279_9
  refine T_if1 (by decide +kernel) ?_
  refine T_let 288 (by decide +kernel) ?_
  refine T_if1 (by omega) ?_
  refine T_leq (fun x2 e3 => ?_)
  have w4 := z_wr e3
  refine T_leq (fun x5 e6 => ?_)
  have w7 := z_minb x2 a10
  rw [e6] at w7
  refine T_if1 (by decide +kernel) ?_
  refine T_put (by decide +kernel) (c := 289) (by decide +kernel) bdr_289 (by omega) c (fun s8 e11 c9 g12 => ?_)
  have f10 := z_Fr.up (R := R_X0_hang_279) f g12 (fun _ => (⟨by decide, by decide⟩))
  have t13 : s8 279 9 = s 279 9 := g12 279 9 (by decide)
  refine T_if1 (by decide +kernel) ?_
  refine T_let 290 (by decide +kernel) ?_
  refine T_if1 (by omega) ?_
  refine T_leq (fun x14 e15 => ?_)
  have w16 := z_wr e15
  refine T_leq (fun x17 e18 => ?_)
  have w19 := z_wr e18
  refine T_leq (fun x20 e21 => ?_)
  have w22 := z_minb x17 a11
  rw [e21] at w22
  refine T_if1 (by decide +kernel) ?_
  refine T_put (by decide +kernel) (c := 291) (by decide +kernel) bdr_291 (by omega) c9 (fun s23 e26 c24 g27 => ?_)
  have f25 := z_Fr.up (R := R_X0_hang_279) f10 g27 (fun _ => (⟨by decide, by decide⟩))
  have t28 : s23 279 9 = s8 279 9 := g27 279 9 (by decide)
  refine T_if1 (by decide +kernel) ?_
  refine T_let 288 (by decide +kernel) ?_
  refine T_if1 (by decide +kernel) ?_
  refine T_get (by decide +kernel) (c := 289) (by decide +kernel) bdr_289 (by decide) c24 (fun x29 e30 b31 w32 => ?_)
  have l33 : z_ln 288 = 200 := by decide +kernel
  refine T_leq (fun x34 e35 => ?_)
  have w36 := z_wr e35
  refine T_if1 (by decide +kernel) ?_
  refine T_let 290 (by decide +kernel) ?_
  refine T_if1 (by decide +kernel) ?_
  refine T_get (by decide +kernel) (c := 291) (by decide +kernel) bdr_291 (by decide) c24 (fun x37 e38 b39 w40 => ?_)
  have l41 : z_ln 290 = 200 := by decide +kernel
  refine T_leq (fun x42 e43 => ?_)
  have w44 := z_wr e43
  refine T_leq (fun x45 e46 => ?_)
  have w47 := z_wr e46
  refine T_leq (fun x48 e49 => ?_)
  have w50 := z_wb e49
  exact hr s23 x45 x48 c24 f25 (by omega) (by omega) (by omega)
theorem sj_X0_hang_279_J175 {fu : Nat} (hfu : 8589934592 ≤ fu) (r0 s : z_M) (c : z_CI s) (f : z_Fr R_X0_hang_279 r0 s) (a1 : Int) (a3 : Int) (a4 : Int) (a5 : Int) (a6 : Int) (a7 : Int) (a8 : Int) (a9 : Int) (a10 : Int) (a11 : Int) (b1 : -2147483648 ≤ a1 ∧ a1 ≤ 2147483647) (b3 : -2147483648 ≤ a3 ∧ a3 ≤ 2147483647) (b4 : -2147483648 ≤ a4 ∧ a4 ≤ 2147483647) (b5 : -2147483648 ≤ a5 ∧ a5 ≤ 2147483647) (b6 : -2147483648 ≤ a6 ∧ a6 ≤ 2147483647) (b7 : -2147483648 ≤ a7 ∧ a7 ≤ 2147483646) (b8 : -2147483648 ≤ a8 ∧ a8 ≤ 2147483647) (b9 : -2147483648 ≤ a9 ∧ a9 ≤ 2147483647) (b10 : -2147483648 ≤ a10 ∧ a10 ≤ 2147483647) (b11 : -2147483648 ≤ a11 ∧ a11 ≤ 2147483647) (M : Int) (pm : 2147483647 - a7 ≤ M) {r : z_M → Int → Int → z_O} {k : z_M → Int → z_O} (hr : ∀ (s' : z_M) (v5 : Int) (v7 : Int), z_CI s' → z_Fr R_X0_hang_279 r0 s' → (-2147483648 ≤ v5 ∧ v5 ≤ 2147483647) → (-2147483648 ≤ v7 ∧ v7 ≤ 2147483647) → (2147483647 - v7 < M) → z_T (r s' v5 v7) (P_X0_hang_279 r0)) (hk : ∀ (s' : z_M) (v5 : Int), z_CI s' → z_Fr R_X0_hang_279 r0 s' → (-2147483648 ≤ v5 ∧ v5 ≤ 2147483647) → z_T (k s' v5) (P_X0_hang_279 r0)) : z_T (fX0_hang_J175 fu s 279 a1 a3 a4 a5 a6 a7 a8 a9 a10 a11 r k) (P_X0_hang_279 r0) := by
  refine T_of (fX0_hang_J175.eq_1 ..) ?_
  have u1 := CI_b c (k := 279) (j := 9) bd_279_9
  refine T_ite (fun h2 => ?_) (fun h2 => ?_)
  · exact sj_X0_hang_279_J229 hfu r0 s c f a1 a3 a4 a5 a6 a7 a9 a10 a11 (by omega) (by omega) (by omega) (by omega) (by omega) (by omega) (by omega) (by omega) (by omega) M (by omega) (fun s' v5 v7 c' f' w5 w7 pg => hr s' v5 v7 c' f' w5 w7 (by omega)) hk
  · refine T_leq (fun x3 e4 => ?_)
    have w5 := z_wr e4
    refine T_if1 (by decide +kernel) ?_
    refine T_leq (fun x6 e7 => ?_)
    have u8 := CI_b c (k := 279) (j := 9) bd_279_9
    refine T_ite (fun h9 => ?_) (fun h9 => ?_)
    · exact sj_X0_hang_279_J229 hfu r0 s c f a1 a3 a4 a5 a6 a7 a9 a10 a11 (by omega) (by omega) (by omega) (by omega) (by omega) (by omega) (by omega) (by omega) (by omega) M (by omega) (fun s' v5 v7 c' f' w5 w7 pg => hr s' v5 v7 c' f' w5 w7 (by omega)) hk
    · refine T_if1 (by decide +kernel) ?_
      refine T_let 280 (by decide +kernel) ?_
      refine T_leq (fun x10 e11 => ?_)
      have w12 := z_wr e11
      refine T_if1 (by decide +kernel) ?_
      refine T_get (by decide +kernel) (c := 281) (by decide +kernel) bdr_281 (by decide) c (fun x13 e14 b15 w16 => ?_)
      have l17 : z_ln 280 = 200 := by decide +kernel
      refine T_leq (fun x18 e19 => ?_)
      have w20 := z_wr e19
      refine T_ite (fun h21 => ?_) (fun h21 => ?_)
      · exact sj_X0_hang_279_J229 hfu r0 s c f a1 a3 a4 a5 a6 a7 a9 a10 a11 (by omega) (by omega) (by omega) (by omega) (by omega) (by omega) (by omega) (by omega) (by omega) M (by omega) (fun s' v5 v7 c' f' w5 w7 pg => hr s' v5 v7 c' f' w5 w7 (by omega)) hk
      · refine T_if1 (by decide +kernel) ?_
        refine T_let 286 (by decide +kernel) ?_
        refine T_leq (fun x22 e23 => ?_)
        have w24 := z_wr e23
        refine T_if1 (by decide +kernel) ?_
        refine T_get (by decide +kernel) (c := 287) (by decide +kernel) bdr_287 (by decide) c (fun x25 e26 b27 w28 => ?_)
        have l29 : z_ln 286 = 200 := by decide +kernel
        refine T_ite (fun h30 => ?_) (fun h30 => ?_)
        · exact sj_X0_hang_279_J229 hfu r0 s c f a1 a3 a4 a5 a6 a7 a9 a10 a11 (by omega) (by omega) (by omega) (by omega) (by omega) (by omega) (by omega) (by omega) (by omega) M (by omega) (fun s' v5 v7 c' f' w5 w7 pg => hr s' v5 v7 c' f' w5 w7 (by omega)) hk
        · refine T_if1 (by omega) ?_
          refine T_leq (fun x31 e32 => ?_)
          have w33 := z_wr e32
          exact sj_X0_hang_279_J229 hfu r0 s c f a1 a3 a4 a5 a6 a7 a9 a10 x31 (by omega) (by omega) (by omega) (by omega) (by omega) (by omega) (by omega) (by omega) (by omega) M (by omega) (fun s' v5 v7 c' f' w5 w7 pg => hr s' v5 v7 c' f' w5 w7 (by omega)) hk
theorem sj_X0_hang_279_J117 {fu : Nat} (hfu : 8589934592 ≤ fu) (r0 s : z_M) (c : z_CI s) (f : z_Fr R_X0_hang_279 r0 s) (a1 : Int) (a3 : Int) (a4 : Int) (a5 : Int) (a6 : Int) (a7 : Int) (a8 : Int) (a9 : Int) (a10 : Int) (t0 : Int) (b1 : -2147483648 ≤ a1 ∧ a1 ≤ 2147483647) (b3 : -2147483648 ≤ a3 ∧ a3 ≤ 2147483647) (b4 : -2147483648 ≤ a4 ∧ a4 ≤ 2147483647) (b5 : -2147483648 ≤ a5 ∧ a5 ≤ 2147483647) (b6 : -2147483648 ≤ a6 ∧ a6 ≤ 2147483647) (b7 : -2147483648 ≤ a7 ∧ a7 ≤ 2147483646) (b8 : -2147483648 ≤ a8 ∧ a8 ≤ 2147483647) (b9 : -2147483648 ≤ a9 ∧ a9 ≤ 2147483647) (b10 : -2147483648 ≤ a10 ∧ a10 ≤ 2147483647) (d0 : -2147483648 ≤ t0 ∧ t0 ≤ 2147483647) (M : Int) (pm : 2147483647 - a7 ≤ M) {r : z_M → Int → Int → z_O} {k : z_M → Int → z_O} (hr : ∀ (s' : z_M) (v5 : Int) (v7 : Int), z_CI s' → z_Fr R_X0_hang_279 r0 s' → (-2147483648 ≤ v5 ∧ v5 ≤ 2147483647) → (-2147483648 ≤ v7 ∧ v7 ≤ 2147483647) → (2147483647 - v7 < M) → z_T (r s' v5 v7) (P_X0_hang_279 r0)) (hk : ∀ (s' : z_M) (v5 : Int), z_CI s' → z_Fr R_X0_hang_279 r0 s' → (-2147483648 ≤ v5 ∧ v5 ≤ 2147483647) → z_T (k s' v5) (P_X0_hang_279 r0)) : z_T (fX0_hang_J117 fu s 279 a1 a3 a4 a5 a6 a7 a8 a9 a10 t0 r k) (P_X0_hang_279 r0) := by
  refine T_of (fX0_hang_J117.eq_1 ..) ?_
  have u1 := CI_b c (k := 279) (j := 9) bd_279_9
  refine T_ite (fun h2 => ?_) (fun h2 => ?_)
  · exact sj_X0_hang_279_J175 hfu r0 s c f a1 a3 a4 a5 a6 a7 a8 a9 a10 t0 (by omega) (by omega) (by omega) (by omega) (by omega) (by omega) (by omega) (by omega) (by omega) (by omega) M (by omega) (fun s' v5 v7 c' f' w5 w7 pg => hr s' v5 v7 c' f' w5 w7 (by omega)) hk
  · refine T_ite (fun h3 => ?_) (fun h3 => ?_)
    · exact sj_X0_hang_279_J175 hfu r0 s c f a1 a3 a4 a5 a6 a7 a8 a9 a10 t0 (by omega) (by omega) (by omega) (by omega) (by omega) (by omega) (by omega) (by omega) (by omega) (by omega) M (by omega) (fun s' v5 v7 c' f' w5 w7 pg => hr s' v5 v7 c' f' w5 w7 (by omega)) hk
    · refine T_if1 (by decide +kernel) ?_
      refine T_let 282 (by decide +kernel) ?_
      refine T_leq (fun x4 e5 => ?_)
      have w6 := z_wr e5
      refine T_if1 (by decide +kernel) ?_
      refine T_get (by decide +kernel) (c := 283) (by decide +kernel) bdr_283 (by decide) c (fun x7 e8 b9 w10 => ?_)
      have l11 : z_ln 282 = 200 := by decide +kernel
      refine T_leq (fun x12 e13 => ?_)
      have w14 := z_wr e13
      refine T_if1 (by decide +kernel) ?_
      refine T_let 280 (by decide +kernel) ?_
      refine T_if1 (by decide +kernel) ?_
      refine T_get (by decide +kernel) (c := 281) (by decide +kernel) bdr_281 (by decide) c (fun x15 e16 b17 w18 => ?_)
      have l19 : z_ln 280 = 200 := by decide +kernel
      refine T_ite (fun h20 => ?_) (fun h20 => ?_)
      · exact sj_X0_hang_279_J175 hfu r0 s c f a1 a3 a4 a5 a6 a7 a8 a9 a10 t0 (by omega) (by omega) (by omega) (by omega) (by omega) (by omega) (by omega) (by omega) (by omega) (by omega) M (by omega) (fun s' v5 v7 c' f' w5 w7 pg => hr s' v5 v7 c' f' w5 w7 (by omega)) hk
      · refine T_if1 (by decide +kernel) ?_
        refine T_let 286 (by decide +kernel) ?_
        refine T_leq (fun x21 e22 => ?_)
        have w23 := z_wr e22
        refine T_if1 (by decide +kernel) ?_
        refine T_get (by decide +kernel) (c := 287) (by decide +kernel) bdr_287 (by decide) c (fun x24 e25 b26 w27 => ?_)
        have l28 : z_ln 286 = 200 := by decide +kernel
        refine T_ite (fun h29 => ?_) (fun h29 => ?_)
        · exact sj_X0_hang_279_J175 hfu r0 s c f a1 a3 a4 a5 a6 a7 a8 a9 a10 t0 (by omega) (by omega) (by omega) (by omega) (by omega) (by omega) (by omega) (by omega) (by omega) (by omega) M (by omega) (fun s' v5 v7 c' f' w5 w7 pg => hr s' v5 v7 c' f' w5 w7 (by omega)) hk
        · refine T_if1 (by omega) ?_
          refine T_leq (fun x30 e31 => ?_)
          have w32 := z_wr e31
          exact sj_X0_hang_279_J175 hfu r0 s c f a1 a3 a4 a5 a6 a7 a8 a9 x30 t0 (by omega) (by omega) (by omega) (by omega) (by omega) (by omega) (by omega) (by omega) (by omega) (by omega) M (by omega) (fun s' v5 v7 c' f' w5 w7 pg => hr s' v5 v7 c' f' w5 w7 (by omega)) hk
theorem sj_X0_hang_279_J87 {fu : Nat} (hfu : 8589934592 ≤ fu) (r0 s : z_M) (c : z_CI s) (f : z_Fr R_X0_hang_279 r0 s) (a1 : Int) (a3 : Int) (a4 : Int) (a5 : Int) (a6 : Int) (a7 : Int) (a8 : Int) (a9 : Int) (t0 : Int) (b1 : -2147483648 ≤ a1 ∧ a1 ≤ 2147483647) (b3 : -2147483648 ≤ a3 ∧ a3 ≤ 2147483647) (b4 : -2147483648 ≤ a4 ∧ a4 ≤ 2147483647) (b5 : -2147483648 ≤ a5 ∧ a5 ≤ 2147483647) (b6 : -2147483648 ≤ a6 ∧ a6 ≤ 2147483647) (b7 : -2147483648 ≤ a7 ∧ a7 ≤ 2147483646) (b8 : -2147483648 ≤ a8 ∧ a8 ≤ 2147483647) (b9 : -2147483648 ≤ a9 ∧ a9 ≤ 2147483647) (d0 : -2147483648 ≤ t0 ∧ t0 ≤ 2147483647) (M : Int) (pm : 2147483647 - a7 ≤ M) {r : z_M → Int → Int → z_O} {k : z_M → Int → z_O} (hr : ∀ (s' : z_M) (v5 : Int) (v7 : Int), z_CI s' → z_Fr R_X0_hang_279 r0 s' → (-2147483648 ≤ v5 ∧ v5 ≤ 2147483647) → (-2147483648 ≤ v7 ∧ v7 ≤ 2147483647) → (2147483647 - v7 < M) → z_T (r s' v5 v7) (P_X0_hang_279 r0)) (hk : ∀ (s' : z_M) (v5 : Int), z_CI s' → z_Fr R_X0_hang_279 r0 s' → (-2147483648 ≤ v5 ∧ v5 ≤ 2147483647) → z_T (k s' v5) (P_X0_hang_279 r0)) : z_T (fX0_hang_J87 fu s 279 a1 a3 a4 a5 a6 a7 a8 a9 t0 r k) (P_X0_hang_279 r0) := by
  refine T_of (fX0_hang_J87.eq_1 ..) ?_
  have u1 := CI_b c (k := 279) (j := 9) bd_279_9
  refine T_ite (fun h2 => ?_) (fun h2 => ?_)
  · exact sj_X0_hang_279_J117 hfu r0 s c f a1 a3 a4 a5 a6 a7 a8 a9 t0 0 (by omega) (by omega) (by omega) (by omega) (by omega) (by omega) (by omega) (by omega) (by omega) (by omega) M (by omega) (fun s' v5 v7 c' f' w5 w7 pg => hr s' v5 v7 c' f' w5 w7 (by omega)) hk
  · refine T_if1 (by decide +kernel) ?_
    refine T_let 191 (by decide +kernel) ?_
    refine T_if1 (by decide +kernel) ?_
    refine T_let 192 (by decide +kernel) ?_
    refine T_if1 (by decide +kernel) ?_
    refine T_get (by decide +kernel) (c := 193) (by decide +kernel) bdr_193 (by decide) c (fun x3 e4 b5 w6 => ?_)
    have l7 : z_ln 192 = 200 := by decide +kernel
    refine T_useI (sf_X0_room hfu s c x3 a4 0 (by omega) (by omega) (by omega)) (fun v13 s8 hq => ?_)
    obtain ⟨c9, f10, ⟨x12, rfl, b14, b15⟩⟩ := hq
    refine T_vI ?_
    have f11 := z_Fr.tr (R := R_X0_hang_279) f f10 (fun a b h => absurd h not_false)
    have t16 : s8 279 9 = s 279 9 := f10 279 9 (by decide)
    exact sj_X0_hang_279_J117 hfu r0 s8 c9 f11 a1 a3 a4 a5 a6 a7 a8 a9 t0 x12 (by omega) (by omega) (by omega) (by omega) (by omega) (by omega) (by omega) (by omega) (by omega) (by omega) M (by omega) (fun s' v5 v7 c' f' w5 w7 pg => hr s' v5 v7 c' f' w5 w7 (by omega)) hk
theorem sl_X0_hang_279_L9 {fu : Nat} (hfu : 8589934592 ≤ fu) (r0 : z_M) (a1 : Int) (a3 : Int) (a4 : Int) (a6 : Int) (b1 : -2147483648 ≤ a1 ∧ a1 ≤ 2147483647) (b3 : -2147483648 ≤ a3 ∧ a3 ≤ 2147483647) (b4 : -2147483648 ≤ a4 ∧ a4 ≤ 2147483647) (b6 : -2147483648 ≤ a6 ∧ a6 ≤ 2147483647) {k : z_M → Int → z_O} (hk : ∀ (s' : z_M) (v5 : Int), z_CI s' → z_Fr R_X0_hang_279 r0 s' → (-2147483648 ≤ v5 ∧ v5 ≤ 2147483647) → z_T (k s' v5) (P_X0_hang_279 r0)) : ∀ (F : Nat) (s : z_M) (a5 : Int) (a7 : Int), z_CI s → z_Fr R_X0_hang_279 r0 s → (-2147483648 ≤ a5 ∧ a5 ≤ 2147483647) → (-2147483648 ≤ a7 ∧ a7 ≤ 2147483647) → (2147483647 - a7 < (F : Int)) → z_T (fX0_hang_L9 fu 279 a1 a3 a4 a6 F s a5 a7 k) (P_X0_hang_279 r0) := by
  intro F
  induction F with
  | zero =>
    intro s a5 a7 c f b5 b7 hm
    have u47 := CI_b c (k := 279) (j := 9) bd_279_9
    exfalso; omega
  | succ F ih =>
    intro s a5 a7 c f b5 b7 hm
    refine T_of (fX0_hang_L9.eq_2 ..) ?_
    have u1 := CI_b c (k := 279) (j := 9) bd_279_9
    refine T_if1 (by decide +kernel) ?_
    refine T_leq (fun x2 e3 => ?_)
    have u4 := CI_b c (k := 279) (j := 9) bd_279_9
    refine T_ite (fun h5 => ?_) (fun h5 => ?_)
    · exact hk s a5 c f (by omega)
    · refine T_if1 (by decide +kernel) ?_
      refine T_let 282 (by decide +kernel) ?_
      refine T_if1 (by decide +kernel) ?_
      refine T_get (by decide +kernel) (c := 283) (by decide +kernel) bdr_283 (by decide) c (fun x6 e7 b8 w9 => ?_)
      have l10 : z_ln 282 = 200 := by decide +kernel
      refine T_leq (fun x11 e12 => ?_)
      have w13 := z_wr e12
      refine T_if1 (by decide +kernel) ?_
      refine T_let 286 (by decide +kernel) ?_
      refine T_if1 (by decide +kernel) ?_
      refine T_get (by decide +kernel) (c := 287) (by decide +kernel) bdr_287 (by decide) c (fun x14 e15 b16 w17 => ?_)
      have l18 : z_ln 286 = 200 := by decide +kernel
      refine T_if1 (by decide +kernel) ?_
      refine T_let 280 (by decide +kernel) ?_
      refine T_if1 (by decide +kernel) ?_
      refine T_get (by decide +kernel) (c := 281) (by decide +kernel) bdr_281 (by decide) c (fun x19 e20 b21 w22 => ?_)
      have l23 : z_ln 280 = 200 := by decide +kernel
      refine T_ite (fun h24 => ?_) (fun h24 => ?_)
      · exact sj_X0_hang_279_J87 hfu r0 s c f a1 a3 a4 a5 a6 a7 x11 x14 0 (by omega) (by omega) (by omega) (by omega) (by omega) (by omega) (by omega) (by omega) (by omega) (2147483647 - a7) (by omega) (fun s' v5 v7 c' f' w5 w7 pg => ih s' v5 v7 c' f' w5 w7 (by omega)) hk
      · refine T_if1 (by decide +kernel) ?_
        refine T_let 191 (by decide +kernel) ?_
        refine T_if1 (by decide +kernel) ?_
        refine T_let 192 (by decide +kernel) ?_
        refine T_if1 (by decide +kernel) ?_
        refine T_let 280 (by decide +kernel) ?_
        refine T_if1 (by decide +kernel) ?_
        refine T_get (by decide +kernel) (c := 281) (by decide +kernel) bdr_281 (by decide) c (fun x25 e26 b27 w28 => ?_)
        have l29 : z_ln 280 = 200 := by decide +kernel
        refine T_leq (fun x30 e31 => ?_)
        have w32 := z_wr e31
        refine T_if1 (by decide +kernel) ?_
        refine T_get (by decide +kernel) (c := 193) (by decide +kernel) bdr_193 (by decide) c (fun x33 e34 b35 w36 => ?_)
        have l37 : z_ln 192 = 200 := by decide +kernel
        refine T_useI (sf_X0_room hfu s c x33 a4 1 (by omega) (by omega) (by omega)) (fun v43 s38 hq => ?_)
        obtain ⟨c39, f40, ⟨x42, rfl, b44, b45⟩⟩ := hq
        refine T_vI ?_
        have f41 := z_Fr.tr (R := R_X0_hang_279) f f40 (fun a b h => absurd h not_false)
        have t46 : s38 279 9 = s 279 9 := f40 279 9 (by decide)
        exact sj_X0_hang_279_J87 hfu r0 s38 c39 f41 a1 a3 a4 a5 a6 a7 x11 x14 x42 (by omega) (by omega) (by omega) (by omega) (by omega) (by omega) (by omega) (by omega) (by omega) (2147483647 - a7) (by omega) (fun s' v5 v7 c' f' w5 w7 pg => ih s' v5 v7 c' f' w5 w7 (by omega)) hk
theorem sf_X0_hang_279 {fu : Nat} (hfu : 8589934592 ≤ fu) (r0 : z_M) (c0 : z_CI r0) (a1 : Int) (a2 : Int) (a3 : Int) (a4 : Int) (b1 : -2147483648 ≤ a1 ∧ a1 ≤ 2147483647) (b2 : -2147483648 ≤ a2 ∧ a2 ≤ 2147483647) (b3 : -2147483648 ≤ a3 ∧ a3 ≤ 2147483647) (b4 : -2147483648 ≤ a4 ∧ a4 ≤ 2147483647) : z_T (fX0_hang fu r0 279 a1 a2 a3 a4) (P_X0_hang_279 r0) := by
  refine T_of (fX0_hang.eq_1 ..) ?_
  refine sl_X0_hang_279_L9 hfu r0 a1 a3 a4 a2 (by omega) (by omega) (by omega) (by omega) (fun s1 y4 c2 f3 b5 => ?_) fu r0 0 a1 c0 z_Fr.rf (by omega) (by omega) (by omega)
  have u6 := CI_b c2 (k := 279) (j := 9) bd_279_9
  exact T_ret ⟨c2, f3, ⟨y4, rfl, by omega, by omega⟩⟩
abbrev R_X3_hasGapBehind_258 (a b : Int) : Prop := False
abbrev P_X3_hasGapBehind_258 (r0 : z_M) : z_V → z_M → Prop := fun v s' => z_CI s' ∧ z_Fr R_X3_hasGapBehind_258 r0 s' ∧ (∃ x, v = vI x ∧ 0 ≤ x ∧ x ≤ 1)
theorem sj_X3_hasGapBehind_258_J36 {fu : Nat} (hfu : 8589934592 ≤ fu) (r0 s : z_M) (c : z_CI s) (f : z_Fr R_X3_hasGapBehind_258 r0 s) : z_T (fX3_hasGapBehind_J36 fu s) (P_X3_hasGapBehind_258 r0) := by
  refine T_of (fX3_hasGapBehind_J36.eq_1 ..) ?_
  have u1 := CI_b c (k := 220) (j := 4) bd_220_4
  have u2 := CI_b c (k := 220) (j := 5) bd_220_5
  refine T_if1 (by unfold z_bl; omega) ?_
  exact T_ret ⟨c, f, ⟨0, rfl, by omega, by omega⟩⟩
theorem sj_X3_hasGapBehind_258_J86 {fu : Nat} (hfu : 8589934592 ≤ fu) (r0 s : z_M) (c : z_CI s) (f : z_Fr R_X3_hasGapBehind_258 r0 s) (t0 : Int) (d0 : 0 ≤ t0 ∧ t0 ≤ 1) : z_T (fX3_hasGapBehind_J86 fu s t0) (P_X3_hasGapBehind_258 r0) := by
  refine T_of (fX3_hasGapBehind_J86.eq_1 ..) ?_
  have u1 := CI_b c (k := 220) (j := 4) bd_220_4
  have u2 := CI_b c (k := 220) (j := 5) bd_220_5
  refine T_if1 (by unfold z_bl; omega) ?_
  exact T_ret ⟨c, f, ⟨t0, rfl, by omega, by omega⟩⟩
theorem sj_X3_hasGapBehind_258_J81 {fu : Nat} (hfu : 8589934592 ≤ fu) (r0 s : z_M) (c : z_CI s) (f : z_Fr R_X3_hasGapBehind_258 r0 s) : z_T (fX3_hasGapBehind_J81 fu s) (P_X3_hasGapBehind_258 r0) := by
  refine T_of (fX3_hasGapBehind_J81.eq_1 ..) ?_
  have u1 := CI_b c (k := 220) (j := 4) bd_220_4
  have u2 := CI_b c (k := 220) (j := 5) bd_220_5
  exact sj_X3_hasGapBehind_258_J86 hfu r0 s c f 1 (by omega)
theorem sf_X3_hasGapBehind_258 {fu : Nat} (hfu : 8589934592 ≤ fu) (r0 : z_M) (c0 : z_CI r0) (a1 : Int) (b1 : -2147483648 ≤ a1 ∧ a1 ≤ 2147483647) : z_T (fX3_hasGapBehind fu r0 258 a1) (P_X3_hasGapBehind_258 r0) := by
  refine T_of (fX3_hasGapBehind.eq_1 ..) ?_
  refine T_if1 (by decide +kernel) ?_
  refine T_let 220 (by decide +kernel) ?_
  refine T_if1 (by decide +kernel) ?_
  refine T_leq (fun x1 e2 => ?_)
  have u3 := CI_b c0 (k := 220) (j := 4) bd_220_4
  refine T_ite (fun h4 => ?_) (fun h4 => ?_)
  · exact sj_X3_hasGapBehind_258_J36 hfu r0 r0 c0 z_Fr.rf
  · refine T_if1 (by decide +kernel) ?_
    refine T_let 220 (by decide +kernel) ?_
    refine T_if1 (by decide +kernel) ?_
    refine T_leq (fun x5 e6 => ?_)
    have u7 := CI_b c0 (k := 220) (j := 5) bd_220_5
    refine T_ite (fun h8 => ?_) (fun h8 => ?_)
    · exact sj_X3_hasGapBehind_258_J36 hfu r0 r0 c0 z_Fr.rf
    · refine T_if1 (by decide +kernel) ?_
      refine T_let 191 (by decide +kernel) ?_
      refine T_if1 (by decide +kernel) ?_
      refine T_let 208 (by decide +kernel) ?_
      refine T_if1 (by decide +kernel) ?_
      refine T_get (by decide +kernel) (c := 209) (by decide +kernel) bdr_209 (by decide) c0 (fun x9 e10 b11 w12 => ?_)
      have l13 : z_ln 208 = 200 := by decide +kernel
      refine T_ite (fun h14 => ?_) (fun h14 => ?_)
      · refine T_if1 (by decide +kernel) ?_
        refine T_let 191 (by decide +kernel) ?_
        refine T_if1 (by decide +kernel) ?_
        refine T_let 192 (by decide +kernel) ?_
        refine T_if1 (by decide +kernel) ?_
        refine T_get (by decide +kernel) (c := 193) (by decide +kernel) bdr_193 (by decide) c0 (fun x15 e16 b17 w18 => ?_)
        have l19 : z_ln 192 = 200 := by decide +kernel
        refine T_ite (fun h20 => ?_) (fun h20 => ?_)
        · exact sj_X3_hasGapBehind_258_J81 hfu r0 r0 c0 z_Fr.rf
        · refine T_if1 (by decide +kernel) ?_
          refine T_let 191 (by decide +kernel) ?_
          refine T_if1 (by decide +kernel) ?_
          refine T_let 200 (by decide +kernel) ?_
          refine T_if1 (by decide +kernel) ?_
          refine T_get (by decide +kernel) (c := 201) (by decide +kernel) bdr_201 (by decide) c0 (fun x21 e22 b23 w24 => ?_)
          have l25 : z_ln 200 = 200 := by decide +kernel
          refine T_if1 (by decide +kernel) ?_
          refine T_let 191 (by decide +kernel) ?_
          refine T_if1 (by decide +kernel) ?_
          refine T_let 200 (by decide +kernel) ?_
          refine T_leq (fun x26 e27 => ?_)
          have w28 := z_wr e27
          refine T_if1 (by decide +kernel) ?_
          refine T_get (by decide +kernel) (c := 201) (by decide +kernel) bdr_201 (by decide) c0 (fun x29 e30 b31 w32 => ?_)
          have l33 : z_ln 200 = 200 := by decide +kernel
          refine T_ite (fun h34 => ?_) (fun h34 => ?_)
          · exact sj_X3_hasGapBehind_258_J86 hfu r0 r0 c0 z_Fr.rf 0 (by omega)
          · exact sj_X3_hasGapBehind_258_J81 hfu r0 r0 c0 z_Fr.rf
      · exact sj_X3_hasGapBehind_258_J36 hfu r0 r0 c0 z_Fr.rf
abbrev R_X3_measureLine_258 (a b : Int) : Prop := (222 ≤ a ∧ a ≤ 222) ∨ (225 ≤ a ∧ a ≤ 239) ∨ (270 ≤ a ∧ a ≤ 278) ∨ (281 ≤ a ∧ a ≤ 295) ∨ (a = 220 ∧ (b = 4 ∨ b = 5)) ∨ (a = 223 ∧ (b = 9)) ∨ (a = 279 ∧ (b = 9))
abbrev P_X3_measureLine_258 (r0 : z_M) : z_V → z_M → Prop := fun v s' => z_CI s' ∧ z_Fr R_X3_measureLine_258 r0 s' ∧ (v = vN)
theorem rs_X5_lengthOf_220__X3_measureLine_258 (a b : Int) (h : R_X5_lengthOf_220 a b) : R_X3_measureLine_258 a b := (h.elim (fun h => (Or.inl (⟨by omega, by omega⟩))) (fun h => (h.elim (fun h => (Or.inr (Or.inl (⟨by omega, by omega⟩)))) (fun h => (h.elim (fun h => (Or.inr (Or.inr (Or.inr (Or.inr (Or.inl (⟨h.1, by omega⟩))))))) (fun h => (Or.inr (Or.inr (Or.inr (Or.inr (Or.inr (Or.inl (⟨h.1, by omega⟩)))))))))))))
theorem rs_X5_trim_220__X3_measureLine_258 (a b : Int) (h : R_X5_trim_220 a b) : R_X3_measureLine_258 a b := (Or.inr (Or.inr (Or.inr (Or.inr (Or.inl (⟨h.1, by omega⟩))))))
theorem rs_X0_gather_279__X3_measureLine_258 (a b : Int) (h : R_X0_gather_279 a b) : R_X3_measureLine_258 a b := (h.elim (fun h => (Or.inr (Or.inr (Or.inr (Or.inl (⟨by omega, by omega⟩)))))) (fun h => (h.elim (fun h => (Or.inr (Or.inr (Or.inr (Or.inl (⟨by omega, by omega⟩)))))) (fun h => (Or.inr (Or.inr (Or.inr (Or.inr (Or.inr (Or.inr (⟨h.1, by omega⟩)))))))))))
theorem rs_X0_hang_279__X3_measureLine_258 (a b : Int) (h : R_X0_hang_279 a b) : R_X3_measureLine_258 a b := (Or.inr (Or.inr (Or.inr (Or.inl (⟨by omega, by omega⟩)))))
theorem sj_X3_measureLine_258_J193 {fu : Nat} (hfu : 8589934592 ≤ fu) (r0 s : z_M) (c : z_CI s) (f : z_Fr R_X3_measureLine_258 r0 s) (a1 : Int) (a3 : Int) (a5 : Int) (t0 : Int) (t1 : Int) (b1 : -2147483648 ≤ a1 ∧ a1 ≤ 2147483647) (b3 : (-1) ≤ a3 ∧ a3 ≤ 200) (b5 : 0 ≤ a5 ∧ a5 ≤ 2147483646) (d0 : -2147483648 ≤ t0 ∧ t0 ≤ 2147483647) (d1 : 0 ≤ t1 ∧ t1 ≤ 1) (M : Int) (pm : 2147483647 - a5 ≤ M) {r : z_M → Int → Int → z_O} {k : z_M → Int → z_O} (hr : ∀ (s' : z_M) (v4 : Int) (v5 : Int), z_CI s' → z_Fr R_X3_measureLine_258 r0 s' → (-2147483648 ≤ v4 ∧ v4 ≤ 2147483647) → (0 ≤ v5 ∧ v5 ≤ 2147483647) → (2147483647 - v5 < M) → z_T (r s' v4 v5) (P_X3_measureLine_258 r0)) (hk : ∀ (s' : z_M) (v4 : Int), z_CI s' → z_Fr R_X3_measureLine_258 r0 s' → (-2147483648 ≤ v4 ∧ v4 ≤ 2147483647) → z_T (k s' v4) (P_X3_measureLine_258 r0)) : z_T (fX3_measureLine_J193 fu s 258 a1 a3 a5 t0 t1 r k) (P_X3_measureLine_258 r0) := by
  refine T_of (fX3_measureLine_J193.eq_1 ..) ?_
  have u1 := CI_b c (k := 220) (j := 4) bd_220_4
  have u2 := CI_b c (k := 220) (j := 5) bd_220_5
  have u3 := CI_b c (k := 279) (j := 9) bd_279_9
  refine T_leq (fun x4 e5 => ?_)
  have w6 := z_wb e5
  refine T_leq (fun x7 e8 => ?_)
  have w9 := z_wb e8
  exact hr s x4 x7 c f (by omega) (by omega) (by omega)
theorem sl_X3_measureLine_258_L171 {fu : Nat} (hfu : 8589934592 ≤ fu) (r0 : z_M) (a1 : Int) (a3 : Int) (b1 : -2147483648 ≤ a1 ∧ a1 ≤ 2147483647) (b3 : (-1) ≤ a3 ∧ a3 ≤ 200) {k : z_M → Int → z_O} (hk : ∀ (s' : z_M) (v4 : Int), z_CI s' → z_Fr R_X3_measureLine_258 r0 s' → (-2147483648 ≤ v4 ∧ v4 ≤ 2147483647) → z_T (k s' v4) (P_X3_measureLine_258 r0)) : ∀ (F : Nat) (s : z_M) (a4 : Int) (a5 : Int), z_CI s → z_Fr R_X3_measureLine_258 r0 s → (-2147483648 ≤ a4 ∧ a4 ≤ 2147483647) → (0 ≤ a5 ∧ a5 ≤ 2147483647) → (2147483647 - a5 < (F : Int)) → z_T (fX3_measureLine_L171 fu 258 a1 a3 F s a4 a5 k) (P_X3_measureLine_258 r0) := by
  intro F
  induction F with
  | zero =>
    intro s a4 a5 c f b4 b5 hm
    have u17 := CI_b c (k := 220) (j := 4) bd_220_4
    have u18 := CI_b c (k := 220) (j := 5) bd_220_5
    have u19 := CI_b c (k := 279) (j := 9) bd_279_9
    exfalso; omega
  | succ F ih =>
    intro s a4 a5 c f b4 b5 hm
    refine T_of (fX3_measureLine_L171.eq_2 ..) ?_
    have u1 := CI_b c (k := 220) (j := 4) bd_220_4
    have u2 := CI_b c (k := 220) (j := 5) bd_220_5
    have u3 := CI_b c (k := 279) (j := 9) bd_279_9
    refine T_ite (fun h4 => ?_) (fun h4 => ?_)
    · exact hk s a4 c f (by omega)
    · refine T_if1 (by decide +kernel) ?_
      refine T_useI (sf_X3_hasGapBehind_258 hfu s c a5 (by omega)) (fun v10 s5 hq => ?_)
      obtain ⟨c6, f7, ⟨x9, rfl, b11, b12⟩⟩ := hq
      refine T_vI ?_
      have f8 := z_Fr.tr (R := R_X3_measureLine_258) f f7 (fun a b h => absurd h not_false)
      have t13 : s5 220 4 = s 220 4 := f7 220 4 (by decide)
      have t14 : s5 220 5 = s 220 5 := f7 220 5 (by decide)
      have t15 : s5 279 9 = s 279 9 := f7 279 9 (by decide)
      refine T_ite (fun h16 => ?_) (fun h16 => ?_)
      · exact sj_X3_measureLine_258_J193 hfu r0 s5 c6 f8 a1 a3 a5 a4 0 (by omega) (by omega) (by omega) (by omega) (by omega) (2147483647 - a5) (by omega) (fun s' v4 v5 c' f' w4 w5 pg => ih s' v4 v5 c' f' w4 w5 (by omega)) hk
      · exact sj_X3_measureLine_258_J193 hfu r0 s5 c6 f8 a1 a3 a5 a4 1 (by omega) (by omega) (by omega) (by omega) (by omega) (2147483647 - a5) (by omega) (fun s' v4 v5 c' f' w4 w5 pg => ih s' v4 v5 c' f' w4 w5 (by omega)) hk
theorem sj_X3_measureLine_258_J81 {fu : Nat} (hfu : 8589934592 ≤ fu) (r0 s : z_M) (c : z_CI s) (f : z_Fr R_X3_measureLine_258 r0 s) (a1 : Int) (a2 : Int) (a3 : Int) (t1 : Int) (t2 : Int) (b1 : -2147483648 ≤ a1 ∧ a1 ≤ 2147483647) (b2 : 0 ≤ a2 ∧ a2 ≤ 200) (b3 : (-1) ≤ a3 ∧ a3 ≤ 200) (d1 : -2147483648 ≤ t1 ∧ t1 ≤ 2147483647) (d2 : 0 ≤ t2 ∧ t2 ≤ 1) : z_T (fX3_measureLine_J81 fu s 258 a1 a2 a3 275 t1 t2) (P_X3_measureLine_258 r0) := by
  refine T_of (fX3_measureLine_J81.eq_1 ..) ?_
  have u1 := CI_b c (k := 220) (j := 4) bd_220_4
  have u2 := CI_b c (k := 220) (j := 5) bd_220_5
  have u3 := CI_b c (k := 279) (j := 9) bd_279_9
  refine T_if1 (by decide +kernel) ?_
  refine T_put (by decide +kernel) (c := 276) (by decide +kernel) bdr_276 (by omega) c (fun s4 e7 c5 g8 => ?_)
  have f6 := z_Fr.up (R := R_X3_measureLine_258) f g8 (fun _ => (Or.inr (Or.inr (Or.inl (⟨by decide, by decide⟩)))))
  have t9 : s4 220 4 = s 220 4 := g8 220 4 (by decide)
  have t10 : s4 220 5 = s 220 5 := g8 220 5 (by decide)
  have t11 : s4 279 9 = s 279 9 := g8 279 9 (by decide)
  refine T_if1 (by decide +kernel) ?_
  refine T_let 277 (by decide +kernel) ?_
  refine T_if1 (by decide +kernel) ?_
  refine T_let 279 (by decide +kernel) ?_
  refine T_if1 (by decide +kernel) ?_
  refine T_leq (fun x12 e13 => ?_)
  have u14 := CI_b c5 (k := 279) (j := 9) bd_279_9
  refine T_if1 (by decide +kernel) ?_
  refine T_put (by decide +kernel) (c := 278) (by decide +kernel) bdr_278 (by omega) c5 (fun s15 e18 c16 g19 => ?_)
  have f17 := z_Fr.up (R := R_X3_measureLine_258) f6 g19 (fun _ => (Or.inr (Or.inr (Or.inl (⟨by decide, by decide⟩)))))
  have t20 : s15 220 4 = s4 220 4 := g19 220 4 (by decide)
  have t21 : s15 220 5 = s4 220 5 := g19 220 5 (by decide)
  have t22 : s15 279 9 = s4 279 9 := g19 279 9 (by decide)
  refine T_if1 (by decide +kernel) ?_
  refine T_let 279 (by decide +kernel) ?_
  refine T_if1 (by decide +kernel) ?_
  refine T_let 220 (by decide +kernel) ?_
  refine T_if1 (by decide +kernel) ?_
  refine T_leq (fun x23 e24 => ?_)
  have u25 := CI_b c16 (k := 220) (j := 4) bd_220_4
  refine T_if1 (by decide +kernel) ?_
  refine T_let 220 (by decide +kernel) ?_
  refine T_if1 (by decide +kernel) ?_
  refine T_leq (fun x26 e27 => ?_)
  have u28 := CI_b c16 (k := 220) (j := 5) bd_220_5
  refine T_if1 (by decide +kernel) ?_
  refine T_useN (sf_X0_gather_279 hfu s15 c16 x23 x26 (by omega) (by omega)) (fun v34 s29 hq => ?_)
  obtain ⟨c30, f31, rfl⟩ := hq
  refine T_vN ?_
  have f32 := z_Fr.tr (R := R_X3_measureLine_258) f17 f31 rs_X0_gather_279__X3_measureLine_258
  have t37 : s29 220 4 = s15 220 4 := f31 220 4 (by decide)
  have t38 : s29 220 5 = s15 220 5 := f31 220 5 (by decide)
  have u39 := CI_b c30 (k := 279) (j := 9) bd_279_9
  refine T_if1 (by decide +kernel) ?_
  refine T_let 273 (by decide +kernel) ?_
  refine T_if1 (by decide +kernel) ?_
  refine T_let 279 (by decide +kernel) ?_
  refine T_if1 (by decide +kernel) ?_
  refine T_let 277 (by decide +kernel) ?_
  refine T_if1 (by decide +kernel) ?_
  refine T_get (by decide +kernel) (c := 278) (by decide +kernel) bdr_278 (by decide) c30 (fun x40 e41 b42 w43 => ?_)
  have l44 : z_ln 277 = 201 := by decide +kernel
  refine T_if1 (by decide +kernel) ?_
  refine T_let 220 (by decide +kernel) ?_
  refine T_if1 (by decide +kernel) ?_
  refine T_leq (fun x45 e46 => ?_)
  have u47 := CI_b c30 (k := 220) (j := 4) bd_220_4
  refine T_if1 (by decide +kernel) ?_
  refine T_let 220 (by decide +kernel) ?_
  refine T_if1 (by decide +kernel) ?_
  refine T_leq (fun x48 e49 => ?_)
  have u50 := CI_b c30 (k := 220) (j := 5) bd_220_5
  refine T_if1 (by decide +kernel) ?_
  refine T_let 2 (by decide +kernel) ?_
  refine T_if1 (by decide +kernel) ?_
  refine T_get (by decide +kernel) (c := 3) (by decide +kernel) bdr_3 (by decide) c30 (fun x51 e52 b53 w54 => ?_)
  have l55 : z_ln 2 = 9 := by decide +kernel
  refine T_if1 (by decide +kernel) ?_
  refine T_useI (sf_X0_hang_279 hfu s29 c30 x40 x45 x48 x51 (by omega) (by omega) (by omega) (by omega)) (fun v61 s56 hq => ?_)
  obtain ⟨c57, f58, ⟨x60, rfl, b62, b63⟩⟩ := hq
  refine T_vI ?_
  have f59 := z_Fr.tr (R := R_X3_measureLine_258) f32 f58 rs_X0_hang_279__X3_measureLine_258
  have t64 : s56 220 4 = s29 220 4 := f58 220 4 (by decide)
  have t65 : s56 220 5 = s29 220 5 := f58 220 5 (by decide)
  have t66 : s56 279 9 = s29 279 9 := f58 279 9 (by decide)
  refine T_if1 (by decide +kernel) ?_
  refine T_put (by decide +kernel) (c := 274) (by decide +kernel) bdr_274 (by omega) c57 (fun s67 e70 c68 g71 => ?_)
  have f69 := z_Fr.up (R := R_X3_measureLine_258) f59 g71 (fun _ => (Or.inr (Or.inr (Or.inl (⟨by decide, by decide⟩)))))
  have t72 : s67 220 4 = s56 220 4 := g71 220 4 (by decide)
  have t73 : s67 220 5 = s56 220 5 := g71 220 5 (by decide)
  have t74 : s67 279 9 = s56 279 9 := g71 279 9 (by decide)
  refine sl_X3_measureLine_258_L171 hfu r0 a1 a3 (by omega) (by omega) (fun s75 y78 c76 f77 b79 => ?_) fu s67 0 a2 c68 f69 (by omega) (by omega) (by omega)
  have u80 := CI_b c76 (k := 220) (j := 4) bd_220_4
  have u81 := CI_b c76 (k := 220) (j := 5) bd_220_5
  have u82 := CI_b c76 (k := 279) (j := 9) bd_279_9
  refine T_if1 (by decide +kernel) ?_
  refine T_let 271 (by decide +kernel) ?_
  refine T_if1 (by decide +kernel) ?_
  refine T_put (by decide +kernel) (c := 272) (by decide +kernel) bdr_272 (by omega) c76 (fun s83 e86 c84 g87 => ?_)
  have f85 := z_Fr.up (R := R_X3_measureLine_258) f77 g87 (fun _ => (Or.inr (Or.inr (Or.inl (⟨by decide, by decide⟩)))))
  have t88 : s83 220 4 = s75 220 4 := g87 220 4 (by decide)
  have t89 : s83 220 5 = s75 220 5 := g87 220 5 (by decide)
  have t90 : s83 279 9 = s75 279 9 := g87 279 9 (by decide)
  exact T_ret ⟨c84, f85, rfl⟩
theorem sf_X3_measureLine_258 {fu : Nat} (hfu : 8589934592 ≤ fu) (r0 : z_M) (c0 : z_CI r0) (a1 : Int) (b1 : -2147483648 ≤ a1 ∧ a1 ≤ 2147483647) : z_T (fX3_measureLine fu r0 258 a1) (P_X3_measureLine_258 r0) := by
  refine T_of (fX3_measureLine.eq_1 ..) ?_
  refine T_if1 (by decide +kernel) ?_
  refine T_let 240 (by decide +kernel) ?_
  refine T_if1 (by decide +kernel) ?_
  refine T_let 247 (by decide +kernel) ?_
  refine T_if1 (by decide +kernel) ?_
  refine T_get (by decide +kernel) (c := 248) (by decide +kernel) bdr_248 (by decide) c0 (fun x1 e2 b3 w4 => ?_)
  have l5 : z_ln 247 = 201 := by decide +kernel
  refine T_if1 (by decide +kernel) ?_
  refine T_let 240 (by decide +kernel) ?_
  refine T_if1 (by decide +kernel) ?_
  refine T_let 247 (by decide +kernel) ?_
  refine T_leq (fun x6 e7 => ?_)
  have w8 := z_wb e7
  refine T_if1 (by decide +kernel) ?_
  refine T_get (by decide +kernel) (c := 248) (by decide +kernel) bdr_248 (by decide) c0 (fun x9 e10 b11 w12 => ?_)
  have l13 : z_ln 247 = 201 := by decide +kernel
  refine T_leq (fun x14 e15 => ?_)
  have w16 := z_wb e15
  refine T_if1 (by decide +kernel) ?_
  refine T_let 269 (by decide +kernel) ?_
  refine T_if1 (by decide +kernel) ?_
  refine T_let 220 (by decide +kernel) ?_
  refine T_if1 (by decide +kernel) ?_
  refine T_useI (sf_X5_lengthOf_220 hfu r0 c0 x1 x14 (by omega) (by omega)) (fun v22 s17 hq => ?_)
  obtain ⟨c18, f19, ⟨x21, rfl, b23, b24⟩⟩ := hq
  refine T_vI ?_
  have f20 := z_Fr.tr (R := R_X3_measureLine_258) z_Fr.rf f19 rs_X5_lengthOf_220__X3_measureLine_258
  have t25 : s17 279 9 = r0 279 9 := f19 279 9 (by decide)
  have u26 := CI_b c18 (k := 220) (j := 4) bd_220_4
  have u27 := CI_b c18 (k := 220) (j := 5) bd_220_5
  refine T_if1 (by decide +kernel) ?_
  refine T_put (by decide +kernel) (c := 270) (by decide +kernel) bdr_270 (by omega) c18 (fun s28 e31 c29 g32 => ?_)
  have f30 := z_Fr.up (R := R_X3_measureLine_258) f20 g32 (fun _ => (Or.inr (Or.inr (Or.inl (⟨by decide, by decide⟩)))))
  have t33 : s28 220 4 = s17 220 4 := g32 220 4 (by decide)
  have t34 : s28 220 5 = s17 220 5 := g32 220 5 (by decide)
  have t35 : s28 279 9 = s17 279 9 := g32 279 9 (by decide)
  refine T_if1 (by decide +kernel) ?_
  refine T_let 220 (by decide +kernel) ?_
  refine T_if1 (by decide +kernel) ?_
  refine T_useN (sf_X5_trim_220 hfu s28 c29 x1 x14 (by omega) (by omega)) (fun v41 s36 hq => ?_)
  obtain ⟨c37, f38, rfl⟩ := hq
  refine T_vN ?_
  have f39 := z_Fr.tr (R := R_X3_measureLine_258) f30 f38 rs_X5_trim_220__X3_measureLine_258
  have t44 : s36 279 9 = s28 279 9 := f38 279 9 (by decide)
  have u45 := CI_b c37 (k := 220) (j := 4) bd_220_4
  have u46 := CI_b c37 (k := 220) (j := 5) bd_220_5
  refine T_if1 (by decide +kernel) ?_
  refine T_let 275 (by decide +kernel) ?_
  refine T_if1 (by decide +kernel) ?_
  refine T_let 220 (by decide +kernel) ?_
  refine T_if1 (by decide +kernel) ?_
  refine T_let 220 (by decide +kernel) ?_
  refine T_if1 (by decide +kernel) ?_
  refine T_leq (fun x47 e48 => ?_)
  have u49 := CI_b c37 (k := 220) (j := 5) bd_220_5
  refine T_if1 (by decide +kernel) ?_
  refine T_useI (sf_X5_hangsOut_220 hfu s36 c37 x47 (by omega)) (fun v55 s50 hq => ?_)
  obtain ⟨c51, f52, ⟨x54, rfl, b56, b57⟩⟩ := hq
  refine T_vI ?_
  have f53 := z_Fr.tr (R := R_X3_measureLine_258) f39 f52 (fun a b h => absurd h not_false)
  have t58 : s50 220 4 = s36 220 4 := f52 220 4 (by decide)
  have t59 : s50 220 5 = s36 220 5 := f52 220 5 (by decide)
  have t60 : s50 279 9 = s36 279 9 := f52 279 9 (by decide)
  refine T_ite (fun h61 => ?_) (fun h61 => ?_)
  · exact sj_X3_measureLine_258_J81 hfu r0 s50 c51 f53 a1 x1 x14 a1 0 (by omega) (by omega) (by omega) (by omega) (by omega)
  · exact sj_X3_measureLine_258_J81 hfu r0 s50 c51 f53 a1 x1 x14 a1 1 (by omega) (by omega) (by omega) (by omega) (by omega)
abbrev R_X3_restToShare_258 (a b : Int) : Prop := False
abbrev P_X3_restToShare_258 (r0 : z_M) : z_V → z_M → Prop := fun v s' => z_CI s' ∧ z_Fr R_X3_restToShare_258 r0 s' ∧ (∃ x, v = vI x ∧ -2147483648 ≤ x ∧ x ≤ 2147483647)
theorem sj_X3_restToShare_258_J52 {fu : Nat} (hfu : 8589934592 ≤ fu) (r0 s : z_M) (c : z_CI s) (f : z_Fr R_X3_restToShare_258 r0 s) (t0 : Int) (d0 : -2147483648 ≤ t0 ∧ t0 ≤ 2147483647) : z_T (fX3_restToShare_J52 fu s t0) (P_X3_restToShare_258 r0) := by
  refine T_of (fX3_restToShare_J52.eq_1 ..) ?_
  have u1 := CI_b c (k := 240) (j := 6) bd_240_6
  exact T_ret ⟨c, f, ⟨t0, rfl, by omega, by omega⟩⟩
theorem sj_X3_restToShare_258_J51 {fu : Nat} (hfu : 8589934592 ≤ fu) (r0 s : z_M) (c : z_CI s) (f : z_Fr R_X3_restToShare_258 r0 s) : z_T (fX3_restToShare_J51 fu s) (P_X3_restToShare_258 r0) := by
  refine T_of (fX3_restToShare_J51.eq_1 ..) ?_
  have u1 := CI_b c (k := 240) (j := 6) bd_240_6
  exact sj_X3_restToShare_258_J52 hfu r0 s c f 0 (by omega)
theorem sf_X3_restToShare_258 {fu : Nat} (hfu : 8589934592 ≤ fu) (r0 : z_M) (c0 : z_CI r0) (a1 : Int) (b1 : -2147483648 ≤ a1 ∧ a1 ≤ 2147483647) : z_T (fX3_restToShare fu r0 258 a1) (P_X3_restToShare_258 r0) := by
  refine T_of (fX3_restToShare.eq_1 ..) ?_
  refine T_if1 (by decide +kernel) ?_
  refine T_let 2 (by decide +kernel) ?_
  refine T_if1 (by decide +kernel) ?_
  refine T_get (by decide +kernel) (c := 3) (by decide +kernel) bdr_3 (by decide) c0 (fun x1 e2 b3 w4 => ?_)
  have l5 : z_ln 2 = 9 := by decide +kernel
  refine T_if1 (by decide +kernel) ?_
  refine T_let 269 (by decide +kernel) ?_
  refine T_if1 (by decide +kernel) ?_
  refine T_get (by decide +kernel) (c := 270) (by decide +kernel) bdr_270 (by decide) c0 (fun x6 e7 b8 w9 => ?_)
  have l10 : z_ln 269 = 200 := by decide +kernel
  refine T_leq (fun x11 e12 => ?_)
  have w13 := z_wr e12
  refine T_if1 (by decide +kernel) ?_
  refine T_let 2 (by decide +kernel) ?_
  refine T_if1 (by decide +kernel) ?_
  refine T_get (by decide +kernel) (c := 3) (by decide +kernel) bdr_3 (by decide) c0 (fun x14 e15 b16 w17 => ?_)
  have l18 : z_ln 2 = 9 := by decide +kernel
  refine T_ite (fun h19 => ?_) (fun h19 => ?_)
  · exact sj_X3_restToShare_258_J51 hfu r0 r0 c0 z_Fr.rf
  · refine T_ite (fun h20 => ?_) (fun h20 => ?_)
    · exact sj_X3_restToShare_258_J51 hfu r0 r0 c0 z_Fr.rf
    · refine T_if1 (by decide +kernel) ?_
      refine T_let 240 (by decide +kernel) ?_
      refine T_if1 (by decide +kernel) ?_
      refine T_leq (fun x21 e22 => ?_)
      have u23 := CI_b c0 (k := 240) (j := 6) bd_240_6
      refine T_leq (fun x24 e25 => ?_)
      have w26 := z_wr e25
      refine T_ite (fun h27 => ?_) (fun h27 => ?_)
      · exact sj_X3_restToShare_258_J51 hfu r0 r0 c0 z_Fr.rf
      · exact sj_X3_restToShare_258_J52 hfu r0 r0 c0 z_Fr.rf x11 (by omega)
abbrev R_X0_padAhead_279 (a b : Int) : Prop := False
abbrev P_X0_padAhead_279 (r0 : z_M) : z_V → z_M → Prop := fun v s' => z_CI s' ∧ z_Fr R_X0_padAhead_279 r0 s' ∧ (∃ x, v = vI x ∧ -2147483648 ≤ x ∧ x ≤ 2147483647)
theorem sf_X0_padAhead_279 {fu : Nat} (hfu : 8589934592 ≤ fu) (r0 : z_M) (c0 : z_CI r0) (a1 : Int) (b1 : -2147483648 ≤ a1 ∧ a1 ≤ 2147483647) : z_T (fX0_padAhead fu r0 279 a1) (P_X0_padAhead_279 r0) := by
  refine T_of (fX0_padAhead.eq_1 ..) ?_
  refine T_if1 (by decide +kernel) ?_
  refine T_let 286 (by decide +kernel) ?_
  refine T_if1 (by decide +kernel) ?_
  refine T_get (by decide +kernel) (c := 287) (by decide +kernel) bdr_287 (by decide) c0 (fun x1 e2 b3 w4 => ?_)
  have l5 : z_ln 286 = 200 := by decide +kernel
  refine T_if1 (by omega) ?_
  refine T_leq (fun x6 e7 => ?_)
  have w8 := z_wr e7
  refine T_if1 (by decide +kernel) ?_
  refine T_let 288 (by decide +kernel) ?_
  refine T_if1 (by decide +kernel) ?_
  refine T_get (by decide +kernel) (c := 289) (by decide +kernel) bdr_289 (by decide) c0 (fun x9 e10 b11 w12 => ?_)
  have l13 : z_ln 288 = 200 := by decide +kernel
  refine T_leq (fun x14 e15 => ?_)
  have w16 := z_wr e15
  exact T_ret ⟨c0, z_Fr.rf, ⟨x14, rfl, by omega, by omega⟩⟩
abbrev R_X5_widthOf_220 (a b : Int) : Prop := False
abbrev P_X5_widthOf_220 (r0 : z_M) : z_V → z_M → Prop := fun v s' => z_CI s' ∧ z_Fr R_X5_widthOf_220 r0 s' ∧ (∃ x, v = vI x ∧ -2147483648 ≤ x ∧ x ≤ 2147483647)
theorem sj_X5_widthOf_220_J39 {fu : Nat} (hfu : 8589934592 ≤ fu) (r0 s : z_M) (c : z_CI s) (f : z_Fr R_X5_widthOf_220 r0 s) (t0 : Int) (d0 : -2147483648 ≤ t0 ∧ t0 ≤ 2147483647) : z_T (fX5_widthOf_J39 fu s t0) (P_X5_widthOf_220 r0) := by
  refine T_of (fX5_widthOf_J39.eq_1 ..) ?_
  have u1 := CI_b c (k := 220) (j := 4) bd_220_4
  have u2 := CI_b c (k := 220) (j := 5) bd_220_5
  exact T_ret ⟨c, f, ⟨t0, rfl, by omega, by omega⟩⟩
theorem sj_X5_widthOf_220_J24 {fu : Nat} (hfu : 8589934592 ≤ fu) (r0 s : z_M) (c : z_CI s) (f : z_Fr R_X5_widthOf_220 r0 s) : z_T (fX5_widthOf_J24 fu s) (P_X5_widthOf_220 r0) := by
  refine T_of (fX5_widthOf_J24.eq_1 ..) ?_
  have u1 := CI_b c (k := 220) (j := 4) bd_220_4
  have u2 := CI_b c (k := 220) (j := 5) bd_220_5
  exact sj_X5_widthOf_220_J39 hfu r0 s c f 0 (by omega)
theorem sf_X5_widthOf_220 {fu : Nat} (hfu : 8589934592 ≤ fu) (r0 : z_M) (c0 : z_CI r0) (a1 : Int) (b1 : -2147483648 ≤ a1 ∧ a1 ≤ 2147483647) : z_T (fX5_widthOf fu r0 220 a1) (P_X5_widthOf_220 r0) := by
  refine T_of (fX5_widthOf.eq_1 ..) ?_
  refine T_if1 (by decide +kernel) ?_
  refine T_leq (fun x1 e2 => ?_)
  have u3 := CI_b c0 (k := 220) (j := 4) bd_220_4
  refine T_ite (fun h4 => ?_) (fun h4 => ?_)
  · exact sj_X5_widthOf_220_J24 hfu r0 r0 c0 z_Fr.rf
  · refine T_if1 (by decide +kernel) ?_
    refine T_leq (fun x5 e6 => ?_)
    have u7 := CI_b c0 (k := 220) (j := 5) bd_220_5
    refine T_ite (fun h8 => ?_) (fun h8 => ?_)
    · exact sj_X5_widthOf_220_J24 hfu r0 r0 c0 z_Fr.rf
    · refine T_if1 (by decide +kernel) ?_
      refine T_useI (sf_X5_hangsOut_220 hfu r0 c0 a1 (by omega)) (fun v14 s9 hq => ?_)
      obtain ⟨c10, f11, ⟨x13, rfl, b15, b16⟩⟩ := hq
      refine T_vI ?_
      have f12 := z_Fr.tr (R := R_X5_widthOf_220) z_Fr.rf f11 (fun a b h => absurd h not_false)
      have t17 : s9 220 4 = r0 220 4 := f11 220 4 (by decide)
      have t18 : s9 220 5 = r0 220 5 := f11 220 5 (by decide)
      refine T_ite (fun h19 => ?_) (fun h19 => ?_)
      · refine T_if1 (by decide +kernel) ?_
        refine T_let 191 (by decide +kernel) ?_
        refine T_if1 (by decide +kernel) ?_
        refine T_let 198 (by decide +kernel) ?_
        refine T_if1 (by decide +kernel) ?_
        refine T_get (by decide +kernel) (c := 199) (by decide +kernel) bdr_199 (by decide) c10 (fun x20 e21 b22 w23 => ?_)
        have l24 : z_ln 198 = 200 := by decide +kernel
        exact sj_X5_widthOf_220_J39 hfu r0 s9 c10 f12 x20 (by omega)
      · exact sj_X5_widthOf_220_J24 hfu r0 s9 c10 f12
abbrev R_X3_placeUnit_258 (a b : Int) : Prop := (260 ≤ a ∧ a ≤ 268)
abbrev P_X3_placeUnit_258 (r0 : z_M) : z_V → z_M → Prop := fun v s' => z_CI s' ∧ z_Fr R_X3_placeUnit_258 r0 s' ∧ (v = vN)
theorem sj_X3_placeUnit_258_J142 {fu : Nat} (hfu : 8589934592 ≤ fu) (r0 s : z_M) (c : z_CI s) (f : z_Fr R_X3_placeUnit_258 r0 s) (a4 : Int) (a6 : Int) (a7 : Int) (t0 : Int) (t1 : Int) (b4 : -2147483648 ≤ a4 ∧ a4 ≤ 2147483647) (b6 : -2147483648 ≤ a6 ∧ a6 ≤ 2147483647) (b7 : -2147483648 ≤ a7 ∧ a7 ≤ 2147483646) (d0 : -2147483648 ≤ t0 ∧ t0 ≤ 2147483647) (d1 : -2147483648 ≤ t1 ∧ t1 ≤ 2147483647) (M : Int) (pm : 2147483647 - a7 ≤ M) {r : z_M → Int → Int → z_O} {k : z_M → z_O} (hr : ∀ (s' : z_M) (v5 : Int) (v7 : Int), z_CI s' → z_Fr R_X3_placeUnit_258 r0 s' → (-2147483648 ≤ v5 ∧ v5 ≤ 2147483647) → (-2147483648 ≤ v7 ∧ v7 ≤ 2147483647) → (2147483647 - v7 < M) → z_T (r s' v5 v7) (P_X3_placeUnit_258 r0)) (hk : ∀ (s' : z_M), z_CI s' → z_Fr R_X3_placeUnit_258 r0 s' → z_T (k s') (P_X3_placeUnit_258 r0)) : z_T (fX3_placeUnit_J142 fu s 258 a4 a6 a7 t0 t1 r k) (P_X3_placeUnit_258 r0) := by
  refine T_of (fX3_placeUnit_J142.eq_1 ..) ?_
  refine T_leq (fun x1 e2 => ?_)
  have w3 := z_wr e2
  refine T_leq (fun x4 e5 => ?_)
  have w6 := z_wb e5
  exact hr s x1 x4 c f (by omega) (by omega) (by omega)
theorem sl_X3_placeUnit_258_L101 {fu : Nat} (hfu : 8589934592 ≤ fu) (r0 : z_M) (a4 : Int) (a6 : Int) (b4 : -2147483648 ≤ a4 ∧ a4 ≤ 2147483647) (b6 : -2147483648 ≤ a6 ∧ a6 ≤ 2147483647) {k : z_M → z_O} (hk : ∀ (s' : z_M), z_CI s' → z_Fr R_X3_placeUnit_258 r0 s' → z_T (k s') (P_X3_placeUnit_258 r0)) : ∀ (F : Nat) (s : z_M) (a5 : Int) (a7 : Int), z_CI s → z_Fr R_X3_placeUnit_258 r0 s → (-2147483648 ≤ a5 ∧ a5 ≤ 2147483647) → (-2147483648 ≤ a7 ∧ a7 ≤ 2147483647) → (2147483647 - a7 < (F : Int)) → z_T (fX3_placeUnit_L101 fu 258 a4 a6 F s a5 a7 k) (P_X3_placeUnit_258 r0) := by
  intro F
  induction F with
  | zero =>
    intro s a5 a7 c f b5 b7 hm
    exfalso; omega
  | succ F ih =>
    intro s a5 a7 c f b5 b7 hm
    refine T_of (fX3_placeUnit_L101.eq_2 ..) ?_
    refine T_ite (fun h1 => ?_) (fun h1 => ?_)
    · exact hk s c f
    · refine T_if1 (by decide +kernel) ?_
      refine T_let 267 (by decide +kernel) ?_
      refine T_if1 (by decide +kernel) ?_
      refine T_put (by decide +kernel) (c := 268) (by decide +kernel) bdr_268 (by omega) c (fun s2 e5 c3 g6 => ?_)
      have f4 := z_Fr.up (R := R_X3_placeUnit_258) f g6 (fun _ => (⟨by decide, by decide⟩))
      refine T_ite (fun h7 => ?_) (fun h7 => ?_)
      · refine T_if1 (by decide +kernel) ?_
        refine T_let 191 (by decide +kernel) ?_
        refine T_if1 (by decide +kernel) ?_
        refine T_let 216 (by decide +kernel) ?_
        refine T_if1 (by decide +kernel) ?_
        refine T_get (by decide +kernel) (c := 217) (by decide +kernel) bdr_217 (by decide) c3 (fun x8 e9 b10 w11 => ?_)
        have l12 : z_ln 216 = 200 := by decide +kernel
        exact sj_X3_placeUnit_258_J142 hfu r0 s2 c3 f4 a4 a6 a7 a5 x8 (by omega) (by omega) (by omega) (by omega) (by omega) (2147483647 - a7) (by omega) (fun s' v5 v7 c' f' w5 w7 pg => ih s' v5 v7 c' f' w5 w7 (by omega)) hk
      · exact sj_X3_placeUnit_258_J142 hfu r0 s2 c3 f4 a4 a6 a7 a5 0 (by omega) (by omega) (by omega) (by omega) (by omega) (2147483647 - a7) (by omega) (fun s' v5 v7 c' f' w5 w7 pg => ih s' v5 v7 c' f' w5 w7 (by omega)) hk
theorem sf_X3_placeUnit_258 {fu : Nat} (hfu : 8589934592 ≤ fu) (r0 : z_M) (c0 : z_CI r0) (a1 : Int) (a2 : Int) (a3 : Int) (b1 : -2147483648 ≤ a1 ∧ a1 ≤ 2147483647) (b2 : -2147483648 ≤ a2 ∧ a2 ≤ 2147483647) (b3 : -2147483648 ≤ a3 ∧ a3 ≤ 2147483647) : z_T (fX3_placeUnit fu r0 258 a1 a2 a3) (P_X3_placeUnit_258 r0) := by
  refine T_of (fX3_placeUnit.eq_1 ..) ?_
  refine T_if1 (by decide +kernel) ?_
  refine T_let 259 (by decide +kernel) ?_
  refine T_if1 (by decide +kernel) ?_
  refine T_put (by decide +kernel) (c := 260) (by decide +kernel) bdr_260 (by omega) c0 (fun s1 e4 c2 g5 => ?_)
  have f3 := z_Fr.up (R := R_X3_placeUnit_258) z_Fr.rf g5 (fun _ => (⟨by decide, by decide⟩))
  refine T_if1 (by decide +kernel) ?_
  refine T_let 261 (by decide +kernel) ?_
  refine T_if1 (by decide +kernel) ?_
  refine T_put (by decide +kernel) (c := 262) (by decide +kernel) bdr_262 (by omega) c2 (fun s6 e9 c7 g10 => ?_)
  have f8 := z_Fr.up (R := R_X3_placeUnit_258) f3 g10 (fun _ => (⟨by decide, by decide⟩))
  refine T_if1 (by decide +kernel) ?_
  refine T_let 263 (by decide +kernel) ?_
  refine T_if1 (by decide +kernel) ?_
  refine T_let 220 (by decide +kernel) ?_
  refine T_if1 (by decide +kernel) ?_
  refine T_useI (sf_X5_widthOf_220 hfu s6 c7 a1 (by omega)) (fun v16 s11 hq => ?_)
  obtain ⟨c12, f13, ⟨x15, rfl, b17, b18⟩⟩ := hq
  refine T_vI ?_
  have f14 := z_Fr.tr (R := R_X3_placeUnit_258) f8 f13 (fun a b h => absurd h not_false)
  refine T_if1 (by decide +kernel) ?_
  refine T_put (by decide +kernel) (c := 264) (by decide +kernel) bdr_264 (by omega) c12 (fun s19 e22 c20 g23 => ?_)
  have f21 := z_Fr.up (R := R_X3_placeUnit_258) f14 g23 (fun _ => (⟨by decide, by decide⟩))
  refine T_if1 (by decide +kernel) ?_
  refine T_let 265 (by decide +kernel) ?_
  refine T_if1 (by decide +kernel) ?_
  refine T_let 220 (by decide +kernel) ?_
  refine T_if1 (by decide +kernel) ?_
  refine T_useI (sf_X5_spaceOf_220 hfu s19 c20 a1 (by omega)) (fun v29 s24 hq => ?_)
  obtain ⟨c25, f26, ⟨x28, rfl, b30, b31⟩⟩ := hq
  refine T_vI ?_
  have f27 := z_Fr.tr (R := R_X3_placeUnit_258) f21 f26 (fun a b h => absurd h not_false)
  refine T_if1 (by decide +kernel) ?_
  refine T_put (by decide +kernel) (c := 266) (by decide +kernel) bdr_266 (by omega) c25 (fun s32 e35 c33 g36 => ?_)
  have f34 := z_Fr.up (R := R_X3_placeUnit_258) f27 g36 (fun _ => (⟨by decide, by decide⟩))
  refine T_if1 (by decide +kernel) ?_
  refine T_let 191 (by decide +kernel) ?_
  refine T_if1 (by decide +kernel) ?_
  refine T_useI (sf_X10_isAcross_191 hfu s32 c33 a1 (by omega)) (fun v42 s37 hq => ?_)
  obtain ⟨c38, f39, ⟨x41, rfl, b43, b44⟩⟩ := hq
  refine T_vI ?_
  have f40 := z_Fr.tr (R := R_X3_placeUnit_258) f34 f39 (fun a b h => absurd h not_false)
  refine T_if1 (by decide +kernel) ?_
  refine T_let 191 (by decide +kernel) ?_
  refine T_if1 (by decide +kernel) ?_
  refine T_let 194 (by decide +kernel) ?_
  refine T_if1 (by decide +kernel) ?_
  refine T_get (by decide +kernel) (c := 195) (by decide +kernel) bdr_195 (by decide) c38 (fun x45 e46 b47 w48 => ?_)
  have l49 : z_ln 194 = 200 := by decide +kernel
  refine T_if1 (by decide +kernel) ?_
  refine T_let 191 (by decide +kernel) ?_
  refine T_if1 (by decide +kernel) ?_
  refine T_let 196 (by decide +kernel) ?_
  refine T_if1 (by decide +kernel) ?_
  refine T_get (by decide +kernel) (c := 197) (by decide +kernel) bdr_197 (by decide) c38 (fun x50 e51 b52 w53 => ?_)
  have l54 : z_ln 196 = 200 := by decide +kernel
  refine T_leq (fun x55 e56 => ?_)
  have w57 := z_wr e56
  refine T_if1 (by decide +kernel) ?_
  refine T_let 191 (by decide +kernel) ?_
  refine T_if1 (by decide +kernel) ?_
  refine T_let 194 (by decide +kernel) ?_
  refine T_if1 (by decide +kernel) ?_
  refine T_get (by decide +kernel) (c := 195) (by decide +kernel) bdr_195 (by decide) c38 (fun x58 e59 b60 w61 => ?_)
  have l62 : z_ln 194 = 200 := by decide +kernel
  refine sl_X3_placeUnit_258_L101 hfu r0 x41 x55 (by omega) (by omega) (fun s63 c64 f65 => ?_) fu s37 a3 x58 c38 f40 (by omega) (by omega) (by omega)
  exact T_ret ⟨c64, f65, rfl⟩
abbrev R_X0_padBehind_279 (a b : Int) : Prop := False
abbrev P_X0_padBehind_279 (r0 : z_M) : z_V → z_M → Prop := fun v s' => z_CI s' ∧ z_Fr R_X0_padBehind_279 r0 s' ∧ (∃ x, v = vI x ∧ -2147483648 ≤ x ∧ x ≤ 2147483647)
theorem sf_X0_padBehind_279 {fu : Nat} (hfu : 8589934592 ≤ fu) (r0 : z_M) (c0 : z_CI r0) (a1 : Int) (b1 : -2147483648 ≤ a1 ∧ a1 ≤ 2147483647) : z_T (fX0_padBehind fu r0 279 a1) (P_X0_padBehind_279 r0) := by
  refine T_of (fX0_padBehind.eq_1 ..) ?_
  refine T_if1 (by decide +kernel) ?_
  refine T_let 286 (by decide +kernel) ?_
  refine T_if1 (by decide +kernel) ?_
  refine T_get (by decide +kernel) (c := 287) (by decide +kernel) bdr_287 (by decide) c0 (fun x1 e2 b3 w4 => ?_)
  have l5 : z_ln 286 = 200 := by decide +kernel
  refine T_if1 (by decide +kernel) ?_
  refine T_let 286 (by decide +kernel) ?_
  refine T_if1 (by decide +kernel) ?_
  refine T_get (by decide +kernel) (c := 287) (by decide +kernel) bdr_287 (by decide) c0 (fun x6 e7 b8 w9 => ?_)
  have l10 : z_ln 286 = 200 := by decide +kernel
  refine T_if1 (by omega) ?_
  refine T_leq (fun x11 e12 => ?_)
  have w13 := z_wr e12
  refine T_leq (fun x14 e15 => ?_)
  have w16 := z_wr e15
  refine T_if1 (by decide +kernel) ?_
  refine T_let 290 (by decide +kernel) ?_
  refine T_if1 (by decide +kernel) ?_
  refine T_get (by decide +kernel) (c := 291) (by decide +kernel) bdr_291 (by decide) c0 (fun x17 e18 b19 w20 => ?_)
  have l21 : z_ln 290 = 200 := by decide +kernel
  refine T_leq (fun x22 e23 => ?_)
  have w24 := z_wr e23
  exact T_ret ⟨c0, z_Fr.rf, ⟨x22, rfl, by omega, by omega⟩⟩
abbrev R_X3_placeUnits_258 (a b : Int) : Prop := (260 ≤ a ∧ a ≤ 268)
abbrev P_X3_placeUnits_258 (r0 : z_M) : z_V → z_M → Prop := fun v s' => z_CI s' ∧ z_Fr R_X3_placeUnits_258 r0 s' ∧ (v = vN)
theorem rs_X3_placeUnit_258__X3_placeUnits_258 (a b : Int) (h : R_X3_placeUnit_258 a b) : R_X3_placeUnits_258 a b := (⟨by omega, by omega⟩)
theorem sj_X3_placeUnits_258_J293 {fu : Nat} (hfu : 8589934592 ≤ fu) (r0 s : z_M) (c : z_CI s) (f : z_Fr R_X3_placeUnits_258 r0 s) (a1 : Int) (a4 : Int) (a5 : Int) (a6 : Int) (a7 : Int) (a8 : Int) (b1 : -2147483648 ≤ a1 ∧ a1 ≤ 2147483647) (b4 : -2147483648 ≤ a4 ∧ a4 ≤ 2147483647) (b5 : -2147483648 ≤ a5 ∧ a5 ≤ 2147483647) (b6 : -2147483648 ≤ a6 ∧ a6 ≤ 2147483647) (b7 : -2147483648 ≤ a7 ∧ a7 ≤ 2147483647) (b8 : -2147483648 ≤ a8 ∧ a8 ≤ 2147483646) (M : Int) (pm : 2147483647 - a8 ≤ M) {r : z_M → Int → Int → Int → Int → z_O} {k : z_M → z_O} (hr : ∀ (s' : z_M) (v5 : Int) (v6 : Int) (v7 : Int) (v8 : Int), z_CI s' → z_Fr R_X3_placeUnits_258 r0 s' → (-2147483648 ≤ v5 ∧ v5 ≤ 2147483647) → (-2147483648 ≤ v6 ∧ v6 ≤ 2147483647) → (-2147483648 ≤ v7 ∧ v7 ≤ 2147483647) → (-2147483648 ≤ v8 ∧ v8 ≤ 2147483647) → (2147483647 - v8 < M) → z_T (r s' v5 v6 v7 v8) (P_X3_placeUnits_258 r0)) (hk : ∀ (s' : z_M), z_CI s' → z_Fr R_X3_placeUnits_258 r0 s' → z_T (k s') (P_X3_placeUnits_258 r0)) : z_T (fX3_placeUnits_J293 fu s 258 a1 a4 a5 a6 a7 a8 r k) (P_X3_placeUnits_258 r0) := by
  refine T_of (fX3_placeUnits_J293.eq_1 ..) ?_
  refine T_leq (fun x1 e2 => ?_)
  have w3 := z_wb e2
  exact hr s a5 a6 a7 x1 c f (by omega) (by omega) (by omega) (by omega) (by omega)
theorem sj_X3_placeUnits_258_J287 {fu : Nat} (hfu : 8589934592 ≤ fu) (r0 s : z_M) (c : z_CI s) (f : z_Fr R_X3_placeUnits_258 r0 s) (a1 : Int) (a4 : Int) (a5 : Int) (a6 : Int) (a8 : Int) (t0 : Int) (t1 : Int) (b1 : -2147483648 ≤ a1 ∧ a1 ≤ 2147483647) (b4 : -2147483648 ≤ a4 ∧ a4 ≤ 2147483647) (b5 : -2147483648 ≤ a5 ∧ a5 ≤ 2147483647) (b6 : -2147483648 ≤ a6 ∧ a6 ≤ 2147483647) (b8 : -2147483648 ≤ a8 ∧ a8 ≤ 2147483646) (d0 : -2147483648 ≤ t0 ∧ t0 ≤ 2147483647) (d1 : -2147483648 ≤ t1 ∧ t1 ≤ 2147483647) (M : Int) (pm : 2147483647 - a8 ≤ M) {r : z_M → Int → Int → Int → Int → z_O} {k : z_M → z_O} (hr : ∀ (s' : z_M) (v5 : Int) (v6 : Int) (v7 : Int) (v8 : Int), z_CI s' → z_Fr R_X3_placeUnits_258 r0 s' → (-2147483648 ≤ v5 ∧ v5 ≤ 2147483647) → (-2147483648 ≤ v6 ∧ v6 ≤ 2147483647) → (-2147483648 ≤ v7 ∧ v7 ≤ 2147483647) → (-2147483648 ≤ v8 ∧ v8 ≤ 2147483647) → (2147483647 - v8 < M) → z_T (r s' v5 v6 v7 v8) (P_X3_placeUnits_258 r0)) (hk : ∀ (s' : z_M), z_CI s' → z_Fr R_X3_placeUnits_258 r0 s' → z_T (k s') (P_X3_placeUnits_258 r0)) : z_T (fX3_placeUnits_J287 fu s 258 a1 a4 a5 a6 a8 t0 t1 r k) (P_X3_placeUnits_258 r0) := by
  refine T_of (fX3_placeUnits_J287.eq_1 ..) ?_
  refine T_leq (fun x1 e2 => ?_)
  have w3 := z_wr e2
  refine T_leq (fun x4 e5 => ?_)
  have w6 := z_wb e5
  exact sj_X3_placeUnits_258_J293 hfu r0 s c f a1 a4 x4 a6 x1 a8 (by omega) (by omega) (by omega) (by omega) (by omega) (by omega) M (by omega) (fun s' v5 v6 v7 v8 c' f' w5 w6 w7 w8 pg => hr s' v5 v6 v7 v8 c' f' w5 w6 w7 w8 (by omega)) hk
theorem sj_X3_placeUnits_258_J262 {fu : Nat} (hfu : 8589934592 ≤ fu) (r0 s : z_M) (c : z_CI s) (f : z_Fr R_X3_placeUnits_258 r0 s) (a1 : Int) (a4 : Int) (a5 : Int) (a6 : Int) (a7 : Int) (a8 : Int) (b1 : -2147483648 ≤ a1 ∧ a1 ≤ 2147483647) (b4 : -2147483648 ≤ a4 ∧ a4 ≤ 2147483647) (b5 : -2147483648 ≤ a5 ∧ a5 ≤ 2147483647) (b6 : -2147483648 ≤ a6 ∧ a6 ≤ 2147483647) (b7 : -2147483648 ≤ a7 ∧ a7 ≤ 2147483647) (b8 : -2147483648 ≤ a8 ∧ a8 ≤ 2147483646) (M : Int) (pm : 2147483647 - a8 ≤ M) {r : z_M → Int → Int → Int → Int → z_O} {k : z_M → z_O} (hr : ∀ (s' : z_M) (v5 : Int) (v6 : Int) (v7 : Int) (v8 : Int), z_CI s' → z_Fr R_X3_placeUnits_258 r0 s' → (-2147483648 ≤ v5 ∧ v5 ≤ 2147483647) → (-2147483648 ≤ v6 ∧ v6 ≤ 2147483647) → (-2147483648 ≤ v7 ∧ v7 ≤ 2147483647) → (-2147483648 ≤ v8 ∧ v8 ≤ 2147483647) → (2147483647 - v8 < M) → z_T (r s' v5 v6 v7 v8) (P_X3_placeUnits_258 r0)) (hk : ∀ (s' : z_M), z_CI s' → z_Fr R_X3_placeUnits_258 r0 s' → z_T (k s') (P_X3_placeUnits_258 r0)) : z_T (fX3_placeUnits_J262 fu s 258 a1 a4 a5 a6 a7 a8 r k) (P_X3_placeUnits_258 r0) := by
  refine T_of (fX3_placeUnits_J262.eq_1 ..) ?_
  refine T_if1 (by decide +kernel) ?_
  refine T_useI (sf_X3_hasGapBehind_258 hfu s c a8 (by omega)) (fun v6 s1 hq => ?_)
  obtain ⟨c2, f3, ⟨x5, rfl, b7, b8⟩⟩ := hq
  refine T_vI ?_
  have f4 := z_Fr.tr (R := R_X3_placeUnits_258) f f3 (fun a b h => absurd h not_false)
  refine T_ite (fun h9 => ?_) (fun h9 => ?_)
  · exact sj_X3_placeUnits_258_J293 hfu r0 s1 c2 f4 a1 a4 a5 a6 a7 a8 (by omega) (by omega) (by omega) (by omega) (by omega) (by omega) M (by omega) (fun s' v5 v6 v7 v8 c' f' w5 w6 w7 w8 pg => hr s' v5 v6 v7 v8 c' f' w5 w6 w7 w8 (by omega)) hk
  · refine T_ite (fun h10 => ?_) (fun h10 => ?_)
    · exact sj_X3_placeUnits_258_J287 hfu r0 s1 c2 f4 a1 a4 a5 a6 a8 a7 a4 (by omega) (by omega) (by omega) (by omega) (by omega) (by omega) (by omega) M (by omega) (fun s' v5 v6 v7 v8 c' f' w5 w6 w7 w8 pg => hr s' v5 v6 v7 v8 c' f' w5 w6 w7 w8 (by omega)) hk
    · refine T_leq (fun x11 e12 => ?_)
      have w13 := z_wr e12
      exact sj_X3_placeUnits_258_J287 hfu r0 s1 c2 f4 a1 a4 a5 a6 a8 a7 x11 (by omega) (by omega) (by omega) (by omega) (by omega) (by omega) (by omega) M (by omega) (fun s' v5 v6 v7 v8 c' f' w5 w6 w7 w8 pg => hr s' v5 v6 v7 v8 c' f' w5 w6 w7 w8 (by omega)) hk
theorem sj_X3_placeUnits_258_J184 {fu : Nat} (hfu : 8589934592 ≤ fu) (r0 s : z_M) (c : z_CI s) (f : z_Fr R_X3_placeUnits_258 r0 s) (a1 : Int) (a4 : Int) (a5 : Int) (a6 : Int) (a8 : Int) (a9 : Int) (a10 : Int) (t0 : Int) (t1 : Int) (b1 : -2147483648 ≤ a1 ∧ a1 ≤ 2147483647) (b4 : -2147483648 ≤ a4 ∧ a4 ≤ 2147483647) (b5 : -2147483648 ≤ a5 ∧ a5 ≤ 2147483647) (b6 : -2147483648 ≤ a6 ∧ a6 ≤ 2147483647) (b8 : -2147483648 ≤ a8 ∧ a8 ≤ 2147483646) (b9 : -2147483648 ≤ a9 ∧ a9 ≤ 2147483647) (b10 : -2147483648 ≤ a10 ∧ a10 ≤ 2147483647) (d0 : -2147483648 ≤ t0 ∧ t0 ≤ 2147483647) (d1 : -2147483648 ≤ t1 ∧ t1 ≤ 2147483647) (M : Int) (pm : 2147483647 - a8 ≤ M) {r : z_M → Int → Int → Int → Int → z_O} {k : z_M → z_O} (hr : ∀ (s' : z_M) (v5 : Int) (v6 : Int) (v7 : Int) (v8 : Int), z_CI s' → z_Fr R_X3_placeUnits_258 r0 s' → (-2147483648 ≤ v5 ∧ v5 ≤ 2147483647) → (-2147483648 ≤ v6 ∧ v6 ≤ 2147483647) → (-2147483648 ≤ v7 ∧ v7 ≤ 2147483647) → (-2147483648 ≤ v8 ∧ v8 ≤ 2147483647) → (2147483647 - v8 < M) → z_T (r s' v5 v6 v7 v8) (P_X3_placeUnits_258 r0)) (hk : ∀ (s' : z_M), z_CI s' → z_Fr R_X3_placeUnits_258 r0 s' → z_T (k s') (P_X3_placeUnits_258 r0)) : z_T (fX3_placeUnits_J184 fu s 258 a1 a4 a5 a6 a8 a9 a10 t0 t1 r k) (P_X3_placeUnits_258 r0) := by
  refine T_of (fX3_placeUnits_J184.eq_1 ..) ?_
  refine T_leq (fun x1 e2 => ?_)
  have w3 := z_wr e2
  refine T_if1 (by decide +kernel) ?_
  refine T_useN (sf_X3_placeUnit_258 hfu s c a8 a1 x1 (by omega) (by omega) (by omega)) (fun v9 s4 hq => ?_)
  obtain ⟨c5, f6, rfl⟩ := hq
  refine T_vN ?_
  have f7 := z_Fr.tr (R := R_X3_placeUnits_258) f f6 rs_X3_placeUnit_258__X3_placeUnits_258
  refine T_if1 (by decide +kernel) ?_
  refine T_let 220 (by decide +kernel) ?_
  refine T_if1 (by decide +kernel) ?_
  refine T_useI (sf_X5_widthOf_220 hfu s4 c5 a8 (by omega)) (fun v17 s12 hq => ?_)
  obtain ⟨c13, f14, ⟨x16, rfl, b18, b19⟩⟩ := hq
  refine T_vI ?_
  have f15 := z_Fr.tr (R := R_X3_placeUnits_258) f7 f14 (fun a b h => absurd h not_false)
  refine T_if1 (by decide +kernel) ?_
  refine T_let 220 (by decide +kernel) ?_
  refine T_if1 (by decide +kernel) ?_
  refine T_useI (sf_X5_spaceOf_220 hfu s12 c13 a8 (by omega)) (fun v25 s20 hq => ?_)
  obtain ⟨c21, f22, ⟨x24, rfl, b26, b27⟩⟩ := hq
  refine T_vI ?_
  have f23 := z_Fr.tr (R := R_X3_placeUnits_258) f15 f22 (fun a b h => absurd h not_false)
  refine T_leq (fun x28 e29 => ?_)
  have w30 := z_wr e29
  refine T_leq (fun x31 e32 => ?_)
  have w33 := z_wr e32
  refine T_leq (fun x34 e35 => ?_)
  have w36 := z_wr e35
  refine T_ite (fun h37 => ?_) (fun h37 => ?_)
  · exact sj_X3_placeUnits_258_J262 hfu r0 s20 c21 f23 a1 a4 a5 a6 x34 a8 (by omega) (by omega) (by omega) (by omega) (by omega) (by omega) M (by omega) (fun s' v5 v6 v7 v8 c' f' w5 w6 w7 w8 pg => hr s' v5 v6 v7 v8 c' f' w5 w6 w7 w8 (by omega)) hk
  · refine T_if1 (by decide +kernel) ?_
    refine T_let 279 (by decide +kernel) ?_
    refine T_if1 (by decide +kernel) ?_
    refine T_let 282 (by decide +kernel) ?_
    refine T_if1 (by decide +kernel) ?_
    refine T_get (by decide +kernel) (c := 283) (by decide +kernel) bdr_283 (by decide) c21 (fun x38 e39 b40 w41 => ?_)
    have l42 : z_ln 282 = 200 := by decide +kernel
    refine T_ite (fun h43 => ?_) (fun h43 => ?_)
    · exact sj_X3_placeUnits_258_J262 hfu r0 s20 c21 f23 a1 a4 a5 a6 x34 a8 (by omega) (by omega) (by omega) (by omega) (by omega) (by omega) M (by omega) (fun s' v5 v6 v7 v8 c' f' w5 w6 w7 w8 pg => hr s' v5 v6 v7 v8 c' f' w5 w6 w7 w8 (by omega)) hk
    · refine T_if1 (by decide +kernel) ?_
      refine T_let 279 (by decide +kernel) ?_
      refine T_if1 (by decide +kernel) ?_
      refine T_useI (sf_X0_padBehind_279 hfu s20 c21 a6 (by omega)) (fun v49 s44 hq => ?_)
      obtain ⟨c45, f46, ⟨x48, rfl, b50, b51⟩⟩ := hq
      refine T_vI ?_
      have f47 := z_Fr.tr (R := R_X3_placeUnits_258) f23 f46 (fun a b h => absurd h not_false)
      refine T_leq (fun x52 e53 => ?_)
      have w54 := z_wr e53
      refine T_leq (fun x55 e56 => ?_)
      have w57 := z_wb e56
      exact sj_X3_placeUnits_258_J262 hfu r0 s44 c45 f47 a1 a4 a5 x55 x52 a8 (by omega) (by omega) (by omega) (by omega) (by omega) (by omega) M (by omega) (fun s' v5 v6 v7 v8 c' f' w5 w6 w7 w8 pg => hr s' v5 v6 v7 v8 c' f' w5 w6 w7 w8 (by omega)) hk
theorem sj_X3_placeUnits_258_J183 {fu : Nat} (hfu : 8589934592 ≤ fu) (r0 s : z_M) (c : z_CI s) (f : z_Fr R_X3_placeUnits_258 r0 s) (a1 : Int) (a4 : Int) (a5 : Int) (a6 : Int) (a8 : Int) (a9 : Int) (a10 : Int) (t0 : Int) (b1 : -2147483648 ≤ a1 ∧ a1 ≤ 2147483647) (b4 : -2147483648 ≤ a4 ∧ a4 ≤ 2147483647) (b5 : -2147483648 ≤ a5 ∧ a5 ≤ 2147483647) (b6 : -2147483648 ≤ a6 ∧ a6 ≤ 2147483647) (b8 : -2147483648 ≤ a8 ∧ a8 ≤ 2147483646) (b9 : -2147483648 ≤ a9 ∧ a9 ≤ 2147483647) (b10 : -2147483648 ≤ a10 ∧ a10 ≤ 2147483647) (d0 : -2147483648 ≤ t0 ∧ t0 ≤ 2147483647) (M : Int) (pm : 2147483647 - a8 ≤ M) {r : z_M → Int → Int → Int → Int → z_O} {k : z_M → z_O} (hr : ∀ (s' : z_M) (v5 : Int) (v6 : Int) (v7 : Int) (v8 : Int), z_CI s' → z_Fr R_X3_placeUnits_258 r0 s' → (-2147483648 ≤ v5 ∧ v5 ≤ 2147483647) → (-2147483648 ≤ v6 ∧ v6 ≤ 2147483647) → (-2147483648 ≤ v7 ∧ v7 ≤ 2147483647) → (-2147483648 ≤ v8 ∧ v8 ≤ 2147483647) → (2147483647 - v8 < M) → z_T (r s' v5 v6 v7 v8) (P_X3_placeUnits_258 r0)) (hk : ∀ (s' : z_M), z_CI s' → z_Fr R_X3_placeUnits_258 r0 s' → z_T (k s') (P_X3_placeUnits_258 r0)) : z_T (fX3_placeUnits_J183 fu s 258 a1 a4 a5 a6 a8 a9 a10 t0 r k) (P_X3_placeUnits_258 r0) := by
  refine T_of (fX3_placeUnits_J183.eq_1 ..) ?_
  exact sj_X3_placeUnits_258_J184 hfu r0 s c f a1 a4 a5 a6 a8 a9 a10 t0 0 (by omega) (by omega) (by omega) (by omega) (by omega) (by omega) (by omega) (by omega) (by omega) M (by omega) (fun s' v5 v6 v7 v8 c' f' w5 w6 w7 w8 pg => hr s' v5 v6 v7 v8 c' f' w5 w6 w7 w8 (by omega)) hk
theorem sj_X3_placeUnits_258_J138 {fu : Nat} (hfu : 8589934592 ≤ fu) (r0 s : z_M) (c : z_CI s) (f : z_Fr R_X3_placeUnits_258 r0 s) (a1 : Int) (a4 : Int) (a5 : Int) (a6 : Int) (a7 : Int) (a8 : Int) (a9 : Int) (t0 : Int) (b1 : -2147483648 ≤ a1 ∧ a1 ≤ 2147483647) (b4 : -2147483648 ≤ a4 ∧ a4 ≤ 2147483647) (b5 : -2147483648 ≤ a5 ∧ a5 ≤ 2147483647) (b6 : -2147483648 ≤ a6 ∧ a6 ≤ 2147483647) (b7 : -2147483648 ≤ a7 ∧ a7 ≤ 2147483647) (b8 : -2147483648 ≤ a8 ∧ a8 ≤ 2147483646) (b9 : -2147483648 ≤ a9 ∧ a9 ≤ 2147483647) (d0 : -2147483648 ≤ t0 ∧ t0 ≤ 2147483647) (M : Int) (pm : 2147483647 - a8 ≤ M) {r : z_M → Int → Int → Int → Int → z_O} {k : z_M → z_O} (hr : ∀ (s' : z_M) (v5 : Int) (v6 : Int) (v7 : Int) (v8 : Int), z_CI s' → z_Fr R_X3_placeUnits_258 r0 s' → (-2147483648 ≤ v5 ∧ v5 ≤ 2147483647) → (-2147483648 ≤ v6 ∧ v6 ≤ 2147483647) → (-2147483648 ≤ v7 ∧ v7 ≤ 2147483647) → (-2147483648 ≤ v8 ∧ v8 ≤ 2147483647) → (2147483647 - v8 < M) → z_T (r s' v5 v6 v7 v8) (P_X3_placeUnits_258 r0)) (hk : ∀ (s' : z_M), z_CI s' → z_Fr R_X3_placeUnits_258 r0 s' → z_T (k s') (P_X3_placeUnits_258 r0)) : z_T (fX3_placeUnits_J138 fu s 258 a1 a4 a5 a6 a7 a8 a9 t0 r k) (P_X3_placeUnits_258 r0) := by
  refine T_of (fX3_placeUnits_J138.eq_1 ..) ?_
  refine T_leq (fun x1 e2 => ?_)
  have w3 := z_wr e2
  refine T_ite (fun h4 => ?_) (fun h4 => ?_)
  · exact sj_X3_placeUnits_258_J183 hfu r0 s c f a1 a4 a5 a6 a8 a9 t0 x1 (by omega) (by omega) (by omega) (by omega) (by omega) (by omega) (by omega) (by omega) M (by omega) (fun s' v5 v6 v7 v8 c' f' w5 w6 w7 w8 pg => hr s' v5 v6 v7 v8 c' f' w5 w6 w7 w8 (by omega)) hk
  · refine T_if1 (by decide +kernel) ?_
    refine T_let 279 (by decide +kernel) ?_
    refine T_if1 (by decide +kernel) ?_
    refine T_let 280 (by decide +kernel) ?_
    refine T_if1 (by decide +kernel) ?_
    refine T_get (by decide +kernel) (c := 281) (by decide +kernel) bdr_281 (by decide) c (fun x5 e6 b7 w8 => ?_)
    have l9 : z_ln 280 = 200 := by decide +kernel
    refine T_ite (fun h10 => ?_) (fun h10 => ?_)
    · exact sj_X3_placeUnits_258_J183 hfu r0 s c f a1 a4 a5 a6 a8 a9 t0 x1 (by omega) (by omega) (by omega) (by omega) (by omega) (by omega) (by omega) (by omega) M (by omega) (fun s' v5 v6 v7 v8 c' f' w5 w6 w7 w8 pg => hr s' v5 v6 v7 v8 c' f' w5 w6 w7 w8 (by omega)) hk
    · refine T_if1 (by decide +kernel) ?_
      refine T_let 279 (by decide +kernel) ?_
      refine T_if1 (by decide +kernel) ?_
      refine T_useI (sf_X0_padAhead_279 hfu s c a6 (by omega)) (fun v16 s11 hq => ?_)
      obtain ⟨c12, f13, ⟨x15, rfl, b17, b18⟩⟩ := hq
      refine T_vI ?_
      have f14 := z_Fr.tr (R := R_X3_placeUnits_258) f f13 (fun a b h => absurd h not_false)
      exact sj_X3_placeUnits_258_J184 hfu r0 s11 c12 f14 a1 a4 a5 a6 a8 a9 t0 x1 x15 (by omega) (by omega) (by omega) (by omega) (by omega) (by omega) (by omega) (by omega) (by omega) M (by omega) (fun s' v5 v6 v7 v8 c' f' w5 w6 w7 w8 pg => hr s' v5 v6 v7 v8 c' f' w5 w6 w7 w8 (by omega)) hk
theorem sj_X3_placeUnits_258_J107 {fu : Nat} (hfu : 8589934592 ≤ fu) (r0 s : z_M) (c : z_CI s) (f : z_Fr R_X3_placeUnits_258 r0 s) (a1 : Int) (a4 : Int) (a5 : Int) (a6 : Int) (a7 : Int) (a8 : Int) (t0 : Int) (b1 : -2147483648 ≤ a1 ∧ a1 ≤ 2147483647) (b4 : -2147483648 ≤ a4 ∧ a4 ≤ 2147483647) (b5 : -2147483648 ≤ a5 ∧ a5 ≤ 2147483647) (b6 : -2147483648 ≤ a6 ∧ a6 ≤ 2147483647) (b7 : -2147483648 ≤ a7 ∧ a7 ≤ 2147483647) (b8 : -2147483648 ≤ a8 ∧ a8 ≤ 2147483646) (d0 : 0 ≤ t0 ∧ t0 ≤ 1) (M : Int) (pm : 2147483647 - a8 ≤ M) {r : z_M → Int → Int → Int → Int → z_O} {k : z_M → z_O} (hr : ∀ (s' : z_M) (v5 : Int) (v6 : Int) (v7 : Int) (v8 : Int), z_CI s' → z_Fr R_X3_placeUnits_258 r0 s' → (-2147483648 ≤ v5 ∧ v5 ≤ 2147483647) → (-2147483648 ≤ v6 ∧ v6 ≤ 2147483647) → (-2147483648 ≤ v7 ∧ v7 ≤ 2147483647) → (-2147483648 ≤ v8 ∧ v8 ≤ 2147483647) → (2147483647 - v8 < M) → z_T (r s' v5 v6 v7 v8) (P_X3_placeUnits_258 r0)) (hk : ∀ (s' : z_M), z_CI s' → z_Fr R_X3_placeUnits_258 r0 s' → z_T (k s') (P_X3_placeUnits_258 r0)) : z_T (fX3_placeUnits_J107 fu s 258 a1 a4 a5 a6 a7 a8 t0 r k) (P_X3_placeUnits_258 r0) := by
  refine T_of (fX3_placeUnits_J107.eq_1 ..) ?_
  refine T_if1 (by decide +kernel) ?_
  refine T_let 191 (by decide +kernel) ?_
  refine T_if1 (by decide +kernel) ?_
  refine T_let 192 (by decide +kernel) ?_
  refine T_if1 (by decide +kernel) ?_
  refine T_get (by decide +kernel) (c := 193) (by decide +kernel) bdr_193 (by decide) c (fun x1 e2 b3 w4 => ?_)
  have l5 : z_ln 192 = 200 := by decide +kernel
  refine T_ite (fun h6 => ?_) (fun h6 => ?_)
  · exact sj_X3_placeUnits_258_J138 hfu r0 s c f a1 a4 a5 a6 a7 a8 t0 0 (by omega) (by omega) (by omega) (by omega) (by omega) (by omega) (by omega) (by omega) M (by omega) (fun s' v5 v6 v7 v8 c' f' w5 w6 w7 w8 pg => hr s' v5 v6 v7 v8 c' f' w5 w6 w7 w8 (by omega)) hk
  · refine T_if1 (by decide +kernel) ?_
    refine T_let 220 (by decide +kernel) ?_
    refine T_if1 (by decide +kernel) ?_
    refine T_useI (sf_X5_spaceOf_220 hfu s c a8 (by omega)) (fun v12 s7 hq => ?_)
    obtain ⟨c8, f9, ⟨x11, rfl, b13, b14⟩⟩ := hq
    refine T_vI ?_
    have f10 := z_Fr.tr (R := R_X3_placeUnits_258) f f9 (fun a b h => absurd h not_false)
    exact sj_X3_placeUnits_258_J138 hfu r0 s7 c8 f10 a1 a4 a5 a6 a7 a8 t0 x11 (by omega) (by omega) (by omega) (by omega) (by omega) (by omega) (by omega) (by omega) M (by omega) (fun s' v5 v6 v7 v8 c' f' w5 w6 w7 w8 pg => hr s' v5 v6 v7 v8 c' f' w5 w6 w7 w8 (by omega)) hk
theorem sl_X3_placeUnits_258_L67 {fu : Nat} (hfu : 8589934592 ≤ fu) (r0 : z_M) (a1 : Int) (a4 : Int) (b1 : -2147483648 ≤ a1 ∧ a1 ≤ 2147483647) (b4 : -2147483648 ≤ a4 ∧ a4 ≤ 2147483647) {k : z_M → z_O} (hk : ∀ (s' : z_M), z_CI s' → z_Fr R_X3_placeUnits_258 r0 s' → z_T (k s') (P_X3_placeUnits_258 r0)) : ∀ (F : Nat) (s : z_M) (a5 : Int) (a6 : Int) (a7 : Int) (a8 : Int), z_CI s → z_Fr R_X3_placeUnits_258 r0 s → (-2147483648 ≤ a5 ∧ a5 ≤ 2147483647) → (-2147483648 ≤ a6 ∧ a6 ≤ 2147483647) → (-2147483648 ≤ a7 ∧ a7 ≤ 2147483647) → (-2147483648 ≤ a8 ∧ a8 ≤ 2147483647) → (2147483647 - a8 < (F : Int)) → z_T (fX3_placeUnits_L67 fu 258 a1 a4 F s a5 a6 a7 a8 k) (P_X3_placeUnits_258 r0) := by
  intro F
  induction F with
  | zero =>
    intro s a5 a6 a7 a8 c f b5 b6 b7 b8 hm
    exfalso; omega
  | succ F ih =>
    intro s a5 a6 a7 a8 c f b5 b6 b7 b8 hm
    refine T_of (fX3_placeUnits_L67.eq_2 ..) ?_
    refine T_if1 (by decide +kernel) ?_
    refine T_let 240 (by decide +kernel) ?_
    refine T_if1 (by decide +kernel) ?_
    refine T_let 247 (by decide +kernel) ?_
    refine T_leq (fun x1 e2 => ?_)
    have w3 := z_wr e2
    refine T_if1 (by decide +kernel) ?_
    refine T_get (by decide +kernel) (c := 248) (by decide +kernel) bdr_248 (by decide) c (fun x4 e5 b6 w7 => ?_)
    have l8 : z_ln 247 = 201 := by decide +kernel
    refine T_ite (fun h9 => ?_) (fun h9 => ?_)
    · exact hk s c f
    · refine T_if1 (by decide +kernel) ?_
      refine T_let 191 (by decide +kernel) ?_
      refine T_if1 (by decide +kernel) ?_
      refine T_let 192 (by decide +kernel) ?_
      refine T_if1 (by decide +kernel) ?_
      refine T_get (by decide +kernel) (c := 193) (by decide +kernel) bdr_193 (by decide) c (fun x10 e11 b12 w13 => ?_)
      have l14 : z_ln 192 = 200 := by decide +kernel
      refine T_ite (fun h15 => ?_) (fun h15 => ?_)
      · exact sj_X3_placeUnits_258_J107 hfu r0 s c f a1 a4 a5 a6 a7 a8 0 (by omega) (by omega) (by omega) (by omega) (by omega) (by omega) (by omega) (2147483647 - a8) (by omega) (fun s' v5 v6 v7 v8 c' f' w5 w6 w7 w8 pg => ih s' v5 v6 v7 v8 c' f' w5 w6 w7 w8 (by omega)) hk
      · exact sj_X3_placeUnits_258_J107 hfu r0 s c f a1 a4 a5 a6 a7 a8 1 (by omega) (by omega) (by omega) (by omega) (by omega) (by omega) (by omega) (2147483647 - a8) (by omega) (fun s' v5 v6 v7 v8 c' f' w5 w6 w7 w8 pg => ih s' v5 v6 v7 v8 c' f' w5 w6 w7 w8 (by omega)) hk
theorem sj_X3_placeUnits_258_J39 {fu : Nat} (hfu : 8589934592 ≤ fu) (r0 s : z_M) (c : z_CI s) (f : z_Fr R_X3_placeUnits_258 r0 s) (a1 : Int) (a4 : Int) (t0 : Int) (b1 : -2147483648 ≤ a1 ∧ a1 ≤ 2147483647) (b4 : -2147483648 ≤ a4 ∧ a4 ≤ 2147483647) (d0 : -2147483648 ≤ t0 ∧ t0 ≤ 2147483647) : z_T (fX3_placeUnits_J39 fu s 258 a1 a4 t0) (P_X3_placeUnits_258 r0) := by
  refine T_of (fX3_placeUnits_J39.eq_1 ..) ?_
  refine T_if1 (by decide +kernel) ?_
  refine T_let 277 (by decide +kernel) ?_
  refine T_if1 (by decide +kernel) ?_
  refine T_get (by decide +kernel) (c := 278) (by decide +kernel) bdr_278 (by decide) c (fun x1 e2 b3 w4 => ?_)
  have l5 : z_ln 277 = 201 := by decide +kernel
  refine T_if1 (by decide +kernel) ?_
  refine T_let 240 (by decide +kernel) ?_
  refine T_if1 (by decide +kernel) ?_
  refine T_let 247 (by decide +kernel) ?_
  refine T_if1 (by decide +kernel) ?_
  refine T_get (by decide +kernel) (c := 248) (by decide +kernel) bdr_248 (by decide) c (fun x6 e7 b8 w9 => ?_)
  have l10 : z_ln 247 = 201 := by decide +kernel
  refine sl_X3_placeUnits_258_L67 hfu r0 a1 a4 (by omega) (by omega) (fun s11 c12 f13 => ?_) fu s t0 x1 0 x6 c f (by omega) (by omega) (by omega) (by omega) (by omega)
  exact T_ret ⟨c12, f13, rfl⟩
theorem sj_X3_placeUnits_258_J26 {fu : Nat} (hfu : 8589934592 ≤ fu) (r0 s : z_M) (c : z_CI s) (f : z_Fr R_X3_placeUnits_258 r0 s) (a1 : Int) (a2 : Int) (a3 : Int) (t0 : Int) (b1 : -2147483648 ≤ a1 ∧ a1 ≤ 2147483647) (b2 : -2147483648 ≤ a2 ∧ a2 ≤ 2147483647) (b3 : -2147483648 ≤ a3 ∧ a3 ≤ 2147483647) (d0 : -2147483648 ≤ t0 ∧ t0 ≤ 2147483647) : z_T (fX3_placeUnits_J26 fu s 258 a1 a2 a3 t0) (P_X3_placeUnits_258 r0) := by
  refine T_of (fX3_placeUnits_J26.eq_1 ..) ?_
  refine T_ite (fun h1 => ?_) (fun h1 => ?_)
  · exact sj_X3_placeUnits_258_J39 hfu r0 s c f a1 t0 0 (by omega) (by omega) (by omega)
  · refine T_if1 (by omega) ?_
    refine T_leq (fun x2 e3 => ?_)
    have w4 := z_tmb e3 (by omega)
    exact sj_X3_placeUnits_258_J39 hfu r0 s c f a1 t0 x2 (by omega) (by omega) (by omega)
theorem sf_X3_placeUnits_258 {fu : Nat} (hfu : 8589934592 ≤ fu) (r0 : z_M) (c0 : z_CI r0) (a1 : Int) (b1 : -2147483648 ≤ a1 ∧ a1 ≤ 2147483647) : z_T (fX3_placeUnits fu r0 258 a1) (P_X3_placeUnits_258 r0) := by
  refine T_of (fX3_placeUnits.eq_1 ..) ?_
  refine T_if1 (by decide +kernel) ?_
  refine T_let 271 (by decide +kernel) ?_
  refine T_if1 (by decide +kernel) ?_
  refine T_get (by decide +kernel) (c := 272) (by decide +kernel) bdr_272 (by decide) c0 (fun x1 e2 b3 w4 => ?_)
  have l5 : z_ln 271 = 200 := by decide +kernel
  refine T_if1 (by decide +kernel) ?_
  refine T_useI (sf_X3_restToShare_258 hfu r0 c0 a1 (by omega)) (fun v11 s6 hq => ?_)
  obtain ⟨c7, f8, ⟨x10, rfl, b12, b13⟩⟩ := hq
  refine T_vI ?_
  have f9 := z_Fr.tr (R := R_X3_placeUnits_258) z_Fr.rf f8 (fun a b h => absurd h not_false)
  refine T_ite (fun h14 => ?_) (fun h14 => ?_)
  · exact sj_X3_placeUnits_258_J26 hfu r0 s6 c7 f9 a1 x1 x10 0 (by omega) (by omega) (by omega) (by omega)
  · refine T_if1 (by omega) ?_
    refine T_leq (fun x15 e16 => ?_)
    have w17 := z_wr e16
    exact sj_X3_placeUnits_258_J26 hfu r0 s6 c7 f9 a1 x1 x10 x15 (by omega) (by omega) (by omega) (by omega)
