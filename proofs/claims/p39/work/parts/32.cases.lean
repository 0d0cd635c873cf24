set_option maxRecDepth 20000 in
theorem ml_RL_156 : Cond.methodLink RL 156 yL_fill ∈ bigW := bt3 133 rfl rfl
set_option maxRecDepth 20000 in
theorem mh_L_fill : MIh yL_fill cL_fill 5 (some .int) [(0, 11, 14, 19), (0, 11, 18, 21)] 4 := ⟨bt3 135 rfl rfl, bt1 0 rfl rfl, bt3 134 rfl rfl, by decide, by decide, by decide +kernel⟩
set_option maxRecDepth 20000 in
theorem ml_RL_161 : Cond.methodLink RL 161 yX2_fill ∈ bigW := bt4 228 rfl rfl
set_option maxRecDepth 20000 in
theorem mi_X2_fill : MIv RX2 yX2_fill cX2_fill 4 (some .int) 2 := ⟨⟨bt4 231 rfl rfl, bt1 6 rfl rfl, by decide, by decide, by decide +kernel⟩, bt4 229 rfl rfl, bt4 230 rfl rfl⟩
set_option maxRecDepth 20000 in
theorem ml_RL_162 : Cond.methodLink RL 162 yL_empty ∈ bigW := bt3 146 rfl rfl
set_option maxRecDepth 20000 in
theorem mh_L_empty : MIh yL_empty cL_empty 4 (some .int) [(0, 10, 13, 19)] 3 := ⟨bt3 148 rfl rfl, bt1 0 rfl rfl, bt3 147 rfl rfl, by decide, by decide, by decide +kernel⟩
set_option maxRecDepth 20000 in
theorem ml_RL_165 : Cond.methodLink RL 165 yX2_empty ∈ bigW := bt5 8 rfl rfl
set_option maxRecDepth 20000 in
theorem mi_X2_empty : MIv RX2 yX2_empty cX2_empty 3 (some .int) 1 := ⟨⟨bt5 11 rfl rfl, bt1 6 rfl rfl, by decide, by decide, by decide +kernel⟩, bt5 9 rfl rfl, bt5 10 rfl rfl⟩
set_option maxRecDepth 20000 in
theorem ml_RL_166 : Cond.methodLink RL 166 yL_fillMaybe ∈ bigW := bt3 153 rfl rfl
set_option maxRecDepth 20000 in
theorem mh_L_fillMaybe : MIh yL_fillMaybe cL_fillMaybe 6 (some .int) [(0, 13, 16, 19), (0, 13, 20, 21)] 5 := ⟨bt3 155 rfl rfl, bt1 0 rfl rfl, bt3 154 rfl rfl, by decide, by decide, by decide +kernel⟩
set_option maxRecDepth 20000 in
theorem ml_RL_169 : Cond.methodLink RL 169 yX2_fillMaybe ∈ bigW := bt5 12 rfl rfl
set_option maxRecDepth 20000 in
theorem mi_X2_fillMaybe : MIv RX2 yX2_fillMaybe cX2_fillMaybe 4 (some .int) 3 := ⟨⟨bt5 15 rfl rfl, bt1 6 rfl rfl, by decide, by decide, by decide +kernel⟩, bt5 13 rfl rfl, bt5 14 rfl rfl⟩
set_option maxRecDepth 20000 in
theorem ml_RL_170 : Cond.methodLink RL 170 yL_copy ∈ bigW := bt3 160 rfl rfl
set_option maxRecDepth 20000 in
theorem mh_L_copy : MIh yL_copy cL_copy 5 (some .int) [(0, 11, 14, 19)] 4 := ⟨bt3 162 rfl rfl, bt1 0 rfl rfl, bt3 161 rfl rfl, by decide, by decide, by decide +kernel⟩
set_option maxRecDepth 20000 in
theorem ml_RL_172 : Cond.methodLink RL 172 yX2_copy ∈ bigW := bt5 20 rfl rfl
set_option maxRecDepth 20000 in
theorem ml_RL_173 : Cond.methodLink RL 173 yL_map ∈ bigW := bt3 167 rfl rfl
set_option maxRecDepth 20000 in
theorem mh_L_map : MIh yL_map cL_map 7 (some .int) [(0, 15, 18, 19), (0, 15, 22, 21)] 6 := ⟨bt3 169 rfl rfl, bt1 0 rfl rfl, bt3 168 rfl rfl, by decide, by decide, by decide +kernel⟩
set_option maxRecDepth 20000 in
theorem ml_RL_176 : Cond.methodLink RL 176 yX2_map ∈ bigW := bt5 24 rfl rfl
set_option maxRecDepth 20000 in
theorem mi_X2_map : MIv RX2 yX2_map cX2_map 5 (some .int) 4 := ⟨⟨bt5 27 rfl rfl, bt1 6 rfl rfl, by decide, by decide, by decide +kernel⟩, bt5 25 rfl rfl, bt5 26 rfl rfl⟩
set_option maxRecDepth 20000 in
theorem ml_RL_177 : Cond.methodLink RL 177 yL_turn ∈ bigW := bt3 174 rfl rfl
set_option maxRecDepth 20000 in
theorem mh_L_turn : MIh yL_turn cL_turn 7 (some .int) [(0, 15, 18, 19), (0, 15, 22, 21)] 6 := ⟨bt3 176 rfl rfl, bt1 0 rfl rfl, bt3 175 rfl rfl, by decide, by decide, by decide +kernel⟩
set_option maxRecDepth 20000 in
theorem ml_RL_179 : Cond.methodLink RL 179 yX2_turn ∈ bigW := bt5 38 rfl rfl
set_option maxRecDepth 20000 in
theorem mi_X2_turn : MIv RX2 yX2_turn cX2_turn 5 (some .int) 4 := ⟨⟨bt5 41 rfl rfl, bt1 6 rfl rfl, by decide, by decide, by decide +kernel⟩, bt5 39 rfl rfl, bt5 40 rfl rfl⟩
set_option maxRecDepth 20000 in
theorem ml_RL_180 : Cond.methodLink RL 180 yL_filter ∈ bigW := bt3 181 rfl rfl
set_option maxRecDepth 20000 in
theorem mh_L_filter : MIh yL_filter cL_filter 7 (some .int) [(0, 15, 18, 19), (0, 15, 22, 21)] 6 := ⟨bt3 183 rfl rfl, bt1 0 rfl rfl, bt3 182 rfl rfl, by decide, by decide, by decide +kernel⟩
set_option maxRecDepth 20000 in
theorem ml_RL_182 : Cond.methodLink RL 182 yX2_filter ∈ bigW := bt5 46 rfl rfl
set_option maxRecDepth 20000 in
theorem mi_X2_filter : MIv RX2 yX2_filter cX2_filter 5 (some .int) 4 := ⟨⟨bt5 49 rfl rfl, bt1 6 rfl rfl, by decide, by decide, by decide +kernel⟩, bt5 47 rfl rfl, bt5 48 rfl rfl⟩
set_option maxRecDepth 20000 in
theorem ml_RL_183 : Cond.methodLink RL 183 yL_or ∈ bigW := bt3 188 rfl rfl
set_option maxRecDepth 20000 in
theorem mh_L_or : MIh yL_or cL_or 6 (some .int) [(0, 13, 16, 19)] 5 := ⟨bt3 190 rfl rfl, bt1 0 rfl rfl, bt3 189 rfl rfl, by decide, by decide, by decide +kernel⟩
set_option maxRecDepth 20000 in
theorem ml_RL_186 : Cond.methodLink RL 186 yX2_or ∈ bigW := bt5 53 rfl rfl
set_option maxRecDepth 20000 in
theorem mi_X2_or : MIv RX2 yX2_or cX2_or 4 (some .int) 3 := ⟨⟨bt5 56 rfl rfl, bt1 6 rfl rfl, by decide, by decide, by decide +kernel⟩, bt5 54 rfl rfl, bt5 55 rfl rfl⟩
set_option maxRecDepth 20000 in
theorem ml_RL_187 : Cond.methodLink RL 187 yL_wrap ∈ bigW := bt3 195 rfl rfl
set_option maxRecDepth 20000 in
theorem mh_L_wrap : MIh yL_wrap cL_wrap 5 (some .int) [(0, 11, 14, 19)] 4 := ⟨bt3 197 rfl rfl, bt1 0 rfl rfl, bt3 196 rfl rfl, by decide, by decide, by decide +kernel⟩
set_option maxRecDepth 20000 in
theorem ml_RL_189 : Cond.methodLink RL 189 yX2_wrap ∈ bigW := bt5 57 rfl rfl
set_option maxRecDepth 20000 in
theorem mi_X2_wrap : MIv RX2 yX2_wrap cX2_wrap 3 (some .int) 2 := ⟨⟨bt5 60 rfl rfl, bt1 6 rfl rfl, by decide, by decide, by decide +kernel⟩, bt5 58 rfl rfl, bt5 59 rfl rfl⟩
set_option maxRecDepth 20000 in
theorem ml_RL_190 : Cond.methodLink RL 190 yL_both ∈ bigW := bt3 202 rfl rfl
set_option maxRecDepth 20000 in
theorem mh_L_both : MIh yL_both cL_both 8 (some .int) [(0, 17, 20, 19), (0, 17, 24, 21)] 7 := ⟨bt3 204 rfl rfl, bt1 0 rfl rfl, bt3 203 rfl rfl, by decide, by decide, by decide +kernel⟩
set_option maxRecDepth 20000 in
theorem ml_RL_193 : Cond.methodLink RL 193 yX2_both ∈ bigW := bt5 62 rfl rfl
set_option maxRecDepth 20000 in
theorem mi_X2_both : MIv RX2 yX2_both cX2_both 7 (some .int) 5 := ⟨⟨bt5 65 rfl rfl, bt1 6 rfl rfl, by decide, by decide, by decide +kernel⟩, bt5 63 rfl rfl, bt5 64 rfl rfl⟩
set_option maxRecDepth 20000 in
theorem ml_RL_194 : Cond.methodLink RL 194 yL_take ∈ bigW := bt3 209 rfl rfl
set_option maxRecDepth 20000 in
theorem mh_L_take : MIh yL_take cL_take 4 (some .int) [(0, 10, 13, 19)] 3 := ⟨bt3 211 rfl rfl, bt1 0 rfl rfl, bt3 210 rfl rfl, by decide, by decide, by decide +kernel⟩
set_option maxRecDepth 20000 in
theorem ml_RL_196 : Cond.methodLink RL 196 yX2_take ∈ bigW := bt5 66 rfl rfl
set_option maxRecDepth 20000 in
theorem mi_X2_take : MIv RX2 yX2_take cX2_take 2 (some .int) 1 := ⟨⟨bt5 69 rfl rfl, bt1 6 rfl rfl, by decide, by decide, by decide +kernel⟩, bt5 67 rfl rfl, bt5 68 rfl rfl⟩
set_option maxRecDepth 20000 in
theorem ml_RL_197 : Cond.methodLink RL 197 yL_takeOrLeave ∈ bigW := bt3 220 rfl rfl
set_option maxRecDepth 20000 in
theorem mh_L_takeOrLeave : MIh yL_takeOrLeave cL_takeOrLeave 4 (some .int) [(0, 10, 13, 19)] 3 := ⟨bt3 222 rfl rfl, bt1 0 rfl rfl, bt3 221 rfl rfl, by decide, by decide, by decide +kernel⟩
set_option maxRecDepth 20000 in
theorem ml_RL_199 : Cond.methodLink RL 199 yX2_takeOrLeave ∈ bigW := bt5 74 rfl rfl
set_option maxRecDepth 20000 in
theorem mi_X2_takeOrLeave : MIv RX2 yX2_takeOrLeave cX2_takeOrLeave 2 (some .int) 1 := ⟨⟨bt5 77 rfl rfl, bt1 6 rfl rfl, by decide, by decide, by decide +kernel⟩, bt5 75 rfl rfl, bt5 76 rfl rfl⟩
set_option maxRecDepth 20000 in
theorem ml_RL_200 : Cond.methodLink RL 200 yL_get ∈ bigW := bt3 227 rfl rfl
set_option maxRecDepth 20000 in
theorem mh_L_get : MIh yL_get cL_get 4 (some .int) [(0, 10, 13, 19)] 3 := ⟨bt3 229 rfl rfl, bt1 0 rfl rfl, bt3 228 rfl rfl, by decide, by decide, by decide +kernel⟩
set_option maxRecDepth 20000 in
theorem ml_RL_202 : Cond.methodLink RL 202 yX2_get ∈ bigW := bt5 78 rfl rfl
set_option maxRecDepth 20000 in
theorem ml_RL_203 : Cond.methodLink RL 203 yL_orElse ∈ bigW := bt3 238 rfl rfl
set_option maxRecDepth 20000 in
theorem mh_L_orElse : MIh yL_orElse cL_orElse 5 (some .int) [(0, 11, 14, 19), (0, 11, 18, 21)] 4 := ⟨bt4 0 rfl rfl, bt1 0 rfl rfl, bt3 239 rfl rfl, by decide, by decide, by decide +kernel⟩
set_option maxRecDepth 20000 in
theorem ml_RL_205 : Cond.methodLink RL 205 yX2_orElse ∈ bigW := bt5 86 rfl rfl
set_option maxRecDepth 20000 in
theorem ml_RL_206 : Cond.methodLink RL 206 yL_orElseGet ∈ bigW := bt4 5 rfl rfl
set_option maxRecDepth 20000 in
theorem mh_L_orElseGet : MIh yL_orElseGet cL_orElseGet 5 (some .int) [(0, 11, 14, 19), (0, 11, 18, 21)] 4 := ⟨bt4 7 rfl rfl, bt1 0 rfl rfl, bt4 6 rfl rfl, by decide, by decide, by decide +kernel⟩
set_option maxRecDepth 20000 in
theorem ml_RL_208 : Cond.methodLink RL 208 yX2_orElseGet ∈ bigW := bt5 90 rfl rfl
set_option maxRecDepth 20000 in
theorem mi_X2_orElseGet : MIv RX2 yX2_orElseGet cX2_orElseGet 4 (some .int) 2 := ⟨⟨bt5 93 rfl rfl, bt1 6 rfl rfl, by decide, by decide, by decide +kernel⟩, bt5 91 rfl rfl, bt5 92 rfl rfl⟩
set_option maxRecDepth 20000 in
theorem ml_RL_209 : Cond.methodLink RL 209 yL_orElseThrow ∈ bigW := bt4 12 rfl rfl
set_option maxRecDepth 20000 in
theorem mh_L_orElseThrow : MIh yL_orElseThrow cL_orElseThrow 4 (some .int) [(0, 10, 13, 19), (0, 10, 16, 73)] 3 := ⟨bt4 14 rfl rfl, bt1 0 rfl rfl, bt4 13 rfl rfl, by decide, by decide, by decide +kernel⟩
set_option maxRecDepth 20000 in
theorem ml_RL_211 : Cond.methodLink RL 211 yX2_orElseThrow ∈ bigW := bt5 94 rfl rfl
set_option maxRecDepth 20000 in
theorem mi_X2_orElseThrow : MIv RX2 yX2_orElseThrow cX2_orElseThrow 2 (some .int) 1 := ⟨⟨bt5 97 rfl rfl, bt1 6 rfl rfl, by decide, by decide, by decide +kernel⟩, bt5 95 rfl rfl, bt5 96 rfl rfl⟩
set_option maxRecDepth 20000 in
theorem ml_RL_212 : Cond.methodLink RL 212 yL_isFull ∈ bigW := bt4 36 rfl rfl
set_option maxRecDepth 20000 in
theorem mh_L_isFull : MIh yL_isFull cL_isFull 4 (some .int) [(0, 17, 20, 19)] 3 := ⟨bt4 38 rfl rfl, bt1 0 rfl rfl, bt4 37 rfl rfl, by decide, by decide, by decide +kernel⟩
set_option maxRecDepth 20000 in
theorem ml_RL_214 : Cond.methodLink RL 214 yX2_isFull ∈ bigW := bt5 98 rfl rfl
set_option maxRecDepth 20000 in
theorem ml_RL_215 : Cond.methodLink RL 215 yL_isEmpty ∈ bigW := bt4 43 rfl rfl
set_option maxRecDepth 20000 in
theorem mh_L_isEmpty : MIh yL_isEmpty cL_isEmpty 4 (some .int) [(0, 17, 20, 19)] 3 := ⟨bt4 45 rfl rfl, bt1 0 rfl rfl, bt4 44 rfl rfl, by decide, by decide, by decide +kernel⟩
set_option maxRecDepth 20000 in
theorem ml_RL_217 : Cond.methodLink RL 217 yX2_isEmpty ∈ bigW := bt5 102 rfl rfl
set_option maxRecDepth 20000 in
theorem ml_RL_218 : Cond.methodLink RL 218 yL_isLike ∈ bigW := bt4 50 rfl rfl
set_option maxRecDepth 20000 in
theorem mh_L_isLike : MIh yL_isLike cL_isLike 5 (some .int) [(0, 18, 21, 19)] 4 := ⟨bt4 52 rfl rfl, bt1 0 rfl rfl, bt4 51 rfl rfl, by decide, by decide, by decide +kernel⟩
set_option maxRecDepth 20000 in
theorem ml_RL_220 : Cond.methodLink RL 220 yX2_isLike ∈ bigW := bt5 106 rfl rfl
set_option maxRecDepth 20000 in
theorem ml_RL_221 : Cond.methodLink RL 221 yL_code ∈ bigW := bt4 54 rfl rfl
set_option maxRecDepth 20000 in
theorem mh_L_code : MIh yL_code cL_code 4 (some .int) [(0, 10, 13, 19)] 3 := ⟨bt4 56 rfl rfl, bt1 0 rfl rfl, bt4 55 rfl rfl, by decide, by decide, by decide +kernel⟩
set_option maxRecDepth 20000 in
theorem ml_RL_223 : Cond.methodLink RL 223 yX2_code ∈ bigW := bt5 110 rfl rfl
set_option maxRecDepth 20000 in
theorem ml_RL_224 : Cond.methodLink RL 224 yL_fillPlain ∈ bigW := bt4 61 rfl rfl
set_option maxRecDepth 20000 in
theorem mh_L_fillPlain : MIh yL_fillPlain cL_fillPlain 5 (some .int) [(0, 11, 14, 19), (0, 11, 18, 21)] 4 := ⟨bt4 63 rfl rfl, bt1 0 rfl rfl, bt4 62 rfl rfl, by decide, by decide, by decide +kernel⟩
set_option maxRecDepth 20000 in
theorem ml_RL_226 : Cond.methodLink RL 226 yX2_fillPlain ∈ bigW := bt5 117 rfl rfl
set_option maxRecDepth 20000 in
theorem mi_X2_fillPlain : MIv RX2 yX2_fillPlain cX2_fillPlain 4 (some .int) 2 := ⟨⟨bt5 120 rfl rfl, bt1 6 rfl rfl, by decide, by decide, by decide +kernel⟩, bt5 118 rfl rfl, bt5 119 rfl rfl⟩
set_option maxRecDepth 20000 in
theorem ml_RL_227 : Cond.methodLink RL 227 yL_emptyPlain ∈ bigW := bt4 72 rfl rfl
set_option maxRecDepth 20000 in
theorem mh_L_emptyPlain : MIh yL_emptyPlain cL_emptyPlain 4 (some .int) [(0, 10, 13, 19)] 3 := ⟨bt4 74 rfl rfl, bt1 0 rfl rfl, bt4 73 rfl rfl, by decide, by decide, by decide +kernel⟩
set_option maxRecDepth 20000 in
theorem ml_RL_229 : Cond.methodLink RL 229 yX2_emptyPlain ∈ bigW := bt5 124 rfl rfl
set_option maxRecDepth 20000 in
theorem mi_X2_emptyPlain : MIv RX2 yX2_emptyPlain cX2_emptyPlain 3 (some .int) 1 := ⟨⟨bt5 127 rfl rfl, bt1 6 rfl rfl, by decide, by decide, by decide +kernel⟩, bt5 125 rfl rfl, bt5 126 rfl rfl⟩
set_option maxRecDepth 20000 in
theorem ml_RL_230 : Cond.methodLink RL 230 yL_getPlain ∈ bigW := bt4 79 rfl rfl
set_option maxRecDepth 20000 in
theorem mh_L_getPlain : MIh yL_getPlain cL_getPlain 4 (some .int) [(0, 10, 13, 19)] 3 := ⟨bt4 81 rfl rfl, bt1 0 rfl rfl, bt4 80 rfl rfl, by decide, by decide, by decide +kernel⟩
set_option maxRecDepth 20000 in
theorem ml_RL_232 : Cond.methodLink RL 232 yX2_getPlain ∈ bigW := bt5 128 rfl rfl
set_option maxRecDepth 20000 in
theorem mi_X2_getPlain : MIv RX2 yX2_getPlain cX2_getPlain 2 (some .int) 1 := ⟨⟨bt5 131 rfl rfl, bt1 6 rfl rfl, by decide, by decide, by decide +kernel⟩, bt5 129 rfl rfl, bt5 130 rfl rfl⟩
set_option maxRecDepth 20000 in
theorem ml_RL_233 : Cond.methodLink RL 233 yL_orElsePlain ∈ bigW := bt4 86 rfl rfl
set_option maxRecDepth 20000 in
theorem mh_L_orElsePlain : MIh yL_orElsePlain cL_orElsePlain 5 (some .int) [(0, 11, 14, 19), (0, 11, 18, 21)] 4 := ⟨bt4 88 rfl rfl, bt1 0 rfl rfl, bt4 87 rfl rfl, by decide, by decide, by decide +kernel⟩
set_option maxRecDepth 20000 in
theorem ml_RL_235 : Cond.methodLink RL 235 yX2_orElsePlain ∈ bigW := bt5 132 rfl rfl
set_option maxRecDepth 20000 in
theorem mi_X2_orElsePlain : MIv RX2 yX2_orElsePlain cX2_orElsePlain 3 (some .int) 2 := ⟨⟨bt5 135 rfl rfl, bt1 6 rfl rfl, by decide, by decide, by decide +kernel⟩, bt5 133 rfl rfl, bt5 134 rfl rfl⟩
set_option maxRecDepth 20000 in
theorem ml_RL_236 : Cond.methodLink RL 236 yL_isFullPlain ∈ bigW := bt4 93 rfl rfl
set_option maxRecDepth 20000 in
theorem mh_L_isFullPlain : MIh yL_isFullPlain cL_isFullPlain 4 (some .int) [(0, 17, 20, 19)] 3 := ⟨bt4 95 rfl rfl, bt1 0 rfl rfl, bt4 94 rfl rfl, by decide, by decide, by decide +kernel⟩
set_option maxRecDepth 20000 in
theorem ml_RL_238 : Cond.methodLink RL 238 yX2_isFullPlain ∈ bigW := bt5 136 rfl rfl
set_option maxRecDepth 20000 in
theorem mi_X2_isFullPlain : MIv RX2 yX2_isFullPlain cX2_isFullPlain 2 (some .boolean) 1 := ⟨⟨bt5 139 rfl rfl, bt1 6 rfl rfl, by decide, by decide, by decide +kernel⟩, bt5 137 rfl rfl, bt5 138 rfl rfl⟩
set_option maxRecDepth 20000 in
theorem ml_RL_239 : Cond.methodLink RL 239 yL_takePlain ∈ bigW := bt4 100 rfl rfl
set_option maxRecDepth 20000 in
theorem mh_L_takePlain : MIh yL_takePlain cL_takePlain 4 (some .int) [(0, 10, 13, 19)] 3 := ⟨bt4 102 rfl rfl, bt1 0 rfl rfl, bt4 101 rfl rfl, by decide, by decide, by decide +kernel⟩
set_option maxRecDepth 20000 in
theorem ml_RL_241 : Cond.methodLink RL 241 yX2_takePlain ∈ bigW := bt5 140 rfl rfl
set_option maxRecDepth 20000 in
theorem mi_X2_takePlain : MIv RX2 yX2_takePlain cX2_takePlain 2 (some .int) 1 := ⟨⟨bt5 143 rfl rfl, bt1 6 rfl rfl, by decide, by decide, by decide +kernel⟩, bt5 141 rfl rfl, bt5 142 rfl rfl⟩
set_option maxRecDepth 20000 in
theorem ml_RL_242 : Cond.methodLink RL 242 yX0_arePlainLike ∈ bigW := bt1 93 rfl rfl
set_option maxRecDepth 20000 in
theorem mi_X0_arePlainLike : MIv RX0 yX0_arePlainLike cX0_arePlainLike 1 (some .boolean) 0 := ⟨⟨bt1 96 rfl rfl, bt1 1 rfl rfl, by decide, by decide, by decide +kernel⟩, bt1 94 rfl rfl, bt1 95 rfl rfl⟩
set_option maxRecDepth 20000 in
theorem ml_RL_246 : Cond.methodLink RL 246 yX2_arePlainLike ∈ bigW := bt5 144 rfl rfl
set_option maxRecDepth 20000 in
theorem mi_X2_arePlainLike : MIv RX2 yX2_arePlainLike cX2_arePlainLike 1 (some .boolean) 0 := ⟨⟨bt5 147 rfl rfl, bt1 6 rfl rfl, by decide, by decide, by decide +kernel⟩, bt5 145 rfl rfl, bt5 146 rfl rfl⟩
set_option maxRecDepth 20000 in
theorem ml_RL_247 : Cond.methodLink RL 247 yL_toPlain ∈ bigW := bt4 107 rfl rfl
set_option maxRecDepth 20000 in
theorem mh_L_toPlain : MIh yL_toPlain cL_toPlain 5 (some .int) [(0, 11, 14, 19)] 4 := ⟨bt4 109 rfl rfl, bt1 0 rfl rfl, bt4 108 rfl rfl, by decide, by decide, by decide +kernel⟩
set_option maxRecDepth 20000 in
theorem ml_RL_249 : Cond.methodLink RL 249 yX2_toPlain ∈ bigW := bt5 148 rfl rfl
set_option maxRecDepth 20000 in
theorem mi_X2_toPlain : MIv RX2 yX2_toPlain cX2_toPlain 3 (some .int) 2 := ⟨⟨bt5 151 rfl rfl, bt1 6 rfl rfl, by decide, by decide, by decide +kernel⟩, bt5 149 rfl rfl, bt5 150 rfl rfl⟩
set_option maxRecDepth 20000 in
theorem ml_RL_250 : Cond.methodLink RL 250 yL_fromPlain ∈ bigW := bt4 114 rfl rfl
set_option maxRecDepth 20000 in
theorem mh_L_fromPlain : MIh yL_fromPlain cL_fromPlain 5 (some .int) [(0, 11, 14, 19)] 4 := ⟨bt4 116 rfl rfl, bt1 0 rfl rfl, bt4 115 rfl rfl, by decide, by decide, by decide +kernel⟩
set_option maxRecDepth 20000 in
theorem ml_RL_252 : Cond.methodLink RL 252 yX2_fromPlain ∈ bigW := bt5 152 rfl rfl
set_option maxRecDepth 20000 in
theorem mi_X2_fromPlain : MIv RX2 yX2_fromPlain cX2_fromPlain 3 (some .int) 2 := ⟨⟨bt5 155 rfl rfl, bt1 6 rfl rfl, by decide, by decide, by decide +kernel⟩, bt5 153 rfl rfl, bt5 154 rfl rfl⟩
set_option maxRecDepth 20000 in
theorem ml_RL_253 : Cond.methodLink RL 253 yL_areLike ∈ bigW := bt4 121 rfl rfl
set_option maxRecDepth 20000 in
theorem mh_L_areLike : MIh yL_areLike cL_areLike 5 (some .int) [(0, 18, 21, 19)] 4 := ⟨bt4 123 rfl rfl, bt1 0 rfl rfl, bt4 122 rfl rfl, by decide, by decide, by decide +kernel⟩
set_option maxRecDepth 20000 in
theorem ml_RL_255 : Cond.methodLink RL 255 yX2_areLike ∈ bigW := bt5 156 rfl rfl
set_option maxRecDepth 20000 in
theorem mi_X2_areLike : MIv RX2 yX2_areLike cX2_areLike 3 (some .boolean) 2 := ⟨⟨bt5 159 rfl rfl, bt1 6 rfl rfl, by decide, by decide, by decide +kernel⟩, bt5 157 rfl rfl, bt5 158 rfl rfl⟩
set_option maxRecDepth 20000 in
theorem ml_RL_256 : Cond.methodLink RL 256 yL_compare ∈ bigW := bt4 125 rfl rfl
set_option maxRecDepth 20000 in
theorem mh_L_compare : MIh yL_compare cL_compare 6 (some .int) [(0, 13, 16, 19), (0, 13, 20, 21)] 5 := ⟨bt4 127 rfl rfl, bt1 0 rfl rfl, bt4 126 rfl rfl, by decide, by decide, by decide +kernel⟩
set_option maxRecDepth 20000 in
theorem ml_RL_258 : Cond.methodLink RL 258 yX2_compare ∈ bigW := bt5 161 rfl rfl
set_option maxRecDepth 20000 in
theorem mi_X2_compare : MIv RX2 yX2_compare cX2_compare 4 (some .int) 3 := ⟨⟨bt5 164 rfl rfl, bt1 6 rfl rfl, by decide, by decide, by decide +kernel⟩, bt5 162 rfl rfl, bt5 163 rfl rfl⟩
set_option maxRecDepth 20000 in
theorem ml_RL_259 : Cond.methodLink RL 259 yL_codes ∈ bigW := bt4 129 rfl rfl
set_option maxRecDepth 20000 in
theorem mh_L_codes : MIh yL_codes cL_codes 6 (some .int) [(0, 13, 16, 19)] 5 := ⟨bt4 131 rfl rfl, bt1 0 rfl rfl, bt4 130 rfl rfl, by decide, by decide, by decide +kernel⟩
set_option maxRecDepth 20000 in
theorem ml_RL_261 : Cond.methodLink RL 261 yX2_codes ∈ bigW := bt5 169 rfl rfl
set_option maxRecDepth 20000 in
theorem mi_X2_codes : MIv RX2 yX2_codes cX2_codes 4 (some .int) 3 := ⟨⟨bt5 172 rfl rfl, bt1 6 rfl rfl, by decide, by decide, by decide +kernel⟩, bt5 170 rfl rfl, bt5 171 rfl rfl⟩
set_option maxRecDepth 20000 in
theorem ml_RL_262 : Cond.methodLink RL 262 yL_codeOf ∈ bigW := bt4 133 rfl rfl
set_option maxRecDepth 20000 in
theorem mh_L_codeOf : MIh yL_codeOf cL_codeOf 4 (some .int) [(0, 10, 13, 19)] 3 := ⟨bt4 135 rfl rfl, bt1 0 rfl rfl, bt4 134 rfl rfl, by decide, by decide, by decide +kernel⟩
set_option maxRecDepth 20000 in
theorem ml_RL_264 : Cond.methodLink RL 264 yX2_codeOf ∈ bigW := bt5 177 rfl rfl
set_option maxRecDepth 20000 in
theorem mi_X2_codeOf : MIv RX2 yX2_codeOf cX2_codeOf 2 (some .int) 1 := ⟨⟨bt5 180 rfl rfl, bt1 6 rfl rfl, by decide, by decide, by decide +kernel⟩, bt5 178 rfl rfl, bt5 179 rfl rfl⟩
set_option maxRecDepth 20000 in
theorem ml_RL_265 : Cond.methodLink RL 265 yL_must ∈ bigW := bt4 140 rfl rfl
set_option maxRecDepth 20000 in
theorem mh_L_must : MIh yL_must cL_must 4 (some .int) [(0, 10, 13, 19)] 3 := ⟨bt4 142 rfl rfl, bt1 0 rfl rfl, bt4 141 rfl rfl, by decide, by decide, by decide +kernel⟩
set_option maxRecDepth 20000 in
theorem ml_RL_267 : Cond.methodLink RL 267 yX2_must ∈ bigW := bt5 182 rfl rfl
set_option maxRecDepth 20000 in
theorem mi_X2_must : MIv RX2 yX2_must cX2_must 2 (some .int) 1 := ⟨⟨bt5 185 rfl rfl, bt1 6 rfl rfl, by decide, by decide, by decide +kernel⟩, bt5 183 rfl rfl, bt5 184 rfl rfl⟩
set_option maxRecDepth 20000 in
theorem ml_RL_268 : Cond.methodLink RL 268 yL_mustElse ∈ bigW := bt4 147 rfl rfl
set_option maxRecDepth 20000 in
theorem mh_L_mustElse : MIh yL_mustElse cL_mustElse 5 (some .int) [(0, 11, 14, 19), (0, 11, 18, 21)] 4 := ⟨bt4 149 rfl rfl, bt1 0 rfl rfl, bt4 148 rfl rfl, by decide, by decide, by decide +kernel⟩
set_option maxRecDepth 20000 in
theorem ml_RL_270 : Cond.methodLink RL 270 yX2_mustElse ∈ bigW := bt5 187 rfl rfl
set_option maxRecDepth 20000 in
theorem mi_X2_mustElse : MIv RX2 yX2_mustElse cX2_mustElse 3 (some .int) 2 := ⟨⟨bt5 190 rfl rfl, bt1 6 rfl rfl, by decide, by decide, by decide +kernel⟩, bt5 188 rfl rfl, bt5 189 rfl rfl⟩
set_option maxRecDepth 20000 in
theorem ml_RL_271 : Cond.methodLink RL 271 yL_isNothing ∈ bigW := bt4 154 rfl rfl
set_option maxRecDepth 20000 in
theorem mh_L_isNothing : MIh yL_isNothing cL_isNothing 4 (some .int) [(0, 17, 20, 19)] 3 := ⟨bt4 156 rfl rfl, bt1 0 rfl rfl, bt4 155 rfl rfl, by decide, by decide, by decide +kernel⟩
set_option maxRecDepth 20000 in
theorem ml_RL_273 : Cond.methodLink RL 273 yX2_isNothing ∈ bigW := bt5 192 rfl rfl
set_option maxRecDepth 20000 in
theorem mi_X2_isNothing : MIv RX2 yX2_isNothing cX2_isNothing 2 (some .boolean) 1 := ⟨⟨bt5 195 rfl rfl, bt1 6 rfl rfl, by decide, by decide, by decide +kernel⟩, bt5 193 rfl rfl, bt5 194 rfl rfl⟩
set_option maxRecDepth 20000 in
theorem ml_RL_274 : Cond.methodLink RL 274 yL_isSomething ∈ bigW := bt4 161 rfl rfl
set_option maxRecDepth 20000 in
theorem mh_L_isSomething : MIh yL_isSomething cL_isSomething 4 (some .int) [(0, 17, 20, 19)] 3 := ⟨bt4 163 rfl rfl, bt1 0 rfl rfl, bt4 162 rfl rfl, by decide, by decide, by decide +kernel⟩
set_option maxRecDepth 20000 in
theorem ml_RL_276 : Cond.methodLink RL 276 yX2_isSomething ∈ bigW := bt5 197 rfl rfl
set_option maxRecDepth 20000 in
theorem mi_X2_isSomething : MIv RX2 yX2_isSomething cX2_isSomething 2 (some .boolean) 1 := ⟨⟨bt5 200 rfl rfl, bt1 6 rfl rfl, by decide, by decide, by decide +kernel⟩, bt5 198 rfl rfl, bt5 199 rfl rfl⟩
set_option maxRecDepth 20000 in
theorem ml_RL_277 : Cond.methodLink RL 277 yL_told ∈ bigW := bt4 168 rfl rfl
set_option maxRecDepth 20000 in
theorem mh_L_told : MIh yL_told cL_told 4 (some .int) [(0, 9, 12, 19)] 3 := ⟨bt4 170 rfl rfl, bt1 0 rfl rfl, bt4 169 rfl rfl, by decide, by decide, by decide +kernel⟩
set_option maxRecDepth 20000 in
theorem ml_RL_279 : Cond.methodLink RL 279 yX2_told ∈ bigW := bt5 202 rfl rfl
set_option maxRecDepth 20000 in
theorem mi_X2_told : MIv RX2 yX2_told cX2_told 2 (some (.object "java/lang/String")) 1 := ⟨⟨bt5 205 rfl rfl, bt1 6 rfl rfl, by decide, by decide, by decide +kernel⟩, bt5 203 rfl rfl, bt5 204 rfl rfl⟩
set_option maxRecDepth 20000 in
theorem ml_RL_280 : Cond.methodLink RL 280 yX2_thrown ∈ bigW := bt4 224 rfl rfl
set_option maxRecDepth 20000 in
theorem mi_X2_thrown : MIv RX2 yX2_thrown cX2_thrown 1 (some .int) 0 := ⟨⟨bt4 227 rfl rfl, bt1 6 rfl rfl, by decide, by decide, by decide +kernel⟩, bt4 225 rfl rfl, bt4 226 rfl rfl⟩
set_option maxRecDepth 20000 in
theorem ml_RL_284 : Cond.methodLink RL 284 yJ0_equals_9ea2d ∈ bigW := bt6 10 rfl rfl
set_option maxRecDepth 20000 in
theorem mi_J0_equals_9ea2d : MIv RJ0 yJ0_equals_9ea2d cJ0_equals_9ea2d 3 (some .boolean) 1 := ⟨⟨bt6 13 rfl rfl, bt1 4 rfl rfl, by decide, by decide, by decide +kernel⟩, bt6 11 rfl rfl, bt6 12 rfl rfl⟩
set_option maxRecDepth 20000 in
theorem ml_RL_290 : Cond.methodLink RL 290 yL_place ∈ bigW := bt4 176 rfl rfl
set_option maxRecDepth 20000 in
theorem mh_L_place : MIh yL_place cL_place 5 (some .int) [(0, 11, 14, 21), (0, 11, 18, 19)] 4 := ⟨bt4 178 rfl rfl, bt1 0 rfl rfl, bt4 177 rfl rfl, by decide, by decide, by decide +kernel⟩
set_option maxRecDepth 20000 in
theorem ml_RL_292 : Cond.methodLink RL 292 yX2_place ∈ bigW := bt5 216 rfl rfl
set_option maxRecDepth 20000 in
theorem mi_X2_place : MIv RX2 yX2_place cX2_place 3 (some .int) 2 := ⟨⟨bt5 219 rfl rfl, bt1 6 rfl rfl, by decide, by decide, by decide +kernel⟩, bt5 217 rfl rfl, bt5 218 rfl rfl⟩
set_option maxRecDepth 20000 in
theorem ml_RL_293 : Cond.methodLink RL 293 yX0_knock ∈ bigW := bt1 100 rfl rfl
set_option maxRecDepth 20000 in
theorem mi_X0_knock : MIv RX0 yX0_knock cX0_knock 1 (some .int) 0 := ⟨⟨bt1 103 rfl rfl, bt1 1 rfl rfl, by decide, by decide, by decide +kernel⟩, bt1 101 rfl rfl, bt1 102 rfl rfl⟩
set_option maxRecDepth 20000 in
theorem ml_RL_296 : Cond.methodLink RL 296 yX2_knock ∈ bigW := bt5 220 rfl rfl
set_option maxRecDepth 20000 in
theorem mi_X2_knock : MIv RX2 yX2_knock cX2_knock 1 (some .int) 0 := ⟨⟨bt5 223 rfl rfl, bt1 6 rfl rfl, by decide, by decide, by decide +kernel⟩, bt5 221 rfl rfl, bt5 222 rfl rfl⟩
set_option maxRecDepth 20000 in
theorem ml_RL_297 : Cond.methodLink RL 297 yL_house ∈ bigW := bt4 185 rfl rfl
set_option maxRecDepth 20000 in
theorem mh_L_house : MIh yL_house cL_house 4 (some .int) [(0, 10, 13, 21)] 3 := ⟨bt4 187 rfl rfl, bt1 0 rfl rfl, bt4 186 rfl rfl, by decide, by decide, by decide +kernel⟩
set_option maxRecDepth 20000 in
theorem ml_RL_299 : Cond.methodLink RL 299 yX2_house ∈ bigW := bt5 224 rfl rfl
set_option maxRecDepth 20000 in
theorem mi_X2_house : MIv RX2 yX2_house cX2_house 2 (some .int) 1 := ⟨⟨bt5 227 rfl rfl, bt1 6 rfl rfl, by decide, by decide, by decide +kernel⟩, bt5 225 rfl rfl, bt5 226 rfl rfl⟩
set_option maxRecDepth 20000 in
theorem ml_RL_300 : Cond.methodLink RL 300 yX0_isSound ∈ bigW := bt1 104 rfl rfl
set_option maxRecDepth 20000 in
theorem ml_RL_303 : Cond.methodLink RL 303 yX2_isSound ∈ bigW := bt5 232 rfl rfl
set_option maxRecDepth 20000 in
theorem mi_X2_isSound : MIv RX2 yX2_isSound cX2_isSound 1 (some .boolean) 0 := ⟨⟨bt5 235 rfl rfl, bt1 6 rfl rfl, by decide, by decide, by decide +kernel⟩, bt5 233 rfl rfl, bt5 234 rfl rfl⟩
set_option maxRecDepth 20000 in
theorem ml_RL_304 : Cond.methodLink RL 304 yX0_digest ∈ bigW := bt2 46 rfl rfl
set_option maxRecDepth 20000 in
theorem mi_X0_digest : MIv RX0 yX0_digest cX0_digest 4 (some .long) 0 := ⟨⟨bt2 49 rfl rfl, bt1 1 rfl rfl, by decide, by decide, by decide +kernel⟩, bt2 47 rfl rfl, bt2 48 rfl rfl⟩
set_option maxRecDepth 20000 in
theorem ml_RL_308 : Cond.methodLink RL 308 yX2_digest ∈ bigW := bt6 0 rfl rfl
set_option maxRecDepth 20000 in
theorem mi_X2_digest : MIv RX2 yX2_digest cX2_digest 12 (some .long) 0 := ⟨⟨bt6 3 rfl rfl, bt1 6 rfl rfl, by decide, by decide, by decide +kernel⟩, bt6 1 rfl rfl, bt6 2 rfl rfl⟩
theorem dL_law_232 : decode cL_law 232 = .ok (.aload_n 1, 1) := dc_row (B := pc_L_law_w9) (a := 216) (p := 16) pc_L_law_a9 (by decide +kernel)
theorem dL_law_233 : decode cL_law 233 = .ok (.aload_n 0, 1) := dc_row (B := pc_L_law_w9) (a := 216) (p := 17) pc_L_law_a9 (by decide +kernel)
theorem dL_law_234 : decode cL_law 234 = .ok (.iload 4, 2) := dc_row (B := pc_L_law_w9) (a := 216) (p := 18) pc_L_law_a9 (by decide +kernel)
theorem dL_law_236 : decode cL_law 236 = .ok (.iconst 1, 1) := dc_row (B := pc_L_law_w9) (a := 216) (p := 20) pc_L_law_a9 (by decide +kernel)
theorem dL_law_237 : decode cL_law 237 = .ok (.iadd, 1) := dc_row (B := pc_L_law_w9) (a := 216) (p := 21) pc_L_law_a9 (by decide +kernel)
theorem dL_law_238 : decode cL_law 238 = .ok (.iaload, 1) := dc_row (B := pc_L_law_w9) (a := 216) (p := 22) pc_L_law_a9 (by decide +kernel)
theorem dL_law_239 : decode cL_law 239 = .ok (.aload_n 0, 1) := dc_row (B := pc_L_law_w9) (a := 216) (p := 23) pc_L_law_a9 (by decide +kernel)
theorem dL_law_240 : decode cL_law 240 = .ok (.iload 4, 2) := dc_row (B := pc_L_law_w10) (a := 240) (p := 0) pc_L_law_a10 (by decide +kernel)
theorem dL_law_242 : decode cL_law 242 = .ok (.iconst 2, 1) := dc_row (B := pc_L_law_w10) (a := 240) (p := 2) pc_L_law_a10 (by decide +kernel)
theorem dL_law_243 : decode cL_law 243 = .ok (.iadd, 1) := dc_row (B := pc_L_law_w10) (a := 240) (p := 3) pc_L_law_a10 (by decide +kernel)
theorem dL_law_244 : decode cL_law 244 = .ok (.iaload, 1) := dc_row (B := pc_L_law_w10) (a := 240) (p := 4) pc_L_law_a10 (by decide +kernel)
theorem dL_law_245 : decode cL_law 245 = .ok (.aload_n 3, 1) := dc_row (B := pc_L_law_w10) (a := 240) (p := 5) pc_L_law_a10 (by decide +kernel)
theorem dL_law_246 : decode cL_law 246 = .ok (.invokestatic 156, 3) := dc_row (B := pc_L_law_w10) (a := 240) (p := 6) pc_L_law_a10 (by decide +kernel)
theorem dL_law_249 : decode cL_law 249 = .ok (.istore 5, 2) := dc_row (B := pc_L_law_w10) (a := 240) (p := 9) pc_L_law_a10 (by decide +kernel)
theorem dL_law_251 : decode cL_law 251 = .ok (.aload_n 2, 1) := dc_row (B := pc_L_law_w10) (a := 240) (p := 11) pc_L_law_a10 (by decide +kernel)
theorem dL_law_252 : decode cL_law 252 = .ok (.aload_n 0, 1) := dc_row (B := pc_L_law_w10) (a := 240) (p := 12) pc_L_law_a10 (by decide +kernel)
theorem dL_law_253 : decode cL_law 253 = .ok (.iload 4, 2) := dc_row (B := pc_L_law_w10) (a := 240) (p := 13) pc_L_law_a10 (by decide +kernel)
theorem dL_law_255 : decode cL_law 255 = .ok (.iconst 1, 1) := dc_row (B := pc_L_law_w10) (a := 240) (p := 15) pc_L_law_a10 (by decide +kernel)
theorem dL_law_256 : decode cL_law 256 = .ok (.iadd, 1) := dc_row (B := pc_L_law_w10) (a := 240) (p := 16) pc_L_law_a10 (by decide +kernel)
theorem dL_law_257 : decode cL_law 257 = .ok (.iaload, 1) := dc_row (B := pc_L_law_w10) (a := 240) (p := 17) pc_L_law_a10 (by decide +kernel)
theorem dL_law_258 : decode cL_law 258 = .ok (.aload_n 0, 1) := dc_row (B := pc_L_law_w10) (a := 240) (p := 18) pc_L_law_a10 (by decide +kernel)
theorem dL_law_259 : decode cL_law 259 = .ok (.iload 4, 2) := dc_row (B := pc_L_law_w10) (a := 240) (p := 19) pc_L_law_a10 (by decide +kernel)
theorem dL_law_261 : decode cL_law 261 = .ok (.iconst 2, 1) := dc_row (B := pc_L_law_w10) (a := 240) (p := 21) pc_L_law_a10 (by decide +kernel)
theorem dL_law_262 : decode cL_law 262 = .ok (.iadd, 1) := dc_row (B := pc_L_law_w10) (a := 240) (p := 22) pc_L_law_a10 (by decide +kernel)
theorem dL_law_263 : decode cL_law 263 = .ok (.iaload, 1) := dc_row (B := pc_L_law_w10) (a := 240) (p := 23) pc_L_law_a10 (by decide +kernel)
theorem dL_law_264 : decode cL_law 264 = .ok (.invokevirtual 161, 3) := dc_row (B := pc_L_law_w11) (a := 264) (p := 0) pc_L_law_a11 (by decide +kernel)
theorem dL_law_267 : decode cL_law 267 = .ok (.istore 6, 2) := dc_row (B := pc_L_law_w11) (a := 264) (p := 3) pc_L_law_a11 (by decide +kernel)
theorem dL_law_269 : decode cL_law 269 = .ok (.goto 1561, 3) := dc_row (B := pc_L_law_w11) (a := 264) (p := 5) pc_L_law_a11 (by decide +kernel)
theorem dL_law_272 : decode cL_law 272 = .ok (.aload_n 1, 1) := dc_row (B := pc_L_law_w11) (a := 264) (p := 8) pc_L_law_a11 (by decide +kernel)
theorem dL_law_273 : decode cL_law 273 = .ok (.aload_n 0, 1) := dc_row (B := pc_L_law_w11) (a := 264) (p := 9) pc_L_law_a11 (by decide +kernel)
theorem dL_law_274 : decode cL_law 274 = .ok (.iload 4, 2) := dc_row (B := pc_L_law_w11) (a := 264) (p := 10) pc_L_law_a11 (by decide +kernel)
theorem dL_law_276 : decode cL_law 276 = .ok (.iconst 1, 1) := dc_row (B := pc_L_law_w11) (a := 264) (p := 12) pc_L_law_a11 (by decide +kernel)
theorem dL_law_277 : decode cL_law 277 = .ok (.iadd, 1) := dc_row (B := pc_L_law_w11) (a := 264) (p := 13) pc_L_law_a11 (by decide +kernel)
theorem dL_law_278 : decode cL_law 278 = .ok (.iaload, 1) := dc_row (B := pc_L_law_w11) (a := 264) (p := 14) pc_L_law_a11 (by decide +kernel)
theorem dL_law_279 : decode cL_law 279 = .ok (.aload_n 3, 1) := dc_row (B := pc_L_law_w11) (a := 264) (p := 15) pc_L_law_a11 (by decide +kernel)
theorem dL_law_280 : decode cL_law 280 = .ok (.invokestatic 162, 3) := dc_row (B := pc_L_law_w11) (a := 264) (p := 16) pc_L_law_a11 (by decide +kernel)
theorem dL_law_283 : decode cL_law 283 = .ok (.istore 5, 2) := dc_row (B := pc_L_law_w11) (a := 264) (p := 19) pc_L_law_a11 (by decide +kernel)
theorem dL_law_285 : decode cL_law 285 = .ok (.aload_n 2, 1) := dc_row (B := pc_L_law_w11) (a := 264) (p := 21) pc_L_law_a11 (by decide +kernel)
theorem dL_law_286 : decode cL_law 286 = .ok (.aload_n 0, 1) := dc_row (B := pc_L_law_w11) (a := 264) (p := 22) pc_L_law_a11 (by decide +kernel)
theorem dL_law_287 : decode cL_law 287 = .ok (.iload 4, 2) := dc_row (B := pc_L_law_w11) (a := 264) (p := 23) pc_L_law_a11 (by decide +kernel)
theorem dL_law_289 : decode cL_law 289 = .ok (.iconst 1, 1) := dc_row (B := pc_L_law_w12) (a := 288) (p := 1) pc_L_law_a12 (by decide +kernel)
theorem dL_law_290 : decode cL_law 290 = .ok (.iadd, 1) := dc_row (B := pc_L_law_w12) (a := 288) (p := 2) pc_L_law_a12 (by decide +kernel)
theorem dL_law_291 : decode cL_law 291 = .ok (.iaload, 1) := dc_row (B := pc_L_law_w12) (a := 288) (p := 3) pc_L_law_a12 (by decide +kernel)
theorem dL_law_292 : decode cL_law 292 = .ok (.invokevirtual 165, 3) := dc_row (B := pc_L_law_w12) (a := 288) (p := 4) pc_L_law_a12 (by decide +kernel)
theorem dL_law_295 : decode cL_law 295 = .ok (.istore 6, 2) := dc_row (B := pc_L_law_w12) (a := 288) (p := 7) pc_L_law_a12 (by decide +kernel)
theorem dL_law_297 : decode cL_law 297 = .ok (.goto 1533, 3) := dc_row (B := pc_L_law_w12) (a := 288) (p := 9) pc_L_law_a12 (by decide +kernel)
theorem dL_law_300 : decode cL_law 300 = .ok (.aload_n 1, 1) := dc_row (B := pc_L_law_w12) (a := 288) (p := 12) pc_L_law_a12 (by decide +kernel)
theorem dL_law_301 : decode cL_law 301 = .ok (.aload_n 0, 1) := dc_row (B := pc_L_law_w12) (a := 288) (p := 13) pc_L_law_a12 (by decide +kernel)
theorem dL_law_302 : decode cL_law 302 = .ok (.iload 4, 2) := dc_row (B := pc_L_law_w12) (a := 288) (p := 14) pc_L_law_a12 (by decide +kernel)
theorem dL_law_304 : decode cL_law 304 = .ok (.iconst 1, 1) := dc_row (B := pc_L_law_w12) (a := 288) (p := 16) pc_L_law_a12 (by decide +kernel)
theorem dL_law_305 : decode cL_law 305 = .ok (.iadd, 1) := dc_row (B := pc_L_law_w12) (a := 288) (p := 17) pc_L_law_a12 (by decide +kernel)
theorem dL_law_306 : decode cL_law 306 = .ok (.iaload, 1) := dc_row (B := pc_L_law_w12) (a := 288) (p := 18) pc_L_law_a12 (by decide +kernel)
theorem dL_law_307 : decode cL_law 307 = .ok (.aload_n 0, 1) := dc_row (B := pc_L_law_w12) (a := 288) (p := 19) pc_L_law_a12 (by decide +kernel)
theorem dL_law_308 : decode cL_law 308 = .ok (.iload 4, 2) := dc_row (B := pc_L_law_w12) (a := 288) (p := 20) pc_L_law_a12 (by decide +kernel)
theorem dL_law_310 : decode cL_law 310 = .ok (.iconst 2, 1) := dc_row (B := pc_L_law_w12) (a := 288) (p := 22) pc_L_law_a12 (by decide +kernel)
theorem dL_law_311 : decode cL_law 311 = .ok (.iadd, 1) := dc_row (B := pc_L_law_w12) (a := 288) (p := 23) pc_L_law_a12 (by decide +kernel)
theorem dL_law_312 : decode cL_law 312 = .ok (.iaload, 1) := dc_row (B := pc_L_law_w13) (a := 312) (p := 0) pc_L_law_a13 (by decide +kernel)
theorem dL_law_313 : decode cL_law 313 = .ok (.aload_n 0, 1) := dc_row (B := pc_L_law_w13) (a := 312) (p := 1) pc_L_law_a13 (by decide +kernel)
theorem dL_law_314 : decode cL_law 314 = .ok (.iload 4, 2) := dc_row (B := pc_L_law_w13) (a := 312) (p := 2) pc_L_law_a13 (by decide +kernel)
theorem dL_law_316 : decode cL_law 316 = .ok (.iconst 3, 1) := dc_row (B := pc_L_law_w13) (a := 312) (p := 4) pc_L_law_a13 (by decide +kernel)
theorem dL_law_317 : decode cL_law 317 = .ok (.iadd, 1) := dc_row (B := pc_L_law_w13) (a := 312) (p := 5) pc_L_law_a13 (by decide +kernel)
theorem dL_law_318 : decode cL_law 318 = .ok (.iaload, 1) := dc_row (B := pc_L_law_w13) (a := 312) (p := 6) pc_L_law_a13 (by decide +kernel)
theorem dL_law_319 : decode cL_law 319 = .ok (.ifCond .eq 7, 3) := dc_row (B := pc_L_law_w13) (a := 312) (p := 7) pc_L_law_a13 (by decide +kernel)
theorem dL_law_322 : decode cL_law 322 = .ok (.iconst 1, 1) := dc_row (B := pc_L_law_w13) (a := 312) (p := 10) pc_L_law_a13 (by decide +kernel)
theorem dL_law_323 : decode cL_law 323 = .ok (.goto 4, 3) := dc_row (B := pc_L_law_w13) (a := 312) (p := 11) pc_L_law_a13 (by decide +kernel)
theorem dL_law_326 : decode cL_law 326 = .ok (.iconst 0, 1) := dc_row (B := pc_L_law_w13) (a := 312) (p := 14) pc_L_law_a13 (by decide +kernel)
theorem dL_law_327 : decode cL_law 327 = .ok (.aload_n 3, 1) := dc_row (B := pc_L_law_w13) (a := 312) (p := 15) pc_L_law_a13 (by decide +kernel)
theorem dL_law_328 : decode cL_law 328 = .ok (.invokestatic 166, 3) := dc_row (B := pc_L_law_w13) (a := 312) (p := 16) pc_L_law_a13 (by decide +kernel)
theorem dL_law_331 : decode cL_law 331 = .ok (.istore 5, 2) := dc_row (B := pc_L_law_w13) (a := 312) (p := 19) pc_L_law_a13 (by decide +kernel)
theorem dL_law_333 : decode cL_law 333 = .ok (.aload_n 2, 1) := dc_row (B := pc_L_law_w13) (a := 312) (p := 21) pc_L_law_a13 (by decide +kernel)
theorem dL_law_334 : decode cL_law 334 = .ok (.aload_n 0, 1) := dc_row (B := pc_L_law_w13) (a := 312) (p := 22) pc_L_law_a13 (by decide +kernel)
theorem dL_law_335 : decode cL_law 335 = .ok (.iload 4, 2) := dc_row (B := pc_L_law_w13) (a := 312) (p := 23) pc_L_law_a13 (by decide +kernel)
theorem dL_law_337 : decode cL_law 337 = .ok (.iconst 1, 1) := dc_row (B := pc_L_law_w14) (a := 336) (p := 1) pc_L_law_a14 (by decide +kernel)
theorem dL_law_338 : decode cL_law 338 = .ok (.iadd, 1) := dc_row (B := pc_L_law_w14) (a := 336) (p := 2) pc_L_law_a14 (by decide +kernel)
theorem dL_law_339 : decode cL_law 339 = .ok (.iaload, 1) := dc_row (B := pc_L_law_w14) (a := 336) (p := 3) pc_L_law_a14 (by decide +kernel)
theorem dL_law_340 : decode cL_law 340 = .ok (.aload_n 0, 1) := dc_row (B := pc_L_law_w14) (a := 336) (p := 4) pc_L_law_a14 (by decide +kernel)
theorem dL_law_341 : decode cL_law 341 = .ok (.iload 4, 2) := dc_row (B := pc_L_law_w14) (a := 336) (p := 5) pc_L_law_a14 (by decide +kernel)
theorem dL_law_343 : decode cL_law 343 = .ok (.iconst 2, 1) := dc_row (B := pc_L_law_w14) (a := 336) (p := 7) pc_L_law_a14 (by decide +kernel)
theorem dL_law_344 : decode cL_law 344 = .ok (.iadd, 1) := dc_row (B := pc_L_law_w14) (a := 336) (p := 8) pc_L_law_a14 (by decide +kernel)
theorem dL_law_345 : decode cL_law 345 = .ok (.iaload, 1) := dc_row (B := pc_L_law_w14) (a := 336) (p := 9) pc_L_law_a14 (by decide +kernel)
theorem dL_law_346 : decode cL_law 346 = .ok (.aload_n 0, 1) := dc_row (B := pc_L_law_w14) (a := 336) (p := 10) pc_L_law_a14 (by decide +kernel)
theorem dL_law_347 : decode cL_law 347 = .ok (.iload 4, 2) := dc_row (B := pc_L_law_w14) (a := 336) (p := 11) pc_L_law_a14 (by decide +kernel)
theorem dL_law_349 : decode cL_law 349 = .ok (.iconst 3, 1) := dc_row (B := pc_L_law_w14) (a := 336) (p := 13) pc_L_law_a14 (by decide +kernel)
theorem dL_law_350 : decode cL_law 350 = .ok (.iadd, 1) := dc_row (B := pc_L_law_w14) (a := 336) (p := 14) pc_L_law_a14 (by decide +kernel)
theorem dL_law_351 : decode cL_law 351 = .ok (.iaload, 1) := dc_row (B := pc_L_law_w14) (a := 336) (p := 15) pc_L_law_a14 (by decide +kernel)
theorem dL_law_352 : decode cL_law 352 = .ok (.ifCond .eq 7, 3) := dc_row (B := pc_L_law_w14) (a := 336) (p := 16) pc_L_law_a14 (by decide +kernel)
theorem dL_law_355 : decode cL_law 355 = .ok (.iconst 1, 1) := dc_row (B := pc_L_law_w14) (a := 336) (p := 19) pc_L_law_a14 (by decide +kernel)
theorem dL_law_356 : decode cL_law 356 = .ok (.goto 4, 3) := dc_row (B := pc_L_law_w14) (a := 336) (p := 20) pc_L_law_a14 (by decide +kernel)
theorem dL_law_359 : decode cL_law 359 = .ok (.iconst 0, 1) := dc_row (B := pc_L_law_w14) (a := 336) (p := 23) pc_L_law_a14 (by decide +kernel)
theorem dL_law_360 : decode cL_law 360 = .ok (.invokevirtual 169, 3) := dc_row (B := pc_L_law_w15) (a := 360) (p := 0) pc_L_law_a15 (by decide +kernel)
theorem dL_law_363 : decode cL_law 363 = .ok (.istore 6, 2) := dc_row (B := pc_L_law_w15) (a := 360) (p := 3) pc_L_law_a15 (by decide +kernel)
theorem dL_law_365 : decode cL_law 365 = .ok (.goto 1465, 3) := dc_row (B := pc_L_law_w15) (a := 360) (p := 5) pc_L_law_a15 (by decide +kernel)
theorem dL_law_368 : decode cL_law 368 = .ok (.aload_n 1, 1) := dc_row (B := pc_L_law_w15) (a := 360) (p := 8) pc_L_law_a15 (by decide +kernel)
theorem dL_law_369 : decode cL_law 369 = .ok (.aload_n 0, 1) := dc_row (B := pc_L_law_w15) (a := 360) (p := 9) pc_L_law_a15 (by decide +kernel)
theorem dL_law_370 : decode cL_law 370 = .ok (.iload 4, 2) := dc_row (B := pc_L_law_w15) (a := 360) (p := 10) pc_L_law_a15 (by decide +kernel)
theorem dL_law_372 : decode cL_law 372 = .ok (.iconst 1, 1) := dc_row (B := pc_L_law_w15) (a := 360) (p := 12) pc_L_law_a15 (by decide +kernel)
theorem dL_law_373 : decode cL_law 373 = .ok (.iadd, 1) := dc_row (B := pc_L_law_w15) (a := 360) (p := 13) pc_L_law_a15 (by decide +kernel)
theorem dL_law_374 : decode cL_law 374 = .ok (.iaload, 1) := dc_row (B := pc_L_law_w15) (a := 360) (p := 14) pc_L_law_a15 (by decide +kernel)
theorem dL_law_375 : decode cL_law 375 = .ok (.aload_n 0, 1) := dc_row (B := pc_L_law_w15) (a := 360) (p := 15) pc_L_law_a15 (by decide +kernel)
theorem dL_law_376 : decode cL_law 376 = .ok (.iload 4, 2) := dc_row (B := pc_L_law_w15) (a := 360) (p := 16) pc_L_law_a15 (by decide +kernel)
theorem dL_law_378 : decode cL_law 378 = .ok (.iconst 2, 1) := dc_row (B := pc_L_law_w15) (a := 360) (p := 18) pc_L_law_a15 (by decide +kernel)
theorem dL_law_379 : decode cL_law 379 = .ok (.iadd, 1) := dc_row (B := pc_L_law_w15) (a := 360) (p := 19) pc_L_law_a15 (by decide +kernel)
theorem dL_law_380 : decode cL_law 380 = .ok (.iaload, 1) := dc_row (B := pc_L_law_w15) (a := 360) (p := 20) pc_L_law_a15 (by decide +kernel)
theorem dL_law_381 : decode cL_law 381 = .ok (.aload_n 3, 1) := dc_row (B := pc_L_law_w15) (a := 360) (p := 21) pc_L_law_a15 (by decide +kernel)
theorem dL_law_382 : decode cL_law 382 = .ok (.invokestatic 170, 3) := dc_row (B := pc_L_law_w15) (a := 360) (p := 22) pc_L_law_a15 (by decide +kernel)
theorem dL_law_385 : decode cL_law 385 = .ok (.istore 5, 2) := dc_row (B := pc_L_law_w16) (a := 384) (p := 1) pc_L_law_a16 (by decide +kernel)
theorem dL_law_387 : decode cL_law 387 = .ok (.aload_n 2, 1) := dc_row (B := pc_L_law_w16) (a := 384) (p := 3) pc_L_law_a16 (by decide +kernel)
theorem dL_law_388 : decode cL_law 388 = .ok (.aload_n 0, 1) := dc_row (B := pc_L_law_w16) (a := 384) (p := 4) pc_L_law_a16 (by decide +kernel)
theorem dL_law_389 : decode cL_law 389 = .ok (.iload 4, 2) := dc_row (B := pc_L_law_w16) (a := 384) (p := 5) pc_L_law_a16 (by decide +kernel)
theorem dL_law_391 : decode cL_law 391 = .ok (.iconst 1, 1) := dc_row (B := pc_L_law_w16) (a := 384) (p := 7) pc_L_law_a16 (by decide +kernel)
theorem dL_law_392 : decode cL_law 392 = .ok (.iadd, 1) := dc_row (B := pc_L_law_w16) (a := 384) (p := 8) pc_L_law_a16 (by decide +kernel)
theorem dL_law_393 : decode cL_law 393 = .ok (.iaload, 1) := dc_row (B := pc_L_law_w16) (a := 384) (p := 9) pc_L_law_a16 (by decide +kernel)
theorem dL_law_394 : decode cL_law 394 = .ok (.aload_n 0, 1) := dc_row (B := pc_L_law_w16) (a := 384) (p := 10) pc_L_law_a16 (by decide +kernel)
theorem dL_law_395 : decode cL_law 395 = .ok (.iload 4, 2) := dc_row (B := pc_L_law_w16) (a := 384) (p := 11) pc_L_law_a16 (by decide +kernel)
theorem dL_law_397 : decode cL_law 397 = .ok (.iconst 2, 1) := dc_row (B := pc_L_law_w16) (a := 384) (p := 13) pc_L_law_a16 (by decide +kernel)
theorem dL_law_398 : decode cL_law 398 = .ok (.iadd, 1) := dc_row (B := pc_L_law_w16) (a := 384) (p := 14) pc_L_law_a16 (by decide +kernel)
theorem dL_law_399 : decode cL_law 399 = .ok (.iaload, 1) := dc_row (B := pc_L_law_w16) (a := 384) (p := 15) pc_L_law_a16 (by decide +kernel)
theorem dL_law_400 : decode cL_law 400 = .ok (.invokevirtual 172, 3) := dc_row (B := pc_L_law_w16) (a := 384) (p := 16) pc_L_law_a16 (by decide +kernel)
theorem dL_law_403 : decode cL_law 403 = .ok (.istore 6, 2) := dc_row (B := pc_L_law_w16) (a := 384) (p := 19) pc_L_law_a16 (by decide +kernel)
theorem dL_law_405 : decode cL_law 405 = .ok (.goto 1425, 3) := dc_row (B := pc_L_law_w16) (a := 384) (p := 21) pc_L_law_a16 (by decide +kernel)
theorem dL_law_408 : decode cL_law 408 = .ok (.aload_n 1, 1) := dc_row (B := pc_L_law_w17) (a := 408) (p := 0) pc_L_law_a17 (by decide +kernel)
theorem dL_law_409 : decode cL_law 409 = .ok (.aload_n 0, 1) := dc_row (B := pc_L_law_w17) (a := 408) (p := 1) pc_L_law_a17 (by decide +kernel)
theorem dL_law_410 : decode cL_law 410 = .ok (.iload 4, 2) := dc_row (B := pc_L_law_w17) (a := 408) (p := 2) pc_L_law_a17 (by decide +kernel)
theorem dL_law_412 : decode cL_law 412 = .ok (.iconst 1, 1) := dc_row (B := pc_L_law_w17) (a := 408) (p := 4) pc_L_law_a17 (by decide +kernel)
theorem dL_law_413 : decode cL_law 413 = .ok (.iadd, 1) := dc_row (B := pc_L_law_w17) (a := 408) (p := 5) pc_L_law_a17 (by decide +kernel)
theorem dL_law_414 : decode cL_law 414 = .ok (.iaload, 1) := dc_row (B := pc_L_law_w17) (a := 408) (p := 6) pc_L_law_a17 (by decide +kernel)
theorem dL_law_415 : decode cL_law 415 = .ok (.aload_n 0, 1) := dc_row (B := pc_L_law_w17) (a := 408) (p := 7) pc_L_law_a17 (by decide +kernel)
theorem dL_law_416 : decode cL_law 416 = .ok (.iload 4, 2) := dc_row (B := pc_L_law_w17) (a := 408) (p := 8) pc_L_law_a17 (by decide +kernel)
theorem dL_law_418 : decode cL_law 418 = .ok (.iconst 2, 1) := dc_row (B := pc_L_law_w17) (a := 408) (p := 10) pc_L_law_a17 (by decide +kernel)
theorem dL_law_419 : decode cL_law 419 = .ok (.iadd, 1) := dc_row (B := pc_L_law_w17) (a := 408) (p := 11) pc_L_law_a17 (by decide +kernel)
theorem dL_law_420 : decode cL_law 420 = .ok (.iaload, 1) := dc_row (B := pc_L_law_w17) (a := 408) (p := 12) pc_L_law_a17 (by decide +kernel)
theorem dL_law_421 : decode cL_law 421 = .ok (.aload_n 0, 1) := dc_row (B := pc_L_law_w17) (a := 408) (p := 13) pc_L_law_a17 (by decide +kernel)
theorem dL_law_422 : decode cL_law 422 = .ok (.iload 4, 2) := dc_row (B := pc_L_law_w17) (a := 408) (p := 14) pc_L_law_a17 (by decide +kernel)
theorem dL_law_424 : decode cL_law 424 = .ok (.iconst 3, 1) := dc_row (B := pc_L_law_w17) (a := 408) (p := 16) pc_L_law_a17 (by decide +kernel)
theorem dL_law_425 : decode cL_law 425 = .ok (.iadd, 1) := dc_row (B := pc_L_law_w17) (a := 408) (p := 17) pc_L_law_a17 (by decide +kernel)
theorem dL_law_426 : decode cL_law 426 = .ok (.iaload, 1) := dc_row (B := pc_L_law_w17) (a := 408) (p := 18) pc_L_law_a17 (by decide +kernel)
theorem dL_law_427 : decode cL_law 427 = .ok (.aload_n 0, 1) := dc_row (B := pc_L_law_w17) (a := 408) (p := 19) pc_L_law_a17 (by decide +kernel)
theorem dL_law_428 : decode cL_law 428 = .ok (.iload 4, 2) := dc_row (B := pc_L_law_w17) (a := 408) (p := 20) pc_L_law_a17 (by decide +kernel)
theorem dL_law_430 : decode cL_law 430 = .ok (.iconst 4, 1) := dc_row (B := pc_L_law_w17) (a := 408) (p := 22) pc_L_law_a17 (by decide +kernel)
theorem dL_law_431 : decode cL_law 431 = .ok (.iadd, 1) := dc_row (B := pc_L_law_w17) (a := 408) (p := 23) pc_L_law_a17 (by decide +kernel)
theorem dL_law_432 : decode cL_law 432 = .ok (.iaload, 1) := dc_row (B := pc_L_law_w18) (a := 432) (p := 0) pc_L_law_a18 (by decide +kernel)
theorem dL_law_433 : decode cL_law 433 = .ok (.aload_n 3, 1) := dc_row (B := pc_L_law_w18) (a := 432) (p := 1) pc_L_law_a18 (by decide +kernel)
theorem dL_law_434 : decode cL_law 434 = .ok (.invokestatic 173, 3) := dc_row (B := pc_L_law_w18) (a := 432) (p := 2) pc_L_law_a18 (by decide +kernel)
theorem dL_law_437 : decode cL_law 437 = .ok (.istore 5, 2) := dc_row (B := pc_L_law_w18) (a := 432) (p := 5) pc_L_law_a18 (by decide +kernel)
theorem dL_law_439 : decode cL_law 439 = .ok (.aload_n 2, 1) := dc_row (B := pc_L_law_w18) (a := 432) (p := 7) pc_L_law_a18 (by decide +kernel)
theorem dL_law_440 : decode cL_law 440 = .ok (.aload_n 0, 1) := dc_row (B := pc_L_law_w18) (a := 432) (p := 8) pc_L_law_a18 (by decide +kernel)
theorem dL_law_441 : decode cL_law 441 = .ok (.iload 4, 2) := dc_row (B := pc_L_law_w18) (a := 432) (p := 9) pc_L_law_a18 (by decide +kernel)
theorem dL_law_443 : decode cL_law 443 = .ok (.iconst 1, 1) := dc_row (B := pc_L_law_w18) (a := 432) (p := 11) pc_L_law_a18 (by decide +kernel)
theorem dL_law_444 : decode cL_law 444 = .ok (.iadd, 1) := dc_row (B := pc_L_law_w18) (a := 432) (p := 12) pc_L_law_a18 (by decide +kernel)
theorem dL_law_445 : decode cL_law 445 = .ok (.iaload, 1) := dc_row (B := pc_L_law_w18) (a := 432) (p := 13) pc_L_law_a18 (by decide +kernel)
theorem dL_law_446 : decode cL_law 446 = .ok (.aload_n 0, 1) := dc_row (B := pc_L_law_w18) (a := 432) (p := 14) pc_L_law_a18 (by decide +kernel)
theorem dL_law_447 : decode cL_law 447 = .ok (.iload 4, 2) := dc_row (B := pc_L_law_w18) (a := 432) (p := 15) pc_L_law_a18 (by decide +kernel)
theorem dL_law_449 : decode cL_law 449 = .ok (.iconst 2, 1) := dc_row (B := pc_L_law_w18) (a := 432) (p := 17) pc_L_law_a18 (by decide +kernel)
theorem dL_law_450 : decode cL_law 450 = .ok (.iadd, 1) := dc_row (B := pc_L_law_w18) (a := 432) (p := 18) pc_L_law_a18 (by decide +kernel)
theorem dL_law_451 : decode cL_law 451 = .ok (.iaload, 1) := dc_row (B := pc_L_law_w18) (a := 432) (p := 19) pc_L_law_a18 (by decide +kernel)
theorem dL_law_452 : decode cL_law 452 = .ok (.aload_n 0, 1) := dc_row (B := pc_L_law_w18) (a := 432) (p := 20) pc_L_law_a18 (by decide +kernel)
theorem dL_law_453 : decode cL_law 453 = .ok (.iload 4, 2) := dc_row (B := pc_L_law_w18) (a := 432) (p := 21) pc_L_law_a18 (by decide +kernel)
theorem dL_law_455 : decode cL_law 455 = .ok (.iconst 3, 1) := dc_row (B := pc_L_law_w18) (a := 432) (p := 23) pc_L_law_a18 (by decide +kernel)
theorem dL_law_456 : decode cL_law 456 = .ok (.iadd, 1) := dc_row (B := pc_L_law_w19) (a := 456) (p := 0) pc_L_law_a19 (by decide +kernel)
theorem dL_law_457 : decode cL_law 457 = .ok (.iaload, 1) := dc_row (B := pc_L_law_w19) (a := 456) (p := 1) pc_L_law_a19 (by decide +kernel)
theorem dL_law_458 : decode cL_law 458 = .ok (.aload_n 0, 1) := dc_row (B := pc_L_law_w19) (a := 456) (p := 2) pc_L_law_a19 (by decide +kernel)
theorem dL_law_459 : decode cL_law 459 = .ok (.iload 4, 2) := dc_row (B := pc_L_law_w19) (a := 456) (p := 3) pc_L_law_a19 (by decide +kernel)
theorem dL_law_461 : decode cL_law 461 = .ok (.iconst 4, 1) := dc_row (B := pc_L_law_w19) (a := 456) (p := 5) pc_L_law_a19 (by decide +kernel)
theorem dL_law_462 : decode cL_law 462 = .ok (.iadd, 1) := dc_row (B := pc_L_law_w19) (a := 456) (p := 6) pc_L_law_a19 (by decide +kernel)
theorem dL_law_463 : decode cL_law 463 = .ok (.iaload, 1) := dc_row (B := pc_L_law_w19) (a := 456) (p := 7) pc_L_law_a19 (by decide +kernel)
theorem dL_law_464 : decode cL_law 464 = .ok (.invokevirtual 176, 3) := dc_row (B := pc_L_law_w19) (a := 456) (p := 8) pc_L_law_a19 (by decide +kernel)
theorem dL_law_467 : decode cL_law 467 = .ok (.istore 6, 2) := dc_row (B := pc_L_law_w19) (a := 456) (p := 11) pc_L_law_a19 (by decide +kernel)
theorem dL_law_469 : decode cL_law 469 = .ok (.goto 1361, 3) := dc_row (B := pc_L_law_w19) (a := 456) (p := 13) pc_L_law_a19 (by decide +kernel)
theorem dL_law_472 : decode cL_law 472 = .ok (.aload_n 1, 1) := dc_row (B := pc_L_law_w19) (a := 456) (p := 16) pc_L_law_a19 (by decide +kernel)
theorem dL_law_473 : decode cL_law 473 = .ok (.aload_n 0, 1) := dc_row (B := pc_L_law_w19) (a := 456) (p := 17) pc_L_law_a19 (by decide +kernel)
theorem dL_law_474 : decode cL_law 474 = .ok (.iload 4, 2) := dc_row (B := pc_L_law_w19) (a := 456) (p := 18) pc_L_law_a19 (by decide +kernel)
theorem dL_law_476 : decode cL_law 476 = .ok (.iconst 1, 1) := dc_row (B := pc_L_law_w19) (a := 456) (p := 20) pc_L_law_a19 (by decide +kernel)
theorem dL_law_477 : decode cL_law 477 = .ok (.iadd, 1) := dc_row (B := pc_L_law_w19) (a := 456) (p := 21) pc_L_law_a19 (by decide +kernel)
theorem dL_law_478 : decode cL_law 478 = .ok (.iaload, 1) := dc_row (B := pc_L_law_w19) (a := 456) (p := 22) pc_L_law_a19 (by decide +kernel)
theorem dL_law_479 : decode cL_law 479 = .ok (.aload_n 0, 1) := dc_row (B := pc_L_law_w19) (a := 456) (p := 23) pc_L_law_a19 (by decide +kernel)
theorem dL_law_480 : decode cL_law 480 = .ok (.iload 4, 2) := dc_row (B := pc_L_law_w20) (a := 480) (p := 0) pc_L_law_a20 (by decide +kernel)
theorem dL_law_482 : decode cL_law 482 = .ok (.iconst 2, 1) := dc_row (B := pc_L_law_w20) (a := 480) (p := 2) pc_L_law_a20 (by decide +kernel)
theorem dL_law_483 : decode cL_law 483 = .ok (.iadd, 1) := dc_row (B := pc_L_law_w20) (a := 480) (p := 3) pc_L_law_a20 (by decide +kernel)
theorem dL_law_484 : decode cL_law 484 = .ok (.iaload, 1) := dc_row (B := pc_L_law_w20) (a := 480) (p := 4) pc_L_law_a20 (by decide +kernel)
theorem dL_law_485 : decode cL_law 485 = .ok (.aload_n 0, 1) := dc_row (B := pc_L_law_w20) (a := 480) (p := 5) pc_L_law_a20 (by decide +kernel)
theorem dL_law_486 : decode cL_law 486 = .ok (.iload 4, 2) := dc_row (B := pc_L_law_w20) (a := 480) (p := 6) pc_L_law_a20 (by decide +kernel)
theorem dL_law_488 : decode cL_law 488 = .ok (.iconst 3, 1) := dc_row (B := pc_L_law_w20) (a := 480) (p := 8) pc_L_law_a20 (by decide +kernel)
theorem dL_law_489 : decode cL_law 489 = .ok (.iadd, 1) := dc_row (B := pc_L_law_w20) (a := 480) (p := 9) pc_L_law_a20 (by decide +kernel)
theorem dL_law_490 : decode cL_law 490 = .ok (.iaload, 1) := dc_row (B := pc_L_law_w20) (a := 480) (p := 10) pc_L_law_a20 (by decide +kernel)
theorem dL_law_491 : decode cL_law 491 = .ok (.aload_n 0, 1) := dc_row (B := pc_L_law_w20) (a := 480) (p := 11) pc_L_law_a20 (by decide +kernel)
theorem dL_law_492 : decode cL_law 492 = .ok (.iload 4, 2) := dc_row (B := pc_L_law_w20) (a := 480) (p := 12) pc_L_law_a20 (by decide +kernel)
theorem dL_law_494 : decode cL_law 494 = .ok (.iconst 4, 1) := dc_row (B := pc_L_law_w20) (a := 480) (p := 14) pc_L_law_a20 (by decide +kernel)
theorem dL_law_495 : decode cL_law 495 = .ok (.iadd, 1) := dc_row (B := pc_L_law_w20) (a := 480) (p := 15) pc_L_law_a20 (by decide +kernel)
theorem dL_law_496 : decode cL_law 496 = .ok (.iaload, 1) := dc_row (B := pc_L_law_w20) (a := 480) (p := 16) pc_L_law_a20 (by decide +kernel)
theorem dL_law_497 : decode cL_law 497 = .ok (.aload_n 3, 1) := dc_row (B := pc_L_law_w20) (a := 480) (p := 17) pc_L_law_a20 (by decide +kernel)
theorem dL_law_498 : decode cL_law 498 = .ok (.invokestatic 177, 3) := dc_row (B := pc_L_law_w20) (a := 480) (p := 18) pc_L_law_a20 (by decide +kernel)
theorem dL_law_501 : decode cL_law 501 = .ok (.istore 5, 2) := dc_row (B := pc_L_law_w20) (a := 480) (p := 21) pc_L_law_a20 (by decide +kernel)
theorem dL_law_503 : decode cL_law 503 = .ok (.aload_n 2, 1) := dc_row (B := pc_L_law_w20) (a := 480) (p := 23) pc_L_law_a20 (by decide +kernel)
theorem dL_law_504 : decode cL_law 504 = .ok (.aload_n 0, 1) := dc_row (B := pc_L_law_w21) (a := 504) (p := 0) pc_L_law_a21 (by decide +kernel)
theorem dL_law_505 : decode cL_law 505 = .ok (.iload 4, 2) := dc_row (B := pc_L_law_w21) (a := 504) (p := 1) pc_L_law_a21 (by decide +kernel)
theorem dL_law_507 : decode cL_law 507 = .ok (.iconst 1, 1) := dc_row (B := pc_L_law_w21) (a := 504) (p := 3) pc_L_law_a21 (by decide +kernel)
theorem dL_law_508 : decode cL_law 508 = .ok (.iadd, 1) := dc_row (B := pc_L_law_w21) (a := 504) (p := 4) pc_L_law_a21 (by decide +kernel)
theorem dL_law_509 : decode cL_law 509 = .ok (.iaload, 1) := dc_row (B := pc_L_law_w21) (a := 504) (p := 5) pc_L_law_a21 (by decide +kernel)
theorem dL_law_510 : decode cL_law 510 = .ok (.aload_n 0, 1) := dc_row (B := pc_L_law_w21) (a := 504) (p := 6) pc_L_law_a21 (by decide +kernel)
theorem dL_law_511 : decode cL_law 511 = .ok (.iload 4, 2) := dc_row (B := pc_L_law_w21) (a := 504) (p := 7) pc_L_law_a21 (by decide +kernel)
theorem dL_law_513 : decode cL_law 513 = .ok (.iconst 2, 1) := dc_row (B := pc_L_law_w21) (a := 504) (p := 9) pc_L_law_a21 (by decide +kernel)
theorem dL_law_514 : decode cL_law 514 = .ok (.iadd, 1) := dc_row (B := pc_L_law_w21) (a := 504) (p := 10) pc_L_law_a21 (by decide +kernel)
theorem dL_law_515 : decode cL_law 515 = .ok (.iaload, 1) := dc_row (B := pc_L_law_w21) (a := 504) (p := 11) pc_L_law_a21 (by decide +kernel)
theorem dL_law_516 : decode cL_law 516 = .ok (.aload_n 0, 1) := dc_row (B := pc_L_law_w21) (a := 504) (p := 12) pc_L_law_a21 (by decide +kernel)
theorem dL_law_517 : decode cL_law 517 = .ok (.iload 4, 2) := dc_row (B := pc_L_law_w21) (a := 504) (p := 13) pc_L_law_a21 (by decide +kernel)
theorem dL_law_519 : decode cL_law 519 = .ok (.iconst 3, 1) := dc_row (B := pc_L_law_w21) (a := 504) (p := 15) pc_L_law_a21 (by decide +kernel)
theorem dL_law_520 : decode cL_law 520 = .ok (.iadd, 1) := dc_row (B := pc_L_law_w21) (a := 504) (p := 16) pc_L_law_a21 (by decide +kernel)
theorem dL_law_521 : decode cL_law 521 = .ok (.iaload, 1) := dc_row (B := pc_L_law_w21) (a := 504) (p := 17) pc_L_law_a21 (by decide +kernel)
theorem dL_law_522 : decode cL_law 522 = .ok (.aload_n 0, 1) := dc_row (B := pc_L_law_w21) (a := 504) (p := 18) pc_L_law_a21 (by decide +kernel)
theorem dL_law_523 : decode cL_law 523 = .ok (.iload 4, 2) := dc_row (B := pc_L_law_w21) (a := 504) (p := 19) pc_L_law_a21 (by decide +kernel)
theorem dL_law_525 : decode cL_law 525 = .ok (.iconst 4, 1) := dc_row (B := pc_L_law_w21) (a := 504) (p := 21) pc_L_law_a21 (by decide +kernel)
theorem dL_law_526 : decode cL_law 526 = .ok (.iadd, 1) := dc_row (B := pc_L_law_w21) (a := 504) (p := 22) pc_L_law_a21 (by decide +kernel)
theorem dL_law_527 : decode cL_law 527 = .ok (.iaload, 1) := dc_row (B := pc_L_law_w21) (a := 504) (p := 23) pc_L_law_a21 (by decide +kernel)
theorem dL_law_528 : decode cL_law 528 = .ok (.invokevirtual 179, 3) := dc_row (B := pc_L_law_w22) (a := 528) (p := 0) pc_L_law_a22 (by decide +kernel)
theorem dL_law_531 : decode cL_law 531 = .ok (.istore 6, 2) := dc_row (B := pc_L_law_w22) (a := 528) (p := 3) pc_L_law_a22 (by decide +kernel)
theorem dL_law_533 : decode cL_law 533 = .ok (.goto 1297, 3) := dc_row (B := pc_L_law_w22) (a := 528) (p := 5) pc_L_law_a22 (by decide +kernel)
theorem dL_law_536 : decode cL_law 536 = .ok (.aload_n 1, 1) := dc_row (B := pc_L_law_w22) (a := 528) (p := 8) pc_L_law_a22 (by decide +kernel)
theorem dL_law_537 : decode cL_law 537 = .ok (.aload_n 0, 1) := dc_row (B := pc_L_law_w22) (a := 528) (p := 9) pc_L_law_a22 (by decide +kernel)
theorem dL_law_538 : decode cL_law 538 = .ok (.iload 4, 2) := dc_row (B := pc_L_law_w22) (a := 528) (p := 10) pc_L_law_a22 (by decide +kernel)
theorem dL_law_540 : decode cL_law 540 = .ok (.iconst 1, 1) := dc_row (B := pc_L_law_w22) (a := 528) (p := 12) pc_L_law_a22 (by decide +kernel)
theorem dL_law_541 : decode cL_law 541 = .ok (.iadd, 1) := dc_row (B := pc_L_law_w22) (a := 528) (p := 13) pc_L_law_a22 (by decide +kernel)
theorem dL_law_542 : decode cL_law 542 = .ok (.iaload, 1) := dc_row (B := pc_L_law_w22) (a := 528) (p := 14) pc_L_law_a22 (by decide +kernel)
theorem dL_law_543 : decode cL_law 543 = .ok (.aload_n 0, 1) := dc_row (B := pc_L_law_w22) (a := 528) (p := 15) pc_L_law_a22 (by decide +kernel)
theorem dL_law_544 : decode cL_law 544 = .ok (.iload 4, 2) := dc_row (B := pc_L_law_w22) (a := 528) (p := 16) pc_L_law_a22 (by decide +kernel)
theorem dL_law_546 : decode cL_law 546 = .ok (.iconst 2, 1) := dc_row (B := pc_L_law_w22) (a := 528) (p := 18) pc_L_law_a22 (by decide +kernel)
theorem dL_law_547 : decode cL_law 547 = .ok (.iadd, 1) := dc_row (B := pc_L_law_w22) (a := 528) (p := 19) pc_L_law_a22 (by decide +kernel)
theorem dL_law_548 : decode cL_law 548 = .ok (.iaload, 1) := dc_row (B := pc_L_law_w22) (a := 528) (p := 20) pc_L_law_a22 (by decide +kernel)
theorem dL_law_549 : decode cL_law 549 = .ok (.aload_n 0, 1) := dc_row (B := pc_L_law_w22) (a := 528) (p := 21) pc_L_law_a22 (by decide +kernel)
theorem dL_law_550 : decode cL_law 550 = .ok (.iload 4, 2) := dc_row (B := pc_L_law_w22) (a := 528) (p := 22) pc_L_law_a22 (by decide +kernel)
theorem dL_law_552 : decode cL_law 552 = .ok (.iconst 3, 1) := dc_row (B := pc_L_law_w23) (a := 552) (p := 0) pc_L_law_a23 (by decide +kernel)
theorem dL_law_553 : decode cL_law 553 = .ok (.iadd, 1) := dc_row (B := pc_L_law_w23) (a := 552) (p := 1) pc_L_law_a23 (by decide +kernel)
theorem dL_law_554 : decode cL_law 554 = .ok (.iaload, 1) := dc_row (B := pc_L_law_w23) (a := 552) (p := 2) pc_L_law_a23 (by decide +kernel)
theorem dL_law_555 : decode cL_law 555 = .ok (.aload_n 0, 1) := dc_row (B := pc_L_law_w23) (a := 552) (p := 3) pc_L_law_a23 (by decide +kernel)
theorem dL_law_556 : decode cL_law 556 = .ok (.iload 4, 2) := dc_row (B := pc_L_law_w23) (a := 552) (p := 4) pc_L_law_a23 (by decide +kernel)
theorem dL_law_558 : decode cL_law 558 = .ok (.iconst 4, 1) := dc_row (B := pc_L_law_w23) (a := 552) (p := 6) pc_L_law_a23 (by decide +kernel)
theorem dL_law_559 : decode cL_law 559 = .ok (.iadd, 1) := dc_row (B := pc_L_law_w23) (a := 552) (p := 7) pc_L_law_a23 (by decide +kernel)
theorem dL_law_560 : decode cL_law 560 = .ok (.iaload, 1) := dc_row (B := pc_L_law_w23) (a := 552) (p := 8) pc_L_law_a23 (by decide +kernel)
theorem dL_law_561 : decode cL_law 561 = .ok (.aload_n 3, 1) := dc_row (B := pc_L_law_w23) (a := 552) (p := 9) pc_L_law_a23 (by decide +kernel)
theorem dL_law_562 : decode cL_law 562 = .ok (.invokestatic 180, 3) := dc_row (B := pc_L_law_w23) (a := 552) (p := 10) pc_L_law_a23 (by decide +kernel)
theorem dL_law_565 : decode cL_law 565 = .ok (.istore 5, 2) := dc_row (B := pc_L_law_w23) (a := 552) (p := 13) pc_L_law_a23 (by decide +kernel)
theorem dL_law_567 : decode cL_law 567 = .ok (.aload_n 2, 1) := dc_row (B := pc_L_law_w23) (a := 552) (p := 15) pc_L_law_a23 (by decide +kernel)
theorem dL_law_568 : decode cL_law 568 = .ok (.aload_n 0, 1) := dc_row (B := pc_L_law_w23) (a := 552) (p := 16) pc_L_law_a23 (by decide +kernel)
theorem dL_law_569 : decode cL_law 569 = .ok (.iload 4, 2) := dc_row (B := pc_L_law_w23) (a := 552) (p := 17) pc_L_law_a23 (by decide +kernel)
theorem dL_law_571 : decode cL_law 571 = .ok (.iconst 1, 1) := dc_row (B := pc_L_law_w23) (a := 552) (p := 19) pc_L_law_a23 (by decide +kernel)
theorem dL_law_572 : decode cL_law 572 = .ok (.iadd, 1) := dc_row (B := pc_L_law_w23) (a := 552) (p := 20) pc_L_law_a23 (by decide +kernel)
theorem dL_law_573 : decode cL_law 573 = .ok (.iaload, 1) := dc_row (B := pc_L_law_w23) (a := 552) (p := 21) pc_L_law_a23 (by decide +kernel)
theorem dL_law_574 : decode cL_law 574 = .ok (.aload_n 0, 1) := dc_row (B := pc_L_law_w23) (a := 552) (p := 22) pc_L_law_a23 (by decide +kernel)
theorem dL_law_575 : decode cL_law 575 = .ok (.iload 4, 2) := dc_row (B := pc_L_law_w23) (a := 552) (p := 23) pc_L_law_a23 (by decide +kernel)
theorem dL_law_577 : decode cL_law 577 = .ok (.iconst 2, 1) := dc_row (B := pc_L_law_w24) (a := 576) (p := 1) pc_L_law_a24 (by decide +kernel)
theorem dL_law_578 : decode cL_law 578 = .ok (.iadd, 1) := dc_row (B := pc_L_law_w24) (a := 576) (p := 2) pc_L_law_a24 (by decide +kernel)
theorem dL_law_579 : decode cL_law 579 = .ok (.iaload, 1) := dc_row (B := pc_L_law_w24) (a := 576) (p := 3) pc_L_law_a24 (by decide +kernel)
theorem dL_law_580 : decode cL_law 580 = .ok (.aload_n 0, 1) := dc_row (B := pc_L_law_w24) (a := 576) (p := 4) pc_L_law_a24 (by decide +kernel)
theorem dL_law_581 : decode cL_law 581 = .ok (.iload 4, 2) := dc_row (B := pc_L_law_w24) (a := 576) (p := 5) pc_L_law_a24 (by decide +kernel)
theorem dL_law_583 : decode cL_law 583 = .ok (.iconst 3, 1) := dc_row (B := pc_L_law_w24) (a := 576) (p := 7) pc_L_law_a24 (by decide +kernel)
theorem dL_law_584 : decode cL_law 584 = .ok (.iadd, 1) := dc_row (B := pc_L_law_w24) (a := 576) (p := 8) pc_L_law_a24 (by decide +kernel)
theorem dL_law_585 : decode cL_law 585 = .ok (.iaload, 1) := dc_row (B := pc_L_law_w24) (a := 576) (p := 9) pc_L_law_a24 (by decide +kernel)
theorem dL_law_586 : decode cL_law 586 = .ok (.aload_n 0, 1) := dc_row (B := pc_L_law_w24) (a := 576) (p := 10) pc_L_law_a24 (by decide +kernel)
theorem dL_law_587 : decode cL_law 587 = .ok (.iload 4, 2) := dc_row (B := pc_L_law_w24) (a := 576) (p := 11) pc_L_law_a24 (by decide +kernel)
theorem dL_law_589 : decode cL_law 589 = .ok (.iconst 4, 1) := dc_row (B := pc_L_law_w24) (a := 576) (p := 13) pc_L_law_a24 (by decide +kernel)
theorem dL_law_590 : decode cL_law 590 = .ok (.iadd, 1) := dc_row (B := pc_L_law_w24) (a := 576) (p := 14) pc_L_law_a24 (by decide +kernel)
theorem dL_law_591 : decode cL_law 591 = .ok (.iaload, 1) := dc_row (B := pc_L_law_w24) (a := 576) (p := 15) pc_L_law_a24 (by decide +kernel)
theorem dL_law_592 : decode cL_law 592 = .ok (.invokevirtual 182, 3) := dc_row (B := pc_L_law_w24) (a := 576) (p := 16) pc_L_law_a24 (by decide +kernel)
theorem dL_law_595 : decode cL_law 595 = .ok (.istore 6, 2) := dc_row (B := pc_L_law_w24) (a := 576) (p := 19) pc_L_law_a24 (by decide +kernel)
theorem dL_law_597 : decode cL_law 597 = .ok (.goto 1233, 3) := dc_row (B := pc_L_law_w24) (a := 576) (p := 21) pc_L_law_a24 (by decide +kernel)
theorem dL_law_600 : decode cL_law 600 = .ok (.aload_n 1, 1) := dc_row (B := pc_L_law_w25) (a := 600) (p := 0) pc_L_law_a25 (by decide +kernel)
theorem dL_law_601 : decode cL_law 601 = .ok (.aload_n 0, 1) := dc_row (B := pc_L_law_w25) (a := 600) (p := 1) pc_L_law_a25 (by decide +kernel)
theorem dL_law_602 : decode cL_law 602 = .ok (.iload 4, 2) := dc_row (B := pc_L_law_w25) (a := 600) (p := 2) pc_L_law_a25 (by decide +kernel)
theorem dL_law_604 : decode cL_law 604 = .ok (.iconst 1, 1) := dc_row (B := pc_L_law_w25) (a := 600) (p := 4) pc_L_law_a25 (by decide +kernel)
theorem dL_law_605 : decode cL_law 605 = .ok (.iadd, 1) := dc_row (B := pc_L_law_w25) (a := 600) (p := 5) pc_L_law_a25 (by decide +kernel)
theorem dL_law_606 : decode cL_law 606 = .ok (.iaload, 1) := dc_row (B := pc_L_law_w25) (a := 600) (p := 6) pc_L_law_a25 (by decide +kernel)
theorem dL_law_607 : decode cL_law 607 = .ok (.aload_n 0, 1) := dc_row (B := pc_L_law_w25) (a := 600) (p := 7) pc_L_law_a25 (by decide +kernel)
theorem dL_law_608 : decode cL_law 608 = .ok (.iload 4, 2) := dc_row (B := pc_L_law_w25) (a := 600) (p := 8) pc_L_law_a25 (by decide +kernel)
theorem dL_law_610 : decode cL_law 610 = .ok (.iconst 2, 1) := dc_row (B := pc_L_law_w25) (a := 600) (p := 10) pc_L_law_a25 (by decide +kernel)
theorem dL_law_611 : decode cL_law 611 = .ok (.iadd, 1) := dc_row (B := pc_L_law_w25) (a := 600) (p := 11) pc_L_law_a25 (by decide +kernel)
theorem dL_law_612 : decode cL_law 612 = .ok (.iaload, 1) := dc_row (B := pc_L_law_w25) (a := 600) (p := 12) pc_L_law_a25 (by decide +kernel)
theorem dL_law_613 : decode cL_law 613 = .ok (.aload_n 0, 1) := dc_row (B := pc_L_law_w25) (a := 600) (p := 13) pc_L_law_a25 (by decide +kernel)
theorem dL_law_614 : decode cL_law 614 = .ok (.iload 4, 2) := dc_row (B := pc_L_law_w25) (a := 600) (p := 14) pc_L_law_a25 (by decide +kernel)
theorem dL_law_616 : decode cL_law 616 = .ok (.iconst 3, 1) := dc_row (B := pc_L_law_w25) (a := 600) (p := 16) pc_L_law_a25 (by decide +kernel)
theorem dL_law_617 : decode cL_law 617 = .ok (.iadd, 1) := dc_row (B := pc_L_law_w25) (a := 600) (p := 17) pc_L_law_a25 (by decide +kernel)
theorem dL_law_618 : decode cL_law 618 = .ok (.iaload, 1) := dc_row (B := pc_L_law_w25) (a := 600) (p := 18) pc_L_law_a25 (by decide +kernel)
theorem dL_law_619 : decode cL_law 619 = .ok (.aload_n 3, 1) := dc_row (B := pc_L_law_w25) (a := 600) (p := 19) pc_L_law_a25 (by decide +kernel)
theorem dL_law_620 : decode cL_law 620 = .ok (.invokestatic 183, 3) := dc_row (B := pc_L_law_w25) (a := 600) (p := 20) pc_L_law_a25 (by decide +kernel)
theorem dL_law_623 : decode cL_law 623 = .ok (.istore 5, 2) := dc_row (B := pc_L_law_w25) (a := 600) (p := 23) pc_L_law_a25 (by decide +kernel)
theorem dL_law_625 : decode cL_law 625 = .ok (.aload_n 2, 1) := dc_row (B := pc_L_law_w26) (a := 624) (p := 1) pc_L_law_a26 (by decide +kernel)
theorem dL_law_626 : decode cL_law 626 = .ok (.aload_n 0, 1) := dc_row (B := pc_L_law_w26) (a := 624) (p := 2) pc_L_law_a26 (by decide +kernel)
theorem dL_law_627 : decode cL_law 627 = .ok (.iload 4, 2) := dc_row (B := pc_L_law_w26) (a := 624) (p := 3) pc_L_law_a26 (by decide +kernel)
theorem dL_law_629 : decode cL_law 629 = .ok (.iconst 1, 1) := dc_row (B := pc_L_law_w26) (a := 624) (p := 5) pc_L_law_a26 (by decide +kernel)
theorem dL_law_630 : decode cL_law 630 = .ok (.iadd, 1) := dc_row (B := pc_L_law_w26) (a := 624) (p := 6) pc_L_law_a26 (by decide +kernel)
theorem dL_law_631 : decode cL_law 631 = .ok (.iaload, 1) := dc_row (B := pc_L_law_w26) (a := 624) (p := 7) pc_L_law_a26 (by decide +kernel)
theorem dL_law_632 : decode cL_law 632 = .ok (.aload_n 0, 1) := dc_row (B := pc_L_law_w26) (a := 624) (p := 8) pc_L_law_a26 (by decide +kernel)
theorem dL_law_633 : decode cL_law 633 = .ok (.iload 4, 2) := dc_row (B := pc_L_law_w26) (a := 624) (p := 9) pc_L_law_a26 (by decide +kernel)
theorem dL_law_635 : decode cL_law 635 = .ok (.iconst 2, 1) := dc_row (B := pc_L_law_w26) (a := 624) (p := 11) pc_L_law_a26 (by decide +kernel)
theorem dL_law_636 : decode cL_law 636 = .ok (.iadd, 1) := dc_row (B := pc_L_law_w26) (a := 624) (p := 12) pc_L_law_a26 (by decide +kernel)
theorem dL_law_637 : decode cL_law 637 = .ok (.iaload, 1) := dc_row (B := pc_L_law_w26) (a := 624) (p := 13) pc_L_law_a26 (by decide +kernel)
theorem dL_law_638 : decode cL_law 638 = .ok (.aload_n 0, 1) := dc_row (B := pc_L_law_w26) (a := 624) (p := 14) pc_L_law_a26 (by decide +kernel)
theorem dL_law_639 : decode cL_law 639 = .ok (.iload 4, 2) := dc_row (B := pc_L_law_w26) (a := 624) (p := 15) pc_L_law_a26 (by decide +kernel)
theorem dL_law_641 : decode cL_law 641 = .ok (.iconst 3, 1) := dc_row (B := pc_L_law_w26) (a := 624) (p := 17) pc_L_law_a26 (by decide +kernel)
theorem dL_law_642 : decode cL_law 642 = .ok (.iadd, 1) := dc_row (B := pc_L_law_w26) (a := 624) (p := 18) pc_L_law_a26 (by decide +kernel)
theorem dL_law_643 : decode cL_law 643 = .ok (.iaload, 1) := dc_row (B := pc_L_law_w26) (a := 624) (p := 19) pc_L_law_a26 (by decide +kernel)
theorem dL_law_644 : decode cL_law 644 = .ok (.invokevirtual 186, 3) := dc_row (B := pc_L_law_w26) (a := 624) (p := 20) pc_L_law_a26 (by decide +kernel)
theorem dL_law_647 : decode cL_law 647 = .ok (.istore 6, 2) := dc_row (B := pc_L_law_w26) (a := 624) (p := 23) pc_L_law_a26 (by decide +kernel)
theorem dL_law_649 : decode cL_law 649 = .ok (.goto 1181, 3) := dc_row (B := pc_L_law_w27) (a := 648) (p := 1) pc_L_law_a27 (by decide +kernel)
theorem dL_law_652 : decode cL_law 652 = .ok (.aload_n 1, 1) := dc_row (B := pc_L_law_w27) (a := 648) (p := 4) pc_L_law_a27 (by decide +kernel)
theorem dL_law_653 : decode cL_law 653 = .ok (.aload_n 0, 1) := dc_row (B := pc_L_law_w27) (a := 648) (p := 5) pc_L_law_a27 (by decide +kernel)
theorem dL_law_654 : decode cL_law 654 = .ok (.iload 4, 2) := dc_row (B := pc_L_law_w27) (a := 648) (p := 6) pc_L_law_a27 (by decide +kernel)
theorem dL_law_656 : decode cL_law 656 = .ok (.iconst 1, 1) := dc_row (B := pc_L_law_w27) (a := 648) (p := 8) pc_L_law_a27 (by decide +kernel)
theorem dL_law_657 : decode cL_law 657 = .ok (.iadd, 1) := dc_row (B := pc_L_law_w27) (a := 648) (p := 9) pc_L_law_a27 (by decide +kernel)
theorem dL_law_658 : decode cL_law 658 = .ok (.iaload, 1) := dc_row (B := pc_L_law_w27) (a := 648) (p := 10) pc_L_law_a27 (by decide +kernel)
theorem dL_law_659 : decode cL_law 659 = .ok (.aload_n 0, 1) := dc_row (B := pc_L_law_w27) (a := 648) (p := 11) pc_L_law_a27 (by decide +kernel)
theorem dL_law_660 : decode cL_law 660 = .ok (.iload 4, 2) := dc_row (B := pc_L_law_w27) (a := 648) (p := 12) pc_L_law_a27 (by decide +kernel)
theorem dL_law_662 : decode cL_law 662 = .ok (.iconst 2, 1) := dc_row (B := pc_L_law_w27) (a := 648) (p := 14) pc_L_law_a27 (by decide +kernel)
theorem dL_law_663 : decode cL_law 663 = .ok (.iadd, 1) := dc_row (B := pc_L_law_w27) (a := 648) (p := 15) pc_L_law_a27 (by decide +kernel)
theorem dL_law_664 : decode cL_law 664 = .ok (.iaload, 1) := dc_row (B := pc_L_law_w27) (a := 648) (p := 16) pc_L_law_a27 (by decide +kernel)
theorem dL_law_665 : decode cL_law 665 = .ok (.aload_n 3, 1) := dc_row (B := pc_L_law_w27) (a := 648) (p := 17) pc_L_law_a27 (by decide +kernel)
theorem dL_law_666 : decode cL_law 666 = .ok (.invokestatic 187, 3) := dc_row (B := pc_L_law_w27) (a := 648) (p := 18) pc_L_law_a27 (by decide +kernel)
theorem dL_law_669 : decode cL_law 669 = .ok (.istore 5, 2) := dc_row (B := pc_L_law_w27) (a := 648) (p := 21) pc_L_law_a27 (by decide +kernel)
theorem dL_law_671 : decode cL_law 671 = .ok (.aload_n 2, 1) := dc_row (B := pc_L_law_w27) (a := 648) (p := 23) pc_L_law_a27 (by decide +kernel)
theorem dL_law_672 : decode cL_law 672 = .ok (.aload_n 0, 1) := dc_row (B := pc_L_law_w28) (a := 672) (p := 0) pc_L_law_a28 (by decide +kernel)
theorem dL_law_673 : decode cL_law 673 = .ok (.iload 4, 2) := dc_row (B := pc_L_law_w28) (a := 672) (p := 1) pc_L_law_a28 (by decide +kernel)
theorem dL_law_675 : decode cL_law 675 = .ok (.iconst 1, 1) := dc_row (B := pc_L_law_w28) (a := 672) (p := 3) pc_L_law_a28 (by decide +kernel)
theorem dL_law_676 : decode cL_law 676 = .ok (.iadd, 1) := dc_row (B := pc_L_law_w28) (a := 672) (p := 4) pc_L_law_a28 (by decide +kernel)
theorem dL_law_677 : decode cL_law 677 = .ok (.iaload, 1) := dc_row (B := pc_L_law_w28) (a := 672) (p := 5) pc_L_law_a28 (by decide +kernel)
theorem dL_law_678 : decode cL_law 678 = .ok (.aload_n 0, 1) := dc_row (B := pc_L_law_w28) (a := 672) (p := 6) pc_L_law_a28 (by decide +kernel)
theorem dL_law_679 : decode cL_law 679 = .ok (.iload 4, 2) := dc_row (B := pc_L_law_w28) (a := 672) (p := 7) pc_L_law_a28 (by decide +kernel)
theorem dL_law_681 : decode cL_law 681 = .ok (.iconst 2, 1) := dc_row (B := pc_L_law_w28) (a := 672) (p := 9) pc_L_law_a28 (by decide +kernel)
theorem dL_law_682 : decode cL_law 682 = .ok (.iadd, 1) := dc_row (B := pc_L_law_w28) (a := 672) (p := 10) pc_L_law_a28 (by decide +kernel)
theorem dL_law_683 : decode cL_law 683 = .ok (.iaload, 1) := dc_row (B := pc_L_law_w28) (a := 672) (p := 11) pc_L_law_a28 (by decide +kernel)
theorem dL_law_684 : decode cL_law 684 = .ok (.invokevirtual 189, 3) := dc_row (B := pc_L_law_w28) (a := 672) (p := 12) pc_L_law_a28 (by decide +kernel)
theorem dL_law_687 : decode cL_law 687 = .ok (.istore 6, 2) := dc_row (B := pc_L_law_w28) (a := 672) (p := 15) pc_L_law_a28 (by decide +kernel)
theorem dL_law_689 : decode cL_law 689 = .ok (.goto 1141, 3) := dc_row (B := pc_L_law_w28) (a := 672) (p := 17) pc_L_law_a28 (by decide +kernel)
theorem dL_law_692 : decode cL_law 692 = .ok (.aload_n 1, 1) := dc_row (B := pc_L_law_w28) (a := 672) (p := 20) pc_L_law_a28 (by decide +kernel)
theorem dL_law_693 : decode cL_law 693 = .ok (.aload_n 0, 1) := dc_row (B := pc_L_law_w28) (a := 672) (p := 21) pc_L_law_a28 (by decide +kernel)
theorem dL_law_694 : decode cL_law 694 = .ok (.iload 4, 2) := dc_row (B := pc_L_law_w28) (a := 672) (p := 22) pc_L_law_a28 (by decide +kernel)
theorem dL_law_696 : decode cL_law 696 = .ok (.iconst 1, 1) := dc_row (B := pc_L_law_w29) (a := 696) (p := 0) pc_L_law_a29 (by decide +kernel)
theorem dL_law_697 : decode cL_law 697 = .ok (.iadd, 1) := dc_row (B := pc_L_law_w29) (a := 696) (p := 1) pc_L_law_a29 (by decide +kernel)
theorem dL_law_698 : decode cL_law 698 = .ok (.iaload, 1) := dc_row (B := pc_L_law_w29) (a := 696) (p := 2) pc_L_law_a29 (by decide +kernel)
theorem dL_law_699 : decode cL_law 699 = .ok (.aload_n 0, 1) := dc_row (B := pc_L_law_w29) (a := 696) (p := 3) pc_L_law_a29 (by decide +kernel)
theorem dL_law_700 : decode cL_law 700 = .ok (.iload 4, 2) := dc_row (B := pc_L_law_w29) (a := 696) (p := 4) pc_L_law_a29 (by decide +kernel)
theorem dL_law_702 : decode cL_law 702 = .ok (.iconst 2, 1) := dc_row (B := pc_L_law_w29) (a := 696) (p := 6) pc_L_law_a29 (by decide +kernel)
theorem dL_law_703 : decode cL_law 703 = .ok (.iadd, 1) := dc_row (B := pc_L_law_w29) (a := 696) (p := 7) pc_L_law_a29 (by decide +kernel)
theorem dL_law_704 : decode cL_law 704 = .ok (.iaload, 1) := dc_row (B := pc_L_law_w29) (a := 696) (p := 8) pc_L_law_a29 (by decide +kernel)
theorem dL_law_705 : decode cL_law 705 = .ok (.aload_n 0, 1) := dc_row (B := pc_L_law_w29) (a := 696) (p := 9) pc_L_law_a29 (by decide +kernel)
theorem dL_law_706 : decode cL_law 706 = .ok (.iload 4, 2) := dc_row (B := pc_L_law_w29) (a := 696) (p := 10) pc_L_law_a29 (by decide +kernel)
theorem dL_law_708 : decode cL_law 708 = .ok (.iconst 3, 1) := dc_row (B := pc_L_law_w29) (a := 696) (p := 12) pc_L_law_a29 (by decide +kernel)
theorem dL_law_709 : decode cL_law 709 = .ok (.iadd, 1) := dc_row (B := pc_L_law_w29) (a := 696) (p := 13) pc_L_law_a29 (by decide +kernel)
theorem dL_law_710 : decode cL_law 710 = .ok (.iaload, 1) := dc_row (B := pc_L_law_w29) (a := 696) (p := 14) pc_L_law_a29 (by decide +kernel)
theorem dL_law_711 : decode cL_law 711 = .ok (.aload_n 0, 1) := dc_row (B := pc_L_law_w29) (a := 696) (p := 15) pc_L_law_a29 (by decide +kernel)
theorem dL_law_712 : decode cL_law 712 = .ok (.iload 4, 2) := dc_row (B := pc_L_law_w29) (a := 696) (p := 16) pc_L_law_a29 (by decide +kernel)
theorem dL_law_714 : decode cL_law 714 = .ok (.iconst 4, 1) := dc_row (B := pc_L_law_w29) (a := 696) (p := 18) pc_L_law_a29 (by decide +kernel)
theorem dL_law_715 : decode cL_law 715 = .ok (.iadd, 1) := dc_row (B := pc_L_law_w29) (a := 696) (p := 19) pc_L_law_a29 (by decide +kernel)
theorem dL_law_716 : decode cL_law 716 = .ok (.iaload, 1) := dc_row (B := pc_L_law_w29) (a := 696) (p := 20) pc_L_law_a29 (by decide +kernel)
theorem dL_law_717 : decode cL_law 717 = .ok (.aload_n 0, 1) := dc_row (B := pc_L_law_w29) (a := 696) (p := 21) pc_L_law_a29 (by decide +kernel)
theorem dL_law_718 : decode cL_law 718 = .ok (.iload 4, 2) := dc_row (B := pc_L_law_w29) (a := 696) (p := 22) pc_L_law_a29 (by decide +kernel)
theorem dL_law_720 : decode cL_law 720 = .ok (.iconst 5, 1) := dc_row (B := pc_L_law_w30) (a := 720) (p := 0) pc_L_law_a30 (by decide +kernel)
theorem dL_law_721 : decode cL_law 721 = .ok (.iadd, 1) := dc_row (B := pc_L_law_w30) (a := 720) (p := 1) pc_L_law_a30 (by decide +kernel)
theorem dL_law_722 : decode cL_law 722 = .ok (.iaload, 1) := dc_row (B := pc_L_law_w30) (a := 720) (p := 2) pc_L_law_a30 (by decide +kernel)
theorem dL_law_723 : decode cL_law 723 = .ok (.aload_n 3, 1) := dc_row (B := pc_L_law_w30) (a := 720) (p := 3) pc_L_law_a30 (by decide +kernel)
theorem dL_law_724 : decode cL_law 724 = .ok (.invokestatic 190, 3) := dc_row (B := pc_L_law_w30) (a := 720) (p := 4) pc_L_law_a30 (by decide +kernel)
theorem dL_law_727 : decode cL_law 727 = .ok (.istore 5, 2) := dc_row (B := pc_L_law_w30) (a := 720) (p := 7) pc_L_law_a30 (by decide +kernel)
theorem dL_law_729 : decode cL_law 729 = .ok (.aload_n 2, 1) := dc_row (B := pc_L_law_w30) (a := 720) (p := 9) pc_L_law_a30 (by decide +kernel)
theorem dL_law_730 : decode cL_law 730 = .ok (.aload_n 0, 1) := dc_row (B := pc_L_law_w30) (a := 720) (p := 10) pc_L_law_a30 (by decide +kernel)
theorem dL_law_731 : decode cL_law 731 = .ok (.iload 4, 2) := dc_row (B := pc_L_law_w30) (a := 720) (p := 11) pc_L_law_a30 (by decide +kernel)
theorem dL_law_733 : decode cL_law 733 = .ok (.iconst 1, 1) := dc_row (B := pc_L_law_w30) (a := 720) (p := 13) pc_L_law_a30 (by decide +kernel)
theorem dL_law_734 : decode cL_law 734 = .ok (.iadd, 1) := dc_row (B := pc_L_law_w30) (a := 720) (p := 14) pc_L_law_a30 (by decide +kernel)
theorem dL_law_735 : decode cL_law 735 = .ok (.iaload, 1) := dc_row (B := pc_L_law_w30) (a := 720) (p := 15) pc_L_law_a30 (by decide +kernel)
theorem dL_law_736 : decode cL_law 736 = .ok (.aload_n 0, 1) := dc_row (B := pc_L_law_w30) (a := 720) (p := 16) pc_L_law_a30 (by decide +kernel)
theorem dL_law_737 : decode cL_law 737 = .ok (.iload 4, 2) := dc_row (B := pc_L_law_w30) (a := 720) (p := 17) pc_L_law_a30 (by decide +kernel)
theorem dL_law_739 : decode cL_law 739 = .ok (.iconst 2, 1) := dc_row (B := pc_L_law_w30) (a := 720) (p := 19) pc_L_law_a30 (by decide +kernel)
theorem dL_law_740 : decode cL_law 740 = .ok (.iadd, 1) := dc_row (B := pc_L_law_w30) (a := 720) (p := 20) pc_L_law_a30 (by decide +kernel)
theorem dL_law_741 : decode cL_law 741 = .ok (.iaload, 1) := dc_row (B := pc_L_law_w30) (a := 720) (p := 21) pc_L_law_a30 (by decide +kernel)
theorem dL_law_742 : decode cL_law 742 = .ok (.aload_n 0, 1) := dc_row (B := pc_L_law_w30) (a := 720) (p := 22) pc_L_law_a30 (by decide +kernel)
theorem dL_law_743 : decode cL_law 743 = .ok (.iload 4, 2) := dc_row (B := pc_L_law_w30) (a := 720) (p := 23) pc_L_law_a30 (by decide +kernel)
theorem dL_law_745 : decode cL_law 745 = .ok (.iconst 3, 1) := dc_row (B := pc_L_law_w31) (a := 744) (p := 1) pc_L_law_a31 (by decide +kernel)
theorem dL_law_746 : decode cL_law 746 = .ok (.iadd, 1) := dc_row (B := pc_L_law_w31) (a := 744) (p := 2) pc_L_law_a31 (by decide +kernel)
theorem dL_law_747 : decode cL_law 747 = .ok (.iaload, 1) := dc_row (B := pc_L_law_w31) (a := 744) (p := 3) pc_L_law_a31 (by decide +kernel)
theorem dL_law_748 : decode cL_law 748 = .ok (.aload_n 0, 1) := dc_row (B := pc_L_law_w31) (a := 744) (p := 4) pc_L_law_a31 (by decide +kernel)
theorem dL_law_749 : decode cL_law 749 = .ok (.iload 4, 2) := dc_row (B := pc_L_law_w31) (a := 744) (p := 5) pc_L_law_a31 (by decide +kernel)
theorem dL_law_751 : decode cL_law 751 = .ok (.iconst 4, 1) := dc_row (B := pc_L_law_w31) (a := 744) (p := 7) pc_L_law_a31 (by decide +kernel)
theorem dL_law_752 : decode cL_law 752 = .ok (.iadd, 1) := dc_row (B := pc_L_law_w31) (a := 744) (p := 8) pc_L_law_a31 (by decide +kernel)
theorem dL_law_753 : decode cL_law 753 = .ok (.iaload, 1) := dc_row (B := pc_L_law_w31) (a := 744) (p := 9) pc_L_law_a31 (by decide +kernel)
theorem dL_law_754 : decode cL_law 754 = .ok (.aload_n 0, 1) := dc_row (B := pc_L_law_w31) (a := 744) (p := 10) pc_L_law_a31 (by decide +kernel)
theorem dL_law_755 : decode cL_law 755 = .ok (.iload 4, 2) := dc_row (B := pc_L_law_w31) (a := 744) (p := 11) pc_L_law_a31 (by decide +kernel)
theorem dL_law_757 : decode cL_law 757 = .ok (.iconst 5, 1) := dc_row (B := pc_L_law_w31) (a := 744) (p := 13) pc_L_law_a31 (by decide +kernel)
theorem dL_law_758 : decode cL_law 758 = .ok (.iadd, 1) := dc_row (B := pc_L_law_w31) (a := 744) (p := 14) pc_L_law_a31 (by decide +kernel)
theorem dL_law_759 : decode cL_law 759 = .ok (.iaload, 1) := dc_row (B := pc_L_law_w31) (a := 744) (p := 15) pc_L_law_a31 (by decide +kernel)
theorem dL_law_760 : decode cL_law 760 = .ok (.invokevirtual 193, 3) := dc_row (B := pc_L_law_w31) (a := 744) (p := 16) pc_L_law_a31 (by decide +kernel)
theorem dL_law_763 : decode cL_law 763 = .ok (.istore 6, 2) := dc_row (B := pc_L_law_w31) (a := 744) (p := 19) pc_L_law_a31 (by decide +kernel)
theorem dL_law_765 : decode cL_law 765 = .ok (.goto 1065, 3) := dc_row (B := pc_L_law_w31) (a := 744) (p := 21) pc_L_law_a31 (by decide +kernel)
theorem dL_law_768 : decode cL_law 768 = .ok (.aload_n 1, 1) := dc_row (B := pc_L_law_w32) (a := 768) (p := 0) pc_L_law_a32 (by decide +kernel)
theorem dL_law_769 : decode cL_law 769 = .ok (.aload_n 0, 1) := dc_row (B := pc_L_law_w32) (a := 768) (p := 1) pc_L_law_a32 (by decide +kernel)
theorem dL_law_770 : decode cL_law 770 = .ok (.iload 4, 2) := dc_row (B := pc_L_law_w32) (a := 768) (p := 2) pc_L_law_a32 (by decide +kernel)
theorem dL_law_772 : decode cL_law 772 = .ok (.iconst 1, 1) := dc_row (B := pc_L_law_w32) (a := 768) (p := 4) pc_L_law_a32 (by decide +kernel)
theorem dL_law_773 : decode cL_law 773 = .ok (.iadd, 1) := dc_row (B := pc_L_law_w32) (a := 768) (p := 5) pc_L_law_a32 (by decide +kernel)
theorem dL_law_774 : decode cL_law 774 = .ok (.iaload, 1) := dc_row (B := pc_L_law_w32) (a := 768) (p := 6) pc_L_law_a32 (by decide +kernel)
theorem dL_law_775 : decode cL_law 775 = .ok (.aload_n 3, 1) := dc_row (B := pc_L_law_w32) (a := 768) (p := 7) pc_L_law_a32 (by decide +kernel)
theorem dL_law_776 : decode cL_law 776 = .ok (.invokestatic 194, 3) := dc_row (B := pc_L_law_w32) (a := 768) (p := 8) pc_L_law_a32 (by decide +kernel)
theorem dL_law_779 : decode cL_law 779 = .ok (.istore 5, 2) := dc_row (B := pc_L_law_w32) (a := 768) (p := 11) pc_L_law_a32 (by decide +kernel)
theorem dL_law_781 : decode cL_law 781 = .ok (.aload_n 2, 1) := dc_row (B := pc_L_law_w32) (a := 768) (p := 13) pc_L_law_a32 (by decide +kernel)
theorem dL_law_782 : decode cL_law 782 = .ok (.aload_n 0, 1) := dc_row (B := pc_L_law_w32) (a := 768) (p := 14) pc_L_law_a32 (by decide +kernel)
theorem dL_law_783 : decode cL_law 783 = .ok (.iload 4, 2) := dc_row (B := pc_L_law_w32) (a := 768) (p := 15) pc_L_law_a32 (by decide +kernel)
theorem dL_law_785 : decode cL_law 785 = .ok (.iconst 1, 1) := dc_row (B := pc_L_law_w32) (a := 768) (p := 17) pc_L_law_a32 (by decide +kernel)
theorem dL_law_786 : decode cL_law 786 = .ok (.iadd, 1) := dc_row (B := pc_L_law_w32) (a := 768) (p := 18) pc_L_law_a32 (by decide +kernel)
theorem dL_law_787 : decode cL_law 787 = .ok (.iaload, 1) := dc_row (B := pc_L_law_w32) (a := 768) (p := 19) pc_L_law_a32 (by decide +kernel)
theorem dL_law_788 : decode cL_law 788 = .ok (.invokevirtual 196, 3) := dc_row (B := pc_L_law_w32) (a := 768) (p := 20) pc_L_law_a32 (by decide +kernel)
theorem dL_law_791 : decode cL_law 791 = .ok (.istore 6, 2) := dc_row (B := pc_L_law_w32) (a := 768) (p := 23) pc_L_law_a32 (by decide +kernel)
theorem dL_law_793 : decode cL_law 793 = .ok (.goto 1037, 3) := dc_row (B := pc_L_law_w33) (a := 792) (p := 1) pc_L_law_a33 (by decide +kernel)
theorem dL_law_796 : decode cL_law 796 = .ok (.aload_n 1, 1) := dc_row (B := pc_L_law_w33) (a := 792) (p := 4) pc_L_law_a33 (by decide +kernel)
theorem dL_law_797 : decode cL_law 797 = .ok (.aload_n 0, 1) := dc_row (B := pc_L_law_w33) (a := 792) (p := 5) pc_L_law_a33 (by decide +kernel)
theorem dL_law_798 : decode cL_law 798 = .ok (.iload 4, 2) := dc_row (B := pc_L_law_w33) (a := 792) (p := 6) pc_L_law_a33 (by decide +kernel)
theorem dL_law_800 : decode cL_law 800 = .ok (.iconst 1, 1) := dc_row (B := pc_L_law_w33) (a := 792) (p := 8) pc_L_law_a33 (by decide +kernel)
theorem dL_law_801 : decode cL_law 801 = .ok (.iadd, 1) := dc_row (B := pc_L_law_w33) (a := 792) (p := 9) pc_L_law_a33 (by decide +kernel)
theorem dL_law_802 : decode cL_law 802 = .ok (.iaload, 1) := dc_row (B := pc_L_law_w33) (a := 792) (p := 10) pc_L_law_a33 (by decide +kernel)
theorem dL_law_803 : decode cL_law 803 = .ok (.aload_n 3, 1) := dc_row (B := pc_L_law_w33) (a := 792) (p := 11) pc_L_law_a33 (by decide +kernel)
theorem dL_law_804 : decode cL_law 804 = .ok (.invokestatic 197, 3) := dc_row (B := pc_L_law_w33) (a := 792) (p := 12) pc_L_law_a33 (by decide +kernel)
theorem dL_law_807 : decode cL_law 807 = .ok (.istore 5, 2) := dc_row (B := pc_L_law_w33) (a := 792) (p := 15) pc_L_law_a33 (by decide +kernel)
theorem dL_law_809 : decode cL_law 809 = .ok (.aload_n 2, 1) := dc_row (B := pc_L_law_w33) (a := 792) (p := 17) pc_L_law_a33 (by decide +kernel)
theorem dL_law_810 : decode cL_law 810 = .ok (.aload_n 0, 1) := dc_row (B := pc_L_law_w33) (a := 792) (p := 18) pc_L_law_a33 (by decide +kernel)
theorem dL_law_811 : decode cL_law 811 = .ok (.iload 4, 2) := dc_row (B := pc_L_law_w33) (a := 792) (p := 19) pc_L_law_a33 (by decide +kernel)
theorem dL_law_813 : decode cL_law 813 = .ok (.iconst 1, 1) := dc_row (B := pc_L_law_w33) (a := 792) (p := 21) pc_L_law_a33 (by decide +kernel)
theorem dL_law_814 : decode cL_law 814 = .ok (.iadd, 1) := dc_row (B := pc_L_law_w33) (a := 792) (p := 22) pc_L_law_a33 (by decide +kernel)
theorem dL_law_815 : decode cL_law 815 = .ok (.iaload, 1) := dc_row (B := pc_L_law_w33) (a := 792) (p := 23) pc_L_law_a33 (by decide +kernel)
theorem dL_law_816 : decode cL_law 816 = .ok (.invokevirtual 199, 3) := dc_row (B := pc_L_law_w34) (a := 816) (p := 0) pc_L_law_a34 (by decide +kernel)
theorem dL_law_819 : decode cL_law 819 = .ok (.istore 6, 2) := dc_row (B := pc_L_law_w34) (a := 816) (p := 3) pc_L_law_a34 (by decide +kernel)
theorem dL_law_821 : decode cL_law 821 = .ok (.goto 1009, 3) := dc_row (B := pc_L_law_w34) (a := 816) (p := 5) pc_L_law_a34 (by decide +kernel)
theorem dL_law_824 : decode cL_law 824 = .ok (.aload_n 1, 1) := dc_row (B := pc_L_law_w34) (a := 816) (p := 8) pc_L_law_a34 (by decide +kernel)
theorem dL_law_825 : decode cL_law 825 = .ok (.aload_n 0, 1) := dc_row (B := pc_L_law_w34) (a := 816) (p := 9) pc_L_law_a34 (by decide +kernel)
theorem dL_law_826 : decode cL_law 826 = .ok (.iload 4, 2) := dc_row (B := pc_L_law_w34) (a := 816) (p := 10) pc_L_law_a34 (by decide +kernel)
theorem dL_law_828 : decode cL_law 828 = .ok (.iconst 1, 1) := dc_row (B := pc_L_law_w34) (a := 816) (p := 12) pc_L_law_a34 (by decide +kernel)
theorem dL_law_829 : decode cL_law 829 = .ok (.iadd, 1) := dc_row (B := pc_L_law_w34) (a := 816) (p := 13) pc_L_law_a34 (by decide +kernel)
theorem dL_law_830 : decode cL_law 830 = .ok (.iaload, 1) := dc_row (B := pc_L_law_w34) (a := 816) (p := 14) pc_L_law_a34 (by decide +kernel)
theorem dL_law_831 : decode cL_law 831 = .ok (.aload_n 3, 1) := dc_row (B := pc_L_law_w34) (a := 816) (p := 15) pc_L_law_a34 (by decide +kernel)
theorem dL_law_832 : decode cL_law 832 = .ok (.invokestatic 200, 3) := dc_row (B := pc_L_law_w34) (a := 816) (p := 16) pc_L_law_a34 (by decide +kernel)
theorem dL_law_835 : decode cL_law 835 = .ok (.istore 5, 2) := dc_row (B := pc_L_law_w34) (a := 816) (p := 19) pc_L_law_a34 (by decide +kernel)
theorem dL_law_837 : decode cL_law 837 = .ok (.aload_n 2, 1) := dc_row (B := pc_L_law_w34) (a := 816) (p := 21) pc_L_law_a34 (by decide +kernel)
theorem dL_law_838 : decode cL_law 838 = .ok (.aload_n 0, 1) := dc_row (B := pc_L_law_w34) (a := 816) (p := 22) pc_L_law_a34 (by decide +kernel)
theorem dL_law_839 : decode cL_law 839 = .ok (.iload 4, 2) := dc_row (B := pc_L_law_w34) (a := 816) (p := 23) pc_L_law_a34 (by decide +kernel)
theorem dL_law_841 : decode cL_law 841 = .ok (.iconst 1, 1) := dc_row (B := pc_L_law_w35) (a := 840) (p := 1) pc_L_law_a35 (by decide +kernel)
theorem dL_law_842 : decode cL_law 842 = .ok (.iadd, 1) := dc_row (B := pc_L_law_w35) (a := 840) (p := 2) pc_L_law_a35 (by decide +kernel)
theorem dL_law_843 : decode cL_law 843 = .ok (.iaload, 1) := dc_row (B := pc_L_law_w35) (a := 840) (p := 3) pc_L_law_a35 (by decide +kernel)
theorem dL_law_844 : decode cL_law 844 = .ok (.invokevirtual 202, 3) := dc_row (B := pc_L_law_w35) (a := 840) (p := 4) pc_L_law_a35 (by decide +kernel)
theorem dL_law_847 : decode cL_law 847 = .ok (.istore 6, 2) := dc_row (B := pc_L_law_w35) (a := 840) (p := 7) pc_L_law_a35 (by decide +kernel)
theorem dL_law_849 : decode cL_law 849 = .ok (.goto 981, 3) := dc_row (B := pc_L_law_w35) (a := 840) (p := 9) pc_L_law_a35 (by decide +kernel)
theorem dL_law_852 : decode cL_law 852 = .ok (.aload_n 1, 1) := dc_row (B := pc_L_law_w35) (a := 840) (p := 12) pc_L_law_a35 (by decide +kernel)
theorem dL_law_853 : decode cL_law 853 = .ok (.aload_n 0, 1) := dc_row (B := pc_L_law_w35) (a := 840) (p := 13) pc_L_law_a35 (by decide +kernel)
theorem dL_law_854 : decode cL_law 854 = .ok (.iload 4, 2) := dc_row (B := pc_L_law_w35) (a := 840) (p := 14) pc_L_law_a35 (by decide +kernel)
theorem dL_law_856 : decode cL_law 856 = .ok (.iconst 1, 1) := dc_row (B := pc_L_law_w35) (a := 840) (p := 16) pc_L_law_a35 (by decide +kernel)
theorem dL_law_857 : decode cL_law 857 = .ok (.iadd, 1) := dc_row (B := pc_L_law_w35) (a := 840) (p := 17) pc_L_law_a35 (by decide +kernel)
theorem dL_law_858 : decode cL_law 858 = .ok (.iaload, 1) := dc_row (B := pc_L_law_w35) (a := 840) (p := 18) pc_L_law_a35 (by decide +kernel)
theorem dL_law_859 : decode cL_law 859 = .ok (.aload_n 0, 1) := dc_row (B := pc_L_law_w35) (a := 840) (p := 19) pc_L_law_a35 (by decide +kernel)
theorem dL_law_860 : decode cL_law 860 = .ok (.iload 4, 2) := dc_row (B := pc_L_law_w35) (a := 840) (p := 20) pc_L_law_a35 (by decide +kernel)
theorem dL_law_862 : decode cL_law 862 = .ok (.iconst 2, 1) := dc_row (B := pc_L_law_w35) (a := 840) (p := 22) pc_L_law_a35 (by decide +kernel)
theorem dL_law_863 : decode cL_law 863 = .ok (.iadd, 1) := dc_row (B := pc_L_law_w35) (a := 840) (p := 23) pc_L_law_a35 (by decide +kernel)
theorem dL_law_864 : decode cL_law 864 = .ok (.iaload, 1) := dc_row (B := pc_L_law_w36) (a := 864) (p := 0) pc_L_law_a36 (by decide +kernel)
theorem dL_law_865 : decode cL_law 865 = .ok (.aload_n 3, 1) := dc_row (B := pc_L_law_w36) (a := 864) (p := 1) pc_L_law_a36 (by decide +kernel)
theorem dL_law_866 : decode cL_law 866 = .ok (.invokestatic 203, 3) := dc_row (B := pc_L_law_w36) (a := 864) (p := 2) pc_L_law_a36 (by decide +kernel)
theorem dL_law_869 : decode cL_law 869 = .ok (.istore 5, 2) := dc_row (B := pc_L_law_w36) (a := 864) (p := 5) pc_L_law_a36 (by decide +kernel)
theorem dL_law_871 : decode cL_law 871 = .ok (.aload_n 2, 1) := dc_row (B := pc_L_law_w36) (a := 864) (p := 7) pc_L_law_a36 (by decide +kernel)
theorem dL_law_872 : decode cL_law 872 = .ok (.aload_n 0, 1) := dc_row (B := pc_L_law_w36) (a := 864) (p := 8) pc_L_law_a36 (by decide +kernel)
theorem dL_law_873 : decode cL_law 873 = .ok (.iload 4, 2) := dc_row (B := pc_L_law_w36) (a := 864) (p := 9) pc_L_law_a36 (by decide +kernel)
theorem dL_law_875 : decode cL_law 875 = .ok (.iconst 1, 1) := dc_row (B := pc_L_law_w36) (a := 864) (p := 11) pc_L_law_a36 (by decide +kernel)
theorem dL_law_876 : decode cL_law 876 = .ok (.iadd, 1) := dc_row (B := pc_L_law_w36) (a := 864) (p := 12) pc_L_law_a36 (by decide +kernel)
theorem dL_law_877 : decode cL_law 877 = .ok (.iaload, 1) := dc_row (B := pc_L_law_w36) (a := 864) (p := 13) pc_L_law_a36 (by decide +kernel)
theorem dL_law_878 : decode cL_law 878 = .ok (.aload_n 0, 1) := dc_row (B := pc_L_law_w36) (a := 864) (p := 14) pc_L_law_a36 (by decide +kernel)
theorem dL_law_879 : decode cL_law 879 = .ok (.iload 4, 2) := dc_row (B := pc_L_law_w36) (a := 864) (p := 15) pc_L_law_a36 (by decide +kernel)
theorem dL_law_881 : decode cL_law 881 = .ok (.iconst 2, 1) := dc_row (B := pc_L_law_w36) (a := 864) (p := 17) pc_L_law_a36 (by decide +kernel)
theorem dL_law_882 : decode cL_law 882 = .ok (.iadd, 1) := dc_row (B := pc_L_law_w36) (a := 864) (p := 18) pc_L_law_a36 (by decide +kernel)
theorem dL_law_883 : decode cL_law 883 = .ok (.iaload, 1) := dc_row (B := pc_L_law_w36) (a := 864) (p := 19) pc_L_law_a36 (by decide +kernel)
theorem dL_law_884 : decode cL_law 884 = .ok (.invokevirtual 205, 3) := dc_row (B := pc_L_law_w36) (a := 864) (p := 20) pc_L_law_a36 (by decide +kernel)
theorem dL_law_887 : decode cL_law 887 = .ok (.istore 6, 2) := dc_row (B := pc_L_law_w36) (a := 864) (p := 23) pc_L_law_a36 (by decide +kernel)
theorem dL_law_889 : decode cL_law 889 = .ok (.goto 941, 3) := dc_row (B := pc_L_law_w37) (a := 888) (p := 1) pc_L_law_a37 (by decide +kernel)
theorem dL_law_892 : decode cL_law 892 = .ok (.aload_n 1, 1) := dc_row (B := pc_L_law_w37) (a := 888) (p := 4) pc_L_law_a37 (by decide +kernel)
theorem dL_law_893 : decode cL_law 893 = .ok (.aload_n 0, 1) := dc_row (B := pc_L_law_w37) (a := 888) (p := 5) pc_L_law_a37 (by decide +kernel)
theorem dL_law_894 : decode cL_law 894 = .ok (.iload 4, 2) := dc_row (B := pc_L_law_w37) (a := 888) (p := 6) pc_L_law_a37 (by decide +kernel)
theorem dL_law_896 : decode cL_law 896 = .ok (.iconst 1, 1) := dc_row (B := pc_L_law_w37) (a := 888) (p := 8) pc_L_law_a37 (by decide +kernel)
theorem dL_law_897 : decode cL_law 897 = .ok (.iadd, 1) := dc_row (B := pc_L_law_w37) (a := 888) (p := 9) pc_L_law_a37 (by decide +kernel)
theorem dL_law_898 : decode cL_law 898 = .ok (.iaload, 1) := dc_row (B := pc_L_law_w37) (a := 888) (p := 10) pc_L_law_a37 (by decide +kernel)
theorem dL_law_899 : decode cL_law 899 = .ok (.aload_n 0, 1) := dc_row (B := pc_L_law_w37) (a := 888) (p := 11) pc_L_law_a37 (by decide +kernel)
theorem dL_law_900 : decode cL_law 900 = .ok (.iload 4, 2) := dc_row (B := pc_L_law_w37) (a := 888) (p := 12) pc_L_law_a37 (by decide +kernel)
theorem dL_law_902 : decode cL_law 902 = .ok (.iconst 2, 1) := dc_row (B := pc_L_law_w37) (a := 888) (p := 14) pc_L_law_a37 (by decide +kernel)
theorem dL_law_903 : decode cL_law 903 = .ok (.iadd, 1) := dc_row (B := pc_L_law_w37) (a := 888) (p := 15) pc_L_law_a37 (by decide +kernel)
theorem dL_law_904 : decode cL_law 904 = .ok (.iaload, 1) := dc_row (B := pc_L_law_w37) (a := 888) (p := 16) pc_L_law_a37 (by decide +kernel)
theorem dL_law_905 : decode cL_law 905 = .ok (.aload_n 3, 1) := dc_row (B := pc_L_law_w37) (a := 888) (p := 17) pc_L_law_a37 (by decide +kernel)
theorem dL_law_906 : decode cL_law 906 = .ok (.invokestatic 206, 3) := dc_row (B := pc_L_law_w37) (a := 888) (p := 18) pc_L_law_a37 (by decide +kernel)
theorem dL_law_909 : decode cL_law 909 = .ok (.istore 5, 2) := dc_row (B := pc_L_law_w37) (a := 888) (p := 21) pc_L_law_a37 (by decide +kernel)
theorem dL_law_911 : decode cL_law 911 = .ok (.aload_n 2, 1) := dc_row (B := pc_L_law_w37) (a := 888) (p := 23) pc_L_law_a37 (by decide +kernel)
theorem dL_law_912 : decode cL_law 912 = .ok (.aload_n 0, 1) := dc_row (B := pc_L_law_w38) (a := 912) (p := 0) pc_L_law_a38 (by decide +kernel)
theorem dL_law_913 : decode cL_law 913 = .ok (.iload 4, 2) := dc_row (B := pc_L_law_w38) (a := 912) (p := 1) pc_L_law_a38 (by decide +kernel)
theorem dL_law_915 : decode cL_law 915 = .ok (.iconst 1, 1) := dc_row (B := pc_L_law_w38) (a := 912) (p := 3) pc_L_law_a38 (by decide +kernel)
theorem dL_law_916 : decode cL_law 916 = .ok (.iadd, 1) := dc_row (B := pc_L_law_w38) (a := 912) (p := 4) pc_L_law_a38 (by decide +kernel)
theorem dL_law_917 : decode cL_law 917 = .ok (.iaload, 1) := dc_row (B := pc_L_law_w38) (a := 912) (p := 5) pc_L_law_a38 (by decide +kernel)
theorem dL_law_918 : decode cL_law 918 = .ok (.aload_n 0, 1) := dc_row (B := pc_L_law_w38) (a := 912) (p := 6) pc_L_law_a38 (by decide +kernel)
theorem dL_law_919 : decode cL_law 919 = .ok (.iload 4, 2) := dc_row (B := pc_L_law_w38) (a := 912) (p := 7) pc_L_law_a38 (by decide +kernel)
theorem dL_law_921 : decode cL_law 921 = .ok (.iconst 2, 1) := dc_row (B := pc_L_law_w38) (a := 912) (p := 9) pc_L_law_a38 (by decide +kernel)
theorem dL_law_922 : decode cL_law 922 = .ok (.iadd, 1) := dc_row (B := pc_L_law_w38) (a := 912) (p := 10) pc_L_law_a38 (by decide +kernel)
theorem dL_law_923 : decode cL_law 923 = .ok (.iaload, 1) := dc_row (B := pc_L_law_w38) (a := 912) (p := 11) pc_L_law_a38 (by decide +kernel)
theorem dL_law_924 : decode cL_law 924 = .ok (.invokevirtual 208, 3) := dc_row (B := pc_L_law_w38) (a := 912) (p := 12) pc_L_law_a38 (by decide +kernel)
theorem dL_law_927 : decode cL_law 927 = .ok (.istore 6, 2) := dc_row (B := pc_L_law_w38) (a := 912) (p := 15) pc_L_law_a38 (by decide +kernel)
theorem dL_law_929 : decode cL_law 929 = .ok (.goto 901, 3) := dc_row (B := pc_L_law_w38) (a := 912) (p := 17) pc_L_law_a38 (by decide +kernel)
theorem dL_law_932 : decode cL_law 932 = .ok (.aload_n 1, 1) := dc_row (B := pc_L_law_w38) (a := 912) (p := 20) pc_L_law_a38 (by decide +kernel)
theorem dL_law_933 : decode cL_law 933 = .ok (.aload_n 0, 1) := dc_row (B := pc_L_law_w38) (a := 912) (p := 21) pc_L_law_a38 (by decide +kernel)
theorem dL_law_934 : decode cL_law 934 = .ok (.iload 4, 2) := dc_row (B := pc_L_law_w38) (a := 912) (p := 22) pc_L_law_a38 (by decide +kernel)
theorem dL_law_936 : decode cL_law 936 = .ok (.iconst 1, 1) := dc_row (B := pc_L_law_w39) (a := 936) (p := 0) pc_L_law_a39 (by decide +kernel)
theorem dL_law_937 : decode cL_law 937 = .ok (.iadd, 1) := dc_row (B := pc_L_law_w39) (a := 936) (p := 1) pc_L_law_a39 (by decide +kernel)
theorem dL_law_938 : decode cL_law 938 = .ok (.iaload, 1) := dc_row (B := pc_L_law_w39) (a := 936) (p := 2) pc_L_law_a39 (by decide +kernel)
theorem dL_law_939 : decode cL_law 939 = .ok (.aload_n 3, 1) := dc_row (B := pc_L_law_w39) (a := 936) (p := 3) pc_L_law_a39 (by decide +kernel)
theorem dL_law_940 : decode cL_law 940 = .ok (.invokestatic 209, 3) := dc_row (B := pc_L_law_w39) (a := 936) (p := 4) pc_L_law_a39 (by decide +kernel)
theorem dL_law_943 : decode cL_law 943 = .ok (.istore 5, 2) := dc_row (B := pc_L_law_w39) (a := 936) (p := 7) pc_L_law_a39 (by decide +kernel)
theorem dL_law_945 : decode cL_law 945 = .ok (.aload_n 2, 1) := dc_row (B := pc_L_law_w39) (a := 936) (p := 9) pc_L_law_a39 (by decide +kernel)
theorem dL_law_946 : decode cL_law 946 = .ok (.aload_n 0, 1) := dc_row (B := pc_L_law_w39) (a := 936) (p := 10) pc_L_law_a39 (by decide +kernel)
theorem dL_law_947 : decode cL_law 947 = .ok (.iload 4, 2) := dc_row (B := pc_L_law_w39) (a := 936) (p := 11) pc_L_law_a39 (by decide +kernel)
theorem dL_law_949 : decode cL_law 949 = .ok (.iconst 1, 1) := dc_row (B := pc_L_law_w39) (a := 936) (p := 13) pc_L_law_a39 (by decide +kernel)
theorem dL_law_950 : decode cL_law 950 = .ok (.iadd, 1) := dc_row (B := pc_L_law_w39) (a := 936) (p := 14) pc_L_law_a39 (by decide +kernel)
theorem dL_law_951 : decode cL_law 951 = .ok (.iaload, 1) := dc_row (B := pc_L_law_w39) (a := 936) (p := 15) pc_L_law_a39 (by decide +kernel)
theorem dL_law_952 : decode cL_law 952 = .ok (.invokevirtual 211, 3) := dc_row (B := pc_L_law_w39) (a := 936) (p := 16) pc_L_law_a39 (by decide +kernel)
theorem dL_law_955 : decode cL_law 955 = .ok (.istore 6, 2) := dc_row (B := pc_L_law_w39) (a := 936) (p := 19) pc_L_law_a39 (by decide +kernel)
theorem dL_law_957 : decode cL_law 957 = .ok (.goto 873, 3) := dc_row (B := pc_L_law_w39) (a := 936) (p := 21) pc_L_law_a39 (by decide +kernel)
theorem dL_law_960 : decode cL_law 960 = .ok (.aload_n 1, 1) := dc_row (B := pc_L_law_w40) (a := 960) (p := 0) pc_L_law_a40 (by decide +kernel)
theorem dL_law_961 : decode cL_law 961 = .ok (.aload_n 0, 1) := dc_row (B := pc_L_law_w40) (a := 960) (p := 1) pc_L_law_a40 (by decide +kernel)
theorem dL_law_962 : decode cL_law 962 = .ok (.iload 4, 2) := dc_row (B := pc_L_law_w40) (a := 960) (p := 2) pc_L_law_a40 (by decide +kernel)
theorem dL_law_964 : decode cL_law 964 = .ok (.iconst 1, 1) := dc_row (B := pc_L_law_w40) (a := 960) (p := 4) pc_L_law_a40 (by decide +kernel)
theorem dL_law_965 : decode cL_law 965 = .ok (.iadd, 1) := dc_row (B := pc_L_law_w40) (a := 960) (p := 5) pc_L_law_a40 (by decide +kernel)
theorem dL_law_966 : decode cL_law 966 = .ok (.iaload, 1) := dc_row (B := pc_L_law_w40) (a := 960) (p := 6) pc_L_law_a40 (by decide +kernel)
theorem dL_law_967 : decode cL_law 967 = .ok (.aload_n 3, 1) := dc_row (B := pc_L_law_w40) (a := 960) (p := 7) pc_L_law_a40 (by decide +kernel)
theorem dL_law_968 : decode cL_law 968 = .ok (.invokestatic 212, 3) := dc_row (B := pc_L_law_w40) (a := 960) (p := 8) pc_L_law_a40 (by decide +kernel)
theorem dL_law_971 : decode cL_law 971 = .ok (.istore 5, 2) := dc_row (B := pc_L_law_w40) (a := 960) (p := 11) pc_L_law_a40 (by decide +kernel)
theorem dL_law_973 : decode cL_law 973 = .ok (.aload_n 2, 1) := dc_row (B := pc_L_law_w40) (a := 960) (p := 13) pc_L_law_a40 (by decide +kernel)
theorem dL_law_974 : decode cL_law 974 = .ok (.aload_n 0, 1) := dc_row (B := pc_L_law_w40) (a := 960) (p := 14) pc_L_law_a40 (by decide +kernel)
theorem dL_law_975 : decode cL_law 975 = .ok (.iload 4, 2) := dc_row (B := pc_L_law_w40) (a := 960) (p := 15) pc_L_law_a40 (by decide +kernel)
theorem dL_law_977 : decode cL_law 977 = .ok (.iconst 1, 1) := dc_row (B := pc_L_law_w40) (a := 960) (p := 17) pc_L_law_a40 (by decide +kernel)
theorem dL_law_978 : decode cL_law 978 = .ok (.iadd, 1) := dc_row (B := pc_L_law_w40) (a := 960) (p := 18) pc_L_law_a40 (by decide +kernel)
theorem dL_law_979 : decode cL_law 979 = .ok (.iaload, 1) := dc_row (B := pc_L_law_w40) (a := 960) (p := 19) pc_L_law_a40 (by decide +kernel)
theorem dL_law_980 : decode cL_law 980 = .ok (.invokevirtual 214, 3) := dc_row (B := pc_L_law_w40) (a := 960) (p := 20) pc_L_law_a40 (by decide +kernel)
theorem dL_law_983 : decode cL_law 983 = .ok (.istore 6, 2) := dc_row (B := pc_L_law_w40) (a := 960) (p := 23) pc_L_law_a40 (by decide +kernel)
theorem dL_law_985 : decode cL_law 985 = .ok (.goto 845, 3) := dc_row (B := pc_L_law_w41) (a := 984) (p := 1) pc_L_law_a41 (by decide +kernel)
theorem dL_law_988 : decode cL_law 988 = .ok (.aload_n 1, 1) := dc_row (B := pc_L_law_w41) (a := 984) (p := 4) pc_L_law_a41 (by decide +kernel)
theorem dL_law_989 : decode cL_law 989 = .ok (.aload_n 0, 1) := dc_row (B := pc_L_law_w41) (a := 984) (p := 5) pc_L_law_a41 (by decide +kernel)
theorem dL_law_990 : decode cL_law 990 = .ok (.iload 4, 2) := dc_row (B := pc_L_law_w41) (a := 984) (p := 6) pc_L_law_a41 (by decide +kernel)
theorem dL_law_992 : decode cL_law 992 = .ok (.iconst 1, 1) := dc_row (B := pc_L_law_w41) (a := 984) (p := 8) pc_L_law_a41 (by decide +kernel)
theorem dL_law_993 : decode cL_law 993 = .ok (.iadd, 1) := dc_row (B := pc_L_law_w41) (a := 984) (p := 9) pc_L_law_a41 (by decide +kernel)
theorem dL_law_994 : decode cL_law 994 = .ok (.iaload, 1) := dc_row (B := pc_L_law_w41) (a := 984) (p := 10) pc_L_law_a41 (by decide +kernel)
theorem dL_law_995 : decode cL_law 995 = .ok (.aload_n 3, 1) := dc_row (B := pc_L_law_w41) (a := 984) (p := 11) pc_L_law_a41 (by decide +kernel)
theorem dL_law_996 : decode cL_law 996 = .ok (.invokestatic 215, 3) := dc_row (B := pc_L_law_w41) (a := 984) (p := 12) pc_L_law_a41 (by decide +kernel)
theorem dL_law_999 : decode cL_law 999 = .ok (.istore 5, 2) := dc_row (B := pc_L_law_w41) (a := 984) (p := 15) pc_L_law_a41 (by decide +kernel)
theorem dL_law_1001 : decode cL_law 1001 = .ok (.aload_n 2, 1) := dc_row (B := pc_L_law_w41) (a := 984) (p := 17) pc_L_law_a41 (by decide +kernel)
theorem dL_law_1002 : decode cL_law 1002 = .ok (.aload_n 0, 1) := dc_row (B := pc_L_law_w41) (a := 984) (p := 18) pc_L_law_a41 (by decide +kernel)
theorem dL_law_1003 : decode cL_law 1003 = .ok (.iload 4, 2) := dc_row (B := pc_L_law_w41) (a := 984) (p := 19) pc_L_law_a41 (by decide +kernel)
theorem dL_law_1005 : decode cL_law 1005 = .ok (.iconst 1, 1) := dc_row (B := pc_L_law_w41) (a := 984) (p := 21) pc_L_law_a41 (by decide +kernel)
theorem dL_law_1006 : decode cL_law 1006 = .ok (.iadd, 1) := dc_row (B := pc_L_law_w41) (a := 984) (p := 22) pc_L_law_a41 (by decide +kernel)
theorem dL_law_1007 : decode cL_law 1007 = .ok (.iaload, 1) := dc_row (B := pc_L_law_w41) (a := 984) (p := 23) pc_L_law_a41 (by decide +kernel)
theorem dL_law_1008 : decode cL_law 1008 = .ok (.invokevirtual 217, 3) := dc_row (B := pc_L_law_w42) (a := 1008) (p := 0) pc_L_law_a42 (by decide +kernel)
theorem dL_law_1011 : decode cL_law 1011 = .ok (.istore 6, 2) := dc_row (B := pc_L_law_w42) (a := 1008) (p := 3) pc_L_law_a42 (by decide +kernel)
theorem dL_law_1013 : decode cL_law 1013 = .ok (.goto 817, 3) := dc_row (B := pc_L_law_w42) (a := 1008) (p := 5) pc_L_law_a42 (by decide +kernel)
theorem dL_law_1016 : decode cL_law 1016 = .ok (.aload_n 1, 1) := dc_row (B := pc_L_law_w42) (a := 1008) (p := 8) pc_L_law_a42 (by decide +kernel)
theorem dL_law_1017 : decode cL_law 1017 = .ok (.aload_n 0, 1) := dc_row (B := pc_L_law_w42) (a := 1008) (p := 9) pc_L_law_a42 (by decide +kernel)
theorem dL_law_1018 : decode cL_law 1018 = .ok (.iload 4, 2) := dc_row (B := pc_L_law_w42) (a := 1008) (p := 10) pc_L_law_a42 (by decide +kernel)
theorem dL_law_1020 : decode cL_law 1020 = .ok (.iconst 1, 1) := dc_row (B := pc_L_law_w42) (a := 1008) (p := 12) pc_L_law_a42 (by decide +kernel)
theorem dL_law_1021 : decode cL_law 1021 = .ok (.iadd, 1) := dc_row (B := pc_L_law_w42) (a := 1008) (p := 13) pc_L_law_a42 (by decide +kernel)
theorem dL_law_1022 : decode cL_law 1022 = .ok (.iaload, 1) := dc_row (B := pc_L_law_w42) (a := 1008) (p := 14) pc_L_law_a42 (by decide +kernel)
theorem dL_law_1023 : decode cL_law 1023 = .ok (.aload_n 0, 1) := dc_row (B := pc_L_law_w42) (a := 1008) (p := 15) pc_L_law_a42 (by decide +kernel)
theorem dL_law_1024 : decode cL_law 1024 = .ok (.iload 4, 2) := dc_row (B := pc_L_law_w42) (a := 1008) (p := 16) pc_L_law_a42 (by decide +kernel)
theorem dL_law_1026 : decode cL_law 1026 = .ok (.iconst 2, 1) := dc_row (B := pc_L_law_w42) (a := 1008) (p := 18) pc_L_law_a42 (by decide +kernel)
theorem dL_law_1027 : decode cL_law 1027 = .ok (.iadd, 1) := dc_row (B := pc_L_law_w42) (a := 1008) (p := 19) pc_L_law_a42 (by decide +kernel)
theorem dL_law_1028 : decode cL_law 1028 = .ok (.iaload, 1) := dc_row (B := pc_L_law_w42) (a := 1008) (p := 20) pc_L_law_a42 (by decide +kernel)
theorem dL_law_1029 : decode cL_law 1029 = .ok (.aload_n 3, 1) := dc_row (B := pc_L_law_w42) (a := 1008) (p := 21) pc_L_law_a42 (by decide +kernel)
theorem dL_law_1030 : decode cL_law 1030 = .ok (.invokestatic 218, 3) := dc_row (B := pc_L_law_w42) (a := 1008) (p := 22) pc_L_law_a42 (by decide +kernel)
theorem dL_law_1033 : decode cL_law 1033 = .ok (.istore 5, 2) := dc_row (B := pc_L_law_w43) (a := 1032) (p := 1) pc_L_law_a43 (by decide +kernel)
theorem dL_law_1035 : decode cL_law 1035 = .ok (.aload_n 2, 1) := dc_row (B := pc_L_law_w43) (a := 1032) (p := 3) pc_L_law_a43 (by decide +kernel)
theorem dL_law_1036 : decode cL_law 1036 = .ok (.aload_n 0, 1) := dc_row (B := pc_L_law_w43) (a := 1032) (p := 4) pc_L_law_a43 (by decide +kernel)
theorem dL_law_1037 : decode cL_law 1037 = .ok (.iload 4, 2) := dc_row (B := pc_L_law_w43) (a := 1032) (p := 5) pc_L_law_a43 (by decide +kernel)
theorem dL_law_1039 : decode cL_law 1039 = .ok (.iconst 1, 1) := dc_row (B := pc_L_law_w43) (a := 1032) (p := 7) pc_L_law_a43 (by decide +kernel)
theorem dL_law_1040 : decode cL_law 1040 = .ok (.iadd, 1) := dc_row (B := pc_L_law_w43) (a := 1032) (p := 8) pc_L_law_a43 (by decide +kernel)
theorem dL_law_1041 : decode cL_law 1041 = .ok (.iaload, 1) := dc_row (B := pc_L_law_w43) (a := 1032) (p := 9) pc_L_law_a43 (by decide +kernel)
theorem dL_law_1042 : decode cL_law 1042 = .ok (.aload_n 0, 1) := dc_row (B := pc_L_law_w43) (a := 1032) (p := 10) pc_L_law_a43 (by decide +kernel)
theorem dL_law_1043 : decode cL_law 1043 = .ok (.iload 4, 2) := dc_row (B := pc_L_law_w43) (a := 1032) (p := 11) pc_L_law_a43 (by decide +kernel)
theorem dL_law_1045 : decode cL_law 1045 = .ok (.iconst 2, 1) := dc_row (B := pc_L_law_w43) (a := 1032) (p := 13) pc_L_law_a43 (by decide +kernel)
theorem dL_law_1046 : decode cL_law 1046 = .ok (.iadd, 1) := dc_row (B := pc_L_law_w43) (a := 1032) (p := 14) pc_L_law_a43 (by decide +kernel)
theorem dL_law_1047 : decode cL_law 1047 = .ok (.iaload, 1) := dc_row (B := pc_L_law_w43) (a := 1032) (p := 15) pc_L_law_a43 (by decide +kernel)
theorem dL_law_1048 : decode cL_law 1048 = .ok (.invokevirtual 220, 3) := dc_row (B := pc_L_law_w43) (a := 1032) (p := 16) pc_L_law_a43 (by decide +kernel)
theorem dL_law_1051 : decode cL_law 1051 = .ok (.istore 6, 2) := dc_row (B := pc_L_law_w43) (a := 1032) (p := 19) pc_L_law_a43 (by decide +kernel)
theorem dL_law_1053 : decode cL_law 1053 = .ok (.goto 777, 3) := dc_row (B := pc_L_law_w43) (a := 1032) (p := 21) pc_L_law_a43 (by decide +kernel)
theorem dL_law_1056 : decode cL_law 1056 = .ok (.aload_n 1, 1) := dc_row (B := pc_L_law_w44) (a := 1056) (p := 0) pc_L_law_a44 (by decide +kernel)
theorem dL_law_1057 : decode cL_law 1057 = .ok (.aload_n 0, 1) := dc_row (B := pc_L_law_w44) (a := 1056) (p := 1) pc_L_law_a44 (by decide +kernel)
theorem dL_law_1058 : decode cL_law 1058 = .ok (.iload 4, 2) := dc_row (B := pc_L_law_w44) (a := 1056) (p := 2) pc_L_law_a44 (by decide +kernel)
theorem dL_law_1060 : decode cL_law 1060 = .ok (.iconst 1, 1) := dc_row (B := pc_L_law_w44) (a := 1056) (p := 4) pc_L_law_a44 (by decide +kernel)
theorem dL_law_1061 : decode cL_law 1061 = .ok (.iadd, 1) := dc_row (B := pc_L_law_w44) (a := 1056) (p := 5) pc_L_law_a44 (by decide +kernel)
theorem dL_law_1062 : decode cL_law 1062 = .ok (.iaload, 1) := dc_row (B := pc_L_law_w44) (a := 1056) (p := 6) pc_L_law_a44 (by decide +kernel)
theorem dL_law_1063 : decode cL_law 1063 = .ok (.aload_n 3, 1) := dc_row (B := pc_L_law_w44) (a := 1056) (p := 7) pc_L_law_a44 (by decide +kernel)
theorem dL_law_1064 : decode cL_law 1064 = .ok (.invokestatic 221, 3) := dc_row (B := pc_L_law_w44) (a := 1056) (p := 8) pc_L_law_a44 (by decide +kernel)
theorem dL_law_1067 : decode cL_law 1067 = .ok (.istore 5, 2) := dc_row (B := pc_L_law_w44) (a := 1056) (p := 11) pc_L_law_a44 (by decide +kernel)
theorem dL_law_1069 : decode cL_law 1069 = .ok (.aload_n 2, 1) := dc_row (B := pc_L_law_w44) (a := 1056) (p := 13) pc_L_law_a44 (by decide +kernel)
theorem dL_law_1070 : decode cL_law 1070 = .ok (.aload_n 0, 1) := dc_row (B := pc_L_law_w44) (a := 1056) (p := 14) pc_L_law_a44 (by decide +kernel)
theorem dL_law_1071 : decode cL_law 1071 = .ok (.iload 4, 2) := dc_row (B := pc_L_law_w44) (a := 1056) (p := 15) pc_L_law_a44 (by decide +kernel)
theorem dL_law_1073 : decode cL_law 1073 = .ok (.iconst 1, 1) := dc_row (B := pc_L_law_w44) (a := 1056) (p := 17) pc_L_law_a44 (by decide +kernel)
theorem dL_law_1074 : decode cL_law 1074 = .ok (.iadd, 1) := dc_row (B := pc_L_law_w44) (a := 1056) (p := 18) pc_L_law_a44 (by decide +kernel)
theorem dL_law_1075 : decode cL_law 1075 = .ok (.iaload, 1) := dc_row (B := pc_L_law_w44) (a := 1056) (p := 19) pc_L_law_a44 (by decide +kernel)
theorem dL_law_1076 : decode cL_law 1076 = .ok (.invokevirtual 223, 3) := dc_row (B := pc_L_law_w44) (a := 1056) (p := 20) pc_L_law_a44 (by decide +kernel)
theorem dL_law_1079 : decode cL_law 1079 = .ok (.istore 6, 2) := dc_row (B := pc_L_law_w44) (a := 1056) (p := 23) pc_L_law_a44 (by decide +kernel)
theorem dL_law_1081 : decode cL_law 1081 = .ok (.goto 749, 3) := dc_row (B := pc_L_law_w45) (a := 1080) (p := 1) pc_L_law_a45 (by decide +kernel)
theorem dL_law_1084 : decode cL_law 1084 = .ok (.aload_n 1, 1) := dc_row (B := pc_L_law_w45) (a := 1080) (p := 4) pc_L_law_a45 (by decide +kernel)
theorem dL_law_1085 : decode cL_law 1085 = .ok (.aload_n 0, 1) := dc_row (B := pc_L_law_w45) (a := 1080) (p := 5) pc_L_law_a45 (by decide +kernel)
theorem dL_law_1086 : decode cL_law 1086 = .ok (.iload 4, 2) := dc_row (B := pc_L_law_w45) (a := 1080) (p := 6) pc_L_law_a45 (by decide +kernel)
theorem dL_law_1088 : decode cL_law 1088 = .ok (.iconst 1, 1) := dc_row (B := pc_L_law_w45) (a := 1080) (p := 8) pc_L_law_a45 (by decide +kernel)
theorem dL_law_1089 : decode cL_law 1089 = .ok (.iadd, 1) := dc_row (B := pc_L_law_w45) (a := 1080) (p := 9) pc_L_law_a45 (by decide +kernel)
theorem dL_law_1090 : decode cL_law 1090 = .ok (.iaload, 1) := dc_row (B := pc_L_law_w45) (a := 1080) (p := 10) pc_L_law_a45 (by decide +kernel)
theorem dL_law_1091 : decode cL_law 1091 = .ok (.aload_n 0, 1) := dc_row (B := pc_L_law_w45) (a := 1080) (p := 11) pc_L_law_a45 (by decide +kernel)
theorem dL_law_1092 : decode cL_law 1092 = .ok (.iload 4, 2) := dc_row (B := pc_L_law_w45) (a := 1080) (p := 12) pc_L_law_a45 (by decide +kernel)
theorem dL_law_1094 : decode cL_law 1094 = .ok (.iconst 2, 1) := dc_row (B := pc_L_law_w45) (a := 1080) (p := 14) pc_L_law_a45 (by decide +kernel)
theorem dL_law_1095 : decode cL_law 1095 = .ok (.iadd, 1) := dc_row (B := pc_L_law_w45) (a := 1080) (p := 15) pc_L_law_a45 (by decide +kernel)
theorem dL_law_1096 : decode cL_law 1096 = .ok (.iaload, 1) := dc_row (B := pc_L_law_w45) (a := 1080) (p := 16) pc_L_law_a45 (by decide +kernel)
theorem dL_law_1097 : decode cL_law 1097 = .ok (.aload_n 3, 1) := dc_row (B := pc_L_law_w45) (a := 1080) (p := 17) pc_L_law_a45 (by decide +kernel)
theorem dL_law_1098 : decode cL_law 1098 = .ok (.invokestatic 224, 3) := dc_row (B := pc_L_law_w45) (a := 1080) (p := 18) pc_L_law_a45 (by decide +kernel)
theorem dL_law_1101 : decode cL_law 1101 = .ok (.istore 5, 2) := dc_row (B := pc_L_law_w45) (a := 1080) (p := 21) pc_L_law_a45 (by decide +kernel)
theorem dL_law_1103 : decode cL_law 1103 = .ok (.aload_n 2, 1) := dc_row (B := pc_L_law_w45) (a := 1080) (p := 23) pc_L_law_a45 (by decide +kernel)
theorem dL_law_1104 : decode cL_law 1104 = .ok (.aload_n 0, 1) := dc_row (B := pc_L_law_w46) (a := 1104) (p := 0) pc_L_law_a46 (by decide +kernel)
theorem dL_law_1105 : decode cL_law 1105 = .ok (.iload 4, 2) := dc_row (B := pc_L_law_w46) (a := 1104) (p := 1) pc_L_law_a46 (by decide +kernel)
theorem dL_law_1107 : decode cL_law 1107 = .ok (.iconst 1, 1) := dc_row (B := pc_L_law_w46) (a := 1104) (p := 3) pc_L_law_a46 (by decide +kernel)
theorem dL_law_1108 : decode cL_law 1108 = .ok (.iadd, 1) := dc_row (B := pc_L_law_w46) (a := 1104) (p := 4) pc_L_law_a46 (by decide +kernel)
theorem dL_law_1109 : decode cL_law 1109 = .ok (.iaload, 1) := dc_row (B := pc_L_law_w46) (a := 1104) (p := 5) pc_L_law_a46 (by decide +kernel)
theorem dL_law_1110 : decode cL_law 1110 = .ok (.aload_n 0, 1) := dc_row (B := pc_L_law_w46) (a := 1104) (p := 6) pc_L_law_a46 (by decide +kernel)
theorem dL_law_1111 : decode cL_law 1111 = .ok (.iload 4, 2) := dc_row (B := pc_L_law_w46) (a := 1104) (p := 7) pc_L_law_a46 (by decide +kernel)
theorem dL_law_1113 : decode cL_law 1113 = .ok (.iconst 2, 1) := dc_row (B := pc_L_law_w46) (a := 1104) (p := 9) pc_L_law_a46 (by decide +kernel)
theorem dL_law_1114 : decode cL_law 1114 = .ok (.iadd, 1) := dc_row (B := pc_L_law_w46) (a := 1104) (p := 10) pc_L_law_a46 (by decide +kernel)
theorem dL_law_1115 : decode cL_law 1115 = .ok (.iaload, 1) := dc_row (B := pc_L_law_w46) (a := 1104) (p := 11) pc_L_law_a46 (by decide +kernel)
theorem dL_law_1116 : decode cL_law 1116 = .ok (.invokevirtual 226, 3) := dc_row (B := pc_L_law_w46) (a := 1104) (p := 12) pc_L_law_a46 (by decide +kernel)
theorem dL_law_1119 : decode cL_law 1119 = .ok (.istore 6, 2) := dc_row (B := pc_L_law_w46) (a := 1104) (p := 15) pc_L_law_a46 (by decide +kernel)
theorem dL_law_1121 : decode cL_law 1121 = .ok (.goto 709, 3) := dc_row (B := pc_L_law_w46) (a := 1104) (p := 17) pc_L_law_a46 (by decide +kernel)
theorem dL_law_1124 : decode cL_law 1124 = .ok (.aload_n 1, 1) := dc_row (B := pc_L_law_w46) (a := 1104) (p := 20) pc_L_law_a46 (by decide +kernel)
theorem dL_law_1125 : decode cL_law 1125 = .ok (.aload_n 0, 1) := dc_row (B := pc_L_law_w46) (a := 1104) (p := 21) pc_L_law_a46 (by decide +kernel)
theorem dL_law_1126 : decode cL_law 1126 = .ok (.iload 4, 2) := dc_row (B := pc_L_law_w46) (a := 1104) (p := 22) pc_L_law_a46 (by decide +kernel)
theorem dL_law_1128 : decode cL_law 1128 = .ok (.iconst 1, 1) := dc_row (B := pc_L_law_w47) (a := 1128) (p := 0) pc_L_law_a47 (by decide +kernel)
theorem dL_law_1129 : decode cL_law 1129 = .ok (.iadd, 1) := dc_row (B := pc_L_law_w47) (a := 1128) (p := 1) pc_L_law_a47 (by decide +kernel)
theorem dL_law_1130 : decode cL_law 1130 = .ok (.iaload, 1) := dc_row (B := pc_L_law_w47) (a := 1128) (p := 2) pc_L_law_a47 (by decide +kernel)
theorem dL_law_1131 : decode cL_law 1131 = .ok (.aload_n 3, 1) := dc_row (B := pc_L_law_w47) (a := 1128) (p := 3) pc_L_law_a47 (by decide +kernel)
theorem dL_law_1132 : decode cL_law 1132 = .ok (.invokestatic 227, 3) := dc_row (B := pc_L_law_w47) (a := 1128) (p := 4) pc_L_law_a47 (by decide +kernel)
theorem dL_law_1135 : decode cL_law 1135 = .ok (.istore 5, 2) := dc_row (B := pc_L_law_w47) (a := 1128) (p := 7) pc_L_law_a47 (by decide +kernel)
theorem dL_law_1137 : decode cL_law 1137 = .ok (.aload_n 2, 1) := dc_row (B := pc_L_law_w47) (a := 1128) (p := 9) pc_L_law_a47 (by decide +kernel)
theorem dL_law_1138 : decode cL_law 1138 = .ok (.aload_n 0, 1) := dc_row (B := pc_L_law_w47) (a := 1128) (p := 10) pc_L_law_a47 (by decide +kernel)
theorem dL_law_1139 : decode cL_law 1139 = .ok (.iload 4, 2) := dc_row (B := pc_L_law_w47) (a := 1128) (p := 11) pc_L_law_a47 (by decide +kernel)
theorem dL_law_1141 : decode cL_law 1141 = .ok (.iconst 1, 1) := dc_row (B := pc_L_law_w47) (a := 1128) (p := 13) pc_L_law_a47 (by decide +kernel)
theorem dL_law_1142 : decode cL_law 1142 = .ok (.iadd, 1) := dc_row (B := pc_L_law_w47) (a := 1128) (p := 14) pc_L_law_a47 (by decide +kernel)
theorem dL_law_1143 : decode cL_law 1143 = .ok (.iaload, 1) := dc_row (B := pc_L_law_w47) (a := 1128) (p := 15) pc_L_law_a47 (by decide +kernel)
theorem dL_law_1144 : decode cL_law 1144 = .ok (.invokevirtual 229, 3) := dc_row (B := pc_L_law_w47) (a := 1128) (p := 16) pc_L_law_a47 (by decide +kernel)
theorem dL_law_1147 : decode cL_law 1147 = .ok (.istore 6, 2) := dc_row (B := pc_L_law_w47) (a := 1128) (p := 19) pc_L_law_a47 (by decide +kernel)
theorem dL_law_1149 : decode cL_law 1149 = .ok (.goto 681, 3) := dc_row (B := pc_L_law_w47) (a := 1128) (p := 21) pc_L_law_a47 (by decide +kernel)
theorem dL_law_1152 : decode cL_law 1152 = .ok (.aload_n 1, 1) := dc_row (B := pc_L_law_w48) (a := 1152) (p := 0) pc_L_law_a48 (by decide +kernel)
theorem dL_law_1153 : decode cL_law 1153 = .ok (.aload_n 0, 1) := dc_row (B := pc_L_law_w48) (a := 1152) (p := 1) pc_L_law_a48 (by decide +kernel)
theorem dL_law_1154 : decode cL_law 1154 = .ok (.iload 4, 2) := dc_row (B := pc_L_law_w48) (a := 1152) (p := 2) pc_L_law_a48 (by decide +kernel)
theorem dL_law_1156 : decode cL_law 1156 = .ok (.iconst 1, 1) := dc_row (B := pc_L_law_w48) (a := 1152) (p := 4) pc_L_law_a48 (by decide +kernel)
theorem dL_law_1157 : decode cL_law 1157 = .ok (.iadd, 1) := dc_row (B := pc_L_law_w48) (a := 1152) (p := 5) pc_L_law_a48 (by decide +kernel)
theorem dL_law_1158 : decode cL_law 1158 = .ok (.iaload, 1) := dc_row (B := pc_L_law_w48) (a := 1152) (p := 6) pc_L_law_a48 (by decide +kernel)
theorem dL_law_1159 : decode cL_law 1159 = .ok (.aload_n 3, 1) := dc_row (B := pc_L_law_w48) (a := 1152) (p := 7) pc_L_law_a48 (by decide +kernel)
theorem dL_law_1160 : decode cL_law 1160 = .ok (.invokestatic 230, 3) := dc_row (B := pc_L_law_w48) (a := 1152) (p := 8) pc_L_law_a48 (by decide +kernel)
theorem dL_law_1163 : decode cL_law 1163 = .ok (.istore 5, 2) := dc_row (B := pc_L_law_w48) (a := 1152) (p := 11) pc_L_law_a48 (by decide +kernel)
theorem dL_law_1165 : decode cL_law 1165 = .ok (.aload_n 2, 1) := dc_row (B := pc_L_law_w48) (a := 1152) (p := 13) pc_L_law_a48 (by decide +kernel)
theorem dL_law_1166 : decode cL_law 1166 = .ok (.aload_n 0, 1) := dc_row (B := pc_L_law_w48) (a := 1152) (p := 14) pc_L_law_a48 (by decide +kernel)
theorem dL_law_1167 : decode cL_law 1167 = .ok (.iload 4, 2) := dc_row (B := pc_L_law_w48) (a := 1152) (p := 15) pc_L_law_a48 (by decide +kernel)
theorem dL_law_1169 : decode cL_law 1169 = .ok (.iconst 1, 1) := dc_row (B := pc_L_law_w48) (a := 1152) (p := 17) pc_L_law_a48 (by decide +kernel)
theorem dL_law_1170 : decode cL_law 1170 = .ok (.iadd, 1) := dc_row (B := pc_L_law_w48) (a := 1152) (p := 18) pc_L_law_a48 (by decide +kernel)
theorem dL_law_1171 : decode cL_law 1171 = .ok (.iaload, 1) := dc_row (B := pc_L_law_w48) (a := 1152) (p := 19) pc_L_law_a48 (by decide +kernel)
theorem dL_law_1172 : decode cL_law 1172 = .ok (.invokevirtual 232, 3) := dc_row (B := pc_L_law_w48) (a := 1152) (p := 20) pc_L_law_a48 (by decide +kernel)
theorem dL_law_1175 : decode cL_law 1175 = .ok (.istore 6, 2) := dc_row (B := pc_L_law_w48) (a := 1152) (p := 23) pc_L_law_a48 (by decide +kernel)
theorem dL_law_1177 : decode cL_law 1177 = .ok (.goto 653, 3) := dc_row (B := pc_L_law_w49) (a := 1176) (p := 1) pc_L_law_a49 (by decide +kernel)
theorem dL_law_1180 : decode cL_law 1180 = .ok (.aload_n 1, 1) := dc_row (B := pc_L_law_w49) (a := 1176) (p := 4) pc_L_law_a49 (by decide +kernel)
theorem dL_law_1181 : decode cL_law 1181 = .ok (.aload_n 0, 1) := dc_row (B := pc_L_law_w49) (a := 1176) (p := 5) pc_L_law_a49 (by decide +kernel)
theorem dL_law_1182 : decode cL_law 1182 = .ok (.iload 4, 2) := dc_row (B := pc_L_law_w49) (a := 1176) (p := 6) pc_L_law_a49 (by decide +kernel)
theorem dL_law_1184 : decode cL_law 1184 = .ok (.iconst 1, 1) := dc_row (B := pc_L_law_w49) (a := 1176) (p := 8) pc_L_law_a49 (by decide +kernel)
theorem dL_law_1185 : decode cL_law 1185 = .ok (.iadd, 1) := dc_row (B := pc_L_law_w49) (a := 1176) (p := 9) pc_L_law_a49 (by decide +kernel)
theorem dL_law_1186 : decode cL_law 1186 = .ok (.iaload, 1) := dc_row (B := pc_L_law_w49) (a := 1176) (p := 10) pc_L_law_a49 (by decide +kernel)
theorem dL_law_1187 : decode cL_law 1187 = .ok (.aload_n 0, 1) := dc_row (B := pc_L_law_w49) (a := 1176) (p := 11) pc_L_law_a49 (by decide +kernel)
theorem dL_law_1188 : decode cL_law 1188 = .ok (.iload 4, 2) := dc_row (B := pc_L_law_w49) (a := 1176) (p := 12) pc_L_law_a49 (by decide +kernel)
theorem dL_law_1190 : decode cL_law 1190 = .ok (.iconst 2, 1) := dc_row (B := pc_L_law_w49) (a := 1176) (p := 14) pc_L_law_a49 (by decide +kernel)
theorem dL_law_1191 : decode cL_law 1191 = .ok (.iadd, 1) := dc_row (B := pc_L_law_w49) (a := 1176) (p := 15) pc_L_law_a49 (by decide +kernel)
theorem dL_law_1192 : decode cL_law 1192 = .ok (.iaload, 1) := dc_row (B := pc_L_law_w49) (a := 1176) (p := 16) pc_L_law_a49 (by decide +kernel)
theorem dL_law_1193 : decode cL_law 1193 = .ok (.aload_n 3, 1) := dc_row (B := pc_L_law_w49) (a := 1176) (p := 17) pc_L_law_a49 (by decide +kernel)
theorem dL_law_1194 : decode cL_law 1194 = .ok (.invokestatic 233, 3) := dc_row (B := pc_L_law_w49) (a := 1176) (p := 18) pc_L_law_a49 (by decide +kernel)
theorem dL_law_1197 : decode cL_law 1197 = .ok (.istore 5, 2) := dc_row (B := pc_L_law_w49) (a := 1176) (p := 21) pc_L_law_a49 (by decide +kernel)
theorem dL_law_1199 : decode cL_law 1199 = .ok (.aload_n 2, 1) := dc_row (B := pc_L_law_w49) (a := 1176) (p := 23) pc_L_law_a49 (by decide +kernel)
theorem dL_law_1200 : decode cL_law 1200 = .ok (.aload_n 0, 1) := dc_row (B := pc_L_law_w50) (a := 1200) (p := 0) pc_L_law_a50 (by decide +kernel)
theorem dL_law_1201 : decode cL_law 1201 = .ok (.iload 4, 2) := dc_row (B := pc_L_law_w50) (a := 1200) (p := 1) pc_L_law_a50 (by decide +kernel)
theorem dL_law_1203 : decode cL_law 1203 = .ok (.iconst 1, 1) := dc_row (B := pc_L_law_w50) (a := 1200) (p := 3) pc_L_law_a50 (by decide +kernel)
theorem dL_law_1204 : decode cL_law 1204 = .ok (.iadd, 1) := dc_row (B := pc_L_law_w50) (a := 1200) (p := 4) pc_L_law_a50 (by decide +kernel)
theorem dL_law_1205 : decode cL_law 1205 = .ok (.iaload, 1) := dc_row (B := pc_L_law_w50) (a := 1200) (p := 5) pc_L_law_a50 (by decide +kernel)
theorem dL_law_1206 : decode cL_law 1206 = .ok (.aload_n 0, 1) := dc_row (B := pc_L_law_w50) (a := 1200) (p := 6) pc_L_law_a50 (by decide +kernel)
theorem dL_law_1207 : decode cL_law 1207 = .ok (.iload 4, 2) := dc_row (B := pc_L_law_w50) (a := 1200) (p := 7) pc_L_law_a50 (by decide +kernel)
theorem dL_law_1209 : decode cL_law 1209 = .ok (.iconst 2, 1) := dc_row (B := pc_L_law_w50) (a := 1200) (p := 9) pc_L_law_a50 (by decide +kernel)
theorem dL_law_1210 : decode cL_law 1210 = .ok (.iadd, 1) := dc_row (B := pc_L_law_w50) (a := 1200) (p := 10) pc_L_law_a50 (by decide +kernel)
theorem dL_law_1211 : decode cL_law 1211 = .ok (.iaload, 1) := dc_row (B := pc_L_law_w50) (a := 1200) (p := 11) pc_L_law_a50 (by decide +kernel)
theorem dL_law_1212 : decode cL_law 1212 = .ok (.invokevirtual 235, 3) := dc_row (B := pc_L_law_w50) (a := 1200) (p := 12) pc_L_law_a50 (by decide +kernel)
theorem dL_law_1215 : decode cL_law 1215 = .ok (.istore 6, 2) := dc_row (B := pc_L_law_w50) (a := 1200) (p := 15) pc_L_law_a50 (by decide +kernel)
theorem dL_law_1217 : decode cL_law 1217 = .ok (.goto 613, 3) := dc_row (B := pc_L_law_w50) (a := 1200) (p := 17) pc_L_law_a50 (by decide +kernel)
theorem dL_law_1220 : decode cL_law 1220 = .ok (.aload_n 1, 1) := dc_row (B := pc_L_law_w50) (a := 1200) (p := 20) pc_L_law_a50 (by decide +kernel)
theorem dL_law_1221 : decode cL_law 1221 = .ok (.aload_n 0, 1) := dc_row (B := pc_L_law_w50) (a := 1200) (p := 21) pc_L_law_a50 (by decide +kernel)
theorem dL_law_1222 : decode cL_law 1222 = .ok (.iload 4, 2) := dc_row (B := pc_L_law_w50) (a := 1200) (p := 22) pc_L_law_a50 (by decide +kernel)
theorem dL_law_1224 : decode cL_law 1224 = .ok (.iconst 1, 1) := dc_row (B := pc_L_law_w51) (a := 1224) (p := 0) pc_L_law_a51 (by decide +kernel)
theorem dL_law_1225 : decode cL_law 1225 = .ok (.iadd, 1) := dc_row (B := pc_L_law_w51) (a := 1224) (p := 1) pc_L_law_a51 (by decide +kernel)
theorem dL_law_1226 : decode cL_law 1226 = .ok (.iaload, 1) := dc_row (B := pc_L_law_w51) (a := 1224) (p := 2) pc_L_law_a51 (by decide +kernel)
theorem dL_law_1227 : decode cL_law 1227 = .ok (.aload_n 3, 1) := dc_row (B := pc_L_law_w51) (a := 1224) (p := 3) pc_L_law_a51 (by decide +kernel)
theorem dL_law_1228 : decode cL_law 1228 = .ok (.invokestatic 236, 3) := dc_row (B := pc_L_law_w51) (a := 1224) (p := 4) pc_L_law_a51 (by decide +kernel)
theorem dL_law_1231 : decode cL_law 1231 = .ok (.istore 5, 2) := dc_row (B := pc_L_law_w51) (a := 1224) (p := 7) pc_L_law_a51 (by decide +kernel)
theorem dL_law_1233 : decode cL_law 1233 = .ok (.aload_n 2, 1) := dc_row (B := pc_L_law_w51) (a := 1224) (p := 9) pc_L_law_a51 (by decide +kernel)
theorem dL_law_1234 : decode cL_law 1234 = .ok (.aload_n 0, 1) := dc_row (B := pc_L_law_w51) (a := 1224) (p := 10) pc_L_law_a51 (by decide +kernel)
theorem dL_law_1235 : decode cL_law 1235 = .ok (.iload 4, 2) := dc_row (B := pc_L_law_w51) (a := 1224) (p := 11) pc_L_law_a51 (by decide +kernel)
theorem dL_law_1237 : decode cL_law 1237 = .ok (.iconst 1, 1) := dc_row (B := pc_L_law_w51) (a := 1224) (p := 13) pc_L_law_a51 (by decide +kernel)
theorem dL_law_1238 : decode cL_law 1238 = .ok (.iadd, 1) := dc_row (B := pc_L_law_w51) (a := 1224) (p := 14) pc_L_law_a51 (by decide +kernel)
theorem dL_law_1239 : decode cL_law 1239 = .ok (.iaload, 1) := dc_row (B := pc_L_law_w51) (a := 1224) (p := 15) pc_L_law_a51 (by decide +kernel)
theorem dL_law_1240 : decode cL_law 1240 = .ok (.invokevirtual 238, 3) := dc_row (B := pc_L_law_w51) (a := 1224) (p := 16) pc_L_law_a51 (by decide +kernel)
theorem dL_law_1243 : decode cL_law 1243 = .ok (.istore 6, 2) := dc_row (B := pc_L_law_w51) (a := 1224) (p := 19) pc_L_law_a51 (by decide +kernel)
theorem dL_law_1245 : decode cL_law 1245 = .ok (.goto 585, 3) := dc_row (B := pc_L_law_w51) (a := 1224) (p := 21) pc_L_law_a51 (by decide +kernel)
theorem dL_law_1248 : decode cL_law 1248 = .ok (.aload_n 1, 1) := dc_row (B := pc_L_law_w52) (a := 1248) (p := 0) pc_L_law_a52 (by decide +kernel)
theorem dL_law_1249 : decode cL_law 1249 = .ok (.aload_n 0, 1) := dc_row (B := pc_L_law_w52) (a := 1248) (p := 1) pc_L_law_a52 (by decide +kernel)
theorem dL_law_1250 : decode cL_law 1250 = .ok (.iload 4, 2) := dc_row (B := pc_L_law_w52) (a := 1248) (p := 2) pc_L_law_a52 (by decide +kernel)
theorem dL_law_1252 : decode cL_law 1252 = .ok (.iconst 1, 1) := dc_row (B := pc_L_law_w52) (a := 1248) (p := 4) pc_L_law_a52 (by decide +kernel)
theorem dL_law_1253 : decode cL_law 1253 = .ok (.iadd, 1) := dc_row (B := pc_L_law_w52) (a := 1248) (p := 5) pc_L_law_a52 (by decide +kernel)
theorem dL_law_1254 : decode cL_law 1254 = .ok (.iaload, 1) := dc_row (B := pc_L_law_w52) (a := 1248) (p := 6) pc_L_law_a52 (by decide +kernel)
theorem dL_law_1255 : decode cL_law 1255 = .ok (.aload_n 3, 1) := dc_row (B := pc_L_law_w52) (a := 1248) (p := 7) pc_L_law_a52 (by decide +kernel)
theorem dL_law_1256 : decode cL_law 1256 = .ok (.invokestatic 239, 3) := dc_row (B := pc_L_law_w52) (a := 1248) (p := 8) pc_L_law_a52 (by decide +kernel)
theorem dL_law_1259 : decode cL_law 1259 = .ok (.istore 5, 2) := dc_row (B := pc_L_law_w52) (a := 1248) (p := 11) pc_L_law_a52 (by decide +kernel)
theorem dL_law_1261 : decode cL_law 1261 = .ok (.aload_n 2, 1) := dc_row (B := pc_L_law_w52) (a := 1248) (p := 13) pc_L_law_a52 (by decide +kernel)
theorem dL_law_1262 : decode cL_law 1262 = .ok (.aload_n 0, 1) := dc_row (B := pc_L_law_w52) (a := 1248) (p := 14) pc_L_law_a52 (by decide +kernel)
theorem dL_law_1263 : decode cL_law 1263 = .ok (.iload 4, 2) := dc_row (B := pc_L_law_w52) (a := 1248) (p := 15) pc_L_law_a52 (by decide +kernel)
theorem dL_law_1265 : decode cL_law 1265 = .ok (.iconst 1, 1) := dc_row (B := pc_L_law_w52) (a := 1248) (p := 17) pc_L_law_a52 (by decide +kernel)
theorem dL_law_1266 : decode cL_law 1266 = .ok (.iadd, 1) := dc_row (B := pc_L_law_w52) (a := 1248) (p := 18) pc_L_law_a52 (by decide +kernel)
theorem dL_law_1267 : decode cL_law 1267 = .ok (.iaload, 1) := dc_row (B := pc_L_law_w52) (a := 1248) (p := 19) pc_L_law_a52 (by decide +kernel)
theorem dL_law_1268 : decode cL_law 1268 = .ok (.invokevirtual 241, 3) := dc_row (B := pc_L_law_w52) (a := 1248) (p := 20) pc_L_law_a52 (by decide +kernel)
theorem dL_law_1271 : decode cL_law 1271 = .ok (.istore 6, 2) := dc_row (B := pc_L_law_w52) (a := 1248) (p := 23) pc_L_law_a52 (by decide +kernel)
theorem dL_law_1273 : decode cL_law 1273 = .ok (.goto 557, 3) := dc_row (B := pc_L_law_w53) (a := 1272) (p := 1) pc_L_law_a53 (by decide +kernel)
theorem dL_law_1276 : decode cL_law 1276 = .ok (.aload_n 1, 1) := dc_row (B := pc_L_law_w53) (a := 1272) (p := 4) pc_L_law_a53 (by decide +kernel)
theorem dL_law_1277 : decode cL_law 1277 = .ok (.invokevirtual 242, 3) := dc_row (B := pc_L_law_w53) (a := 1272) (p := 5) pc_L_law_a53 (by decide +kernel)
theorem dL_law_1280 : decode cL_law 1280 = .ok (.pop, 1) := dc_row (B := pc_L_law_w53) (a := 1272) (p := 8) pc_L_law_a53 (by decide +kernel)
theorem dL_law_1281 : decode cL_law 1281 = .ok (.aload_n 2, 1) := dc_row (B := pc_L_law_w53) (a := 1272) (p := 9) pc_L_law_a53 (by decide +kernel)
theorem dL_law_1282 : decode cL_law 1282 = .ok (.invokevirtual 246, 3) := dc_row (B := pc_L_law_w53) (a := 1272) (p := 10) pc_L_law_a53 (by decide +kernel)
theorem dL_law_1285 : decode cL_law 1285 = .ok (.pop, 1) := dc_row (B := pc_L_law_w53) (a := 1272) (p := 13) pc_L_law_a53 (by decide +kernel)
theorem dL_law_1286 : decode cL_law 1286 = .ok (.goto 544, 3) := dc_row (B := pc_L_law_w53) (a := 1272) (p := 14) pc_L_law_a53 (by decide +kernel)
theorem dL_law_1289 : decode cL_law 1289 = .ok (.aload_n 1, 1) := dc_row (B := pc_L_law_w53) (a := 1272) (p := 17) pc_L_law_a53 (by decide +kernel)
theorem dL_law_1290 : decode cL_law 1290 = .ok (.aload_n 0, 1) := dc_row (B := pc_L_law_w53) (a := 1272) (p := 18) pc_L_law_a53 (by decide +kernel)
theorem dL_law_1291 : decode cL_law 1291 = .ok (.iload 4, 2) := dc_row (B := pc_L_law_w53) (a := 1272) (p := 19) pc_L_law_a53 (by decide +kernel)
theorem dL_law_1293 : decode cL_law 1293 = .ok (.iconst 1, 1) := dc_row (B := pc_L_law_w53) (a := 1272) (p := 21) pc_L_law_a53 (by decide +kernel)
theorem dL_law_1294 : decode cL_law 1294 = .ok (.iadd, 1) := dc_row (B := pc_L_law_w53) (a := 1272) (p := 22) pc_L_law_a53 (by decide +kernel)
theorem dL_law_1295 : decode cL_law 1295 = .ok (.iaload, 1) := dc_row (B := pc_L_law_w53) (a := 1272) (p := 23) pc_L_law_a53 (by decide +kernel)
theorem dL_law_1296 : decode cL_law 1296 = .ok (.aload_n 0, 1) := dc_row (B := pc_L_law_w54) (a := 1296) (p := 0) pc_L_law_a54 (by decide +kernel)
theorem dL_law_1297 : decode cL_law 1297 = .ok (.iload 4, 2) := dc_row (B := pc_L_law_w54) (a := 1296) (p := 1) pc_L_law_a54 (by decide +kernel)
theorem dL_law_1299 : decode cL_law 1299 = .ok (.iconst 2, 1) := dc_row (B := pc_L_law_w54) (a := 1296) (p := 3) pc_L_law_a54 (by decide +kernel)
theorem dL_law_1300 : decode cL_law 1300 = .ok (.iadd, 1) := dc_row (B := pc_L_law_w54) (a := 1296) (p := 4) pc_L_law_a54 (by decide +kernel)
theorem dL_law_1301 : decode cL_law 1301 = .ok (.iaload, 1) := dc_row (B := pc_L_law_w54) (a := 1296) (p := 5) pc_L_law_a54 (by decide +kernel)
theorem dL_law_1302 : decode cL_law 1302 = .ok (.aload_n 3, 1) := dc_row (B := pc_L_law_w54) (a := 1296) (p := 6) pc_L_law_a54 (by decide +kernel)
theorem dL_law_1303 : decode cL_law 1303 = .ok (.invokestatic 247, 3) := dc_row (B := pc_L_law_w54) (a := 1296) (p := 7) pc_L_law_a54 (by decide +kernel)
theorem dL_law_1306 : decode cL_law 1306 = .ok (.istore 5, 2) := dc_row (B := pc_L_law_w54) (a := 1296) (p := 10) pc_L_law_a54 (by decide +kernel)
theorem dL_law_1308 : decode cL_law 1308 = .ok (.aload_n 2, 1) := dc_row (B := pc_L_law_w54) (a := 1296) (p := 12) pc_L_law_a54 (by decide +kernel)
theorem dL_law_1309 : decode cL_law 1309 = .ok (.aload_n 0, 1) := dc_row (B := pc_L_law_w54) (a := 1296) (p := 13) pc_L_law_a54 (by decide +kernel)
theorem dL_law_1310 : decode cL_law 1310 = .ok (.iload 4, 2) := dc_row (B := pc_L_law_w54) (a := 1296) (p := 14) pc_L_law_a54 (by decide +kernel)
theorem dL_law_1312 : decode cL_law 1312 = .ok (.iconst 1, 1) := dc_row (B := pc_L_law_w54) (a := 1296) (p := 16) pc_L_law_a54 (by decide +kernel)
theorem dL_law_1313 : decode cL_law 1313 = .ok (.iadd, 1) := dc_row (B := pc_L_law_w54) (a := 1296) (p := 17) pc_L_law_a54 (by decide +kernel)
theorem dL_law_1314 : decode cL_law 1314 = .ok (.iaload, 1) := dc_row (B := pc_L_law_w54) (a := 1296) (p := 18) pc_L_law_a54 (by decide +kernel)
theorem dL_law_1315 : decode cL_law 1315 = .ok (.aload_n 0, 1) := dc_row (B := pc_L_law_w54) (a := 1296) (p := 19) pc_L_law_a54 (by decide +kernel)
theorem dL_law_1316 : decode cL_law 1316 = .ok (.iload 4, 2) := dc_row (B := pc_L_law_w54) (a := 1296) (p := 20) pc_L_law_a54 (by decide +kernel)
theorem dL_law_1318 : decode cL_law 1318 = .ok (.iconst 2, 1) := dc_row (B := pc_L_law_w54) (a := 1296) (p := 22) pc_L_law_a54 (by decide +kernel)
theorem dL_law_1319 : decode cL_law 1319 = .ok (.iadd, 1) := dc_row (B := pc_L_law_w54) (a := 1296) (p := 23) pc_L_law_a54 (by decide +kernel)
theorem dL_law_1320 : decode cL_law 1320 = .ok (.iaload, 1) := dc_row (B := pc_L_law_w55) (a := 1320) (p := 0) pc_L_law_a55 (by decide +kernel)
theorem dL_law_1321 : decode cL_law 1321 = .ok (.invokevirtual 249, 3) := dc_row (B := pc_L_law_w55) (a := 1320) (p := 1) pc_L_law_a55 (by decide +kernel)
theorem dL_law_1324 : decode cL_law 1324 = .ok (.istore 6, 2) := dc_row (B := pc_L_law_w55) (a := 1320) (p := 4) pc_L_law_a55 (by decide +kernel)
theorem dL_law_1326 : decode cL_law 1326 = .ok (.goto 504, 3) := dc_row (B := pc_L_law_w55) (a := 1320) (p := 6) pc_L_law_a55 (by decide +kernel)
theorem dL_law_1329 : decode cL_law 1329 = .ok (.aload_n 1, 1) := dc_row (B := pc_L_law_w55) (a := 1320) (p := 9) pc_L_law_a55 (by decide +kernel)
theorem dL_law_1330 : decode cL_law 1330 = .ok (.aload_n 0, 1) := dc_row (B := pc_L_law_w55) (a := 1320) (p := 10) pc_L_law_a55 (by decide +kernel)
theorem dL_law_1331 : decode cL_law 1331 = .ok (.iload 4, 2) := dc_row (B := pc_L_law_w55) (a := 1320) (p := 11) pc_L_law_a55 (by decide +kernel)
theorem dL_law_1333 : decode cL_law 1333 = .ok (.iconst 1, 1) := dc_row (B := pc_L_law_w55) (a := 1320) (p := 13) pc_L_law_a55 (by decide +kernel)
theorem dL_law_1334 : decode cL_law 1334 = .ok (.iadd, 1) := dc_row (B := pc_L_law_w55) (a := 1320) (p := 14) pc_L_law_a55 (by decide +kernel)
theorem dL_law_1335 : decode cL_law 1335 = .ok (.iaload, 1) := dc_row (B := pc_L_law_w55) (a := 1320) (p := 15) pc_L_law_a55 (by decide +kernel)
theorem dL_law_1336 : decode cL_law 1336 = .ok (.aload_n 0, 1) := dc_row (B := pc_L_law_w55) (a := 1320) (p := 16) pc_L_law_a55 (by decide +kernel)
theorem dL_law_1337 : decode cL_law 1337 = .ok (.iload 4, 2) := dc_row (B := pc_L_law_w55) (a := 1320) (p := 17) pc_L_law_a55 (by decide +kernel)
theorem dL_law_1339 : decode cL_law 1339 = .ok (.iconst 2, 1) := dc_row (B := pc_L_law_w55) (a := 1320) (p := 19) pc_L_law_a55 (by decide +kernel)
theorem dL_law_1340 : decode cL_law 1340 = .ok (.iadd, 1) := dc_row (B := pc_L_law_w55) (a := 1320) (p := 20) pc_L_law_a55 (by decide +kernel)
theorem dL_law_1341 : decode cL_law 1341 = .ok (.iaload, 1) := dc_row (B := pc_L_law_w55) (a := 1320) (p := 21) pc_L_law_a55 (by decide +kernel)
theorem dL_law_1342 : decode cL_law 1342 = .ok (.aload_n 3, 1) := dc_row (B := pc_L_law_w55) (a := 1320) (p := 22) pc_L_law_a55 (by decide +kernel)
theorem dL_law_1343 : decode cL_law 1343 = .ok (.invokestatic 250, 3) := dc_row (B := pc_L_law_w55) (a := 1320) (p := 23) pc_L_law_a55 (by decide +kernel)
theorem dL_law_1346 : decode cL_law 1346 = .ok (.istore 5, 2) := dc_row (B := pc_L_law_w56) (a := 1344) (p := 2) pc_L_law_a56 (by decide +kernel)
theorem dL_law_1348 : decode cL_law 1348 = .ok (.aload_n 2, 1) := dc_row (B := pc_L_law_w56) (a := 1344) (p := 4) pc_L_law_a56 (by decide +kernel)
theorem dL_law_1349 : decode cL_law 1349 = .ok (.aload_n 0, 1) := dc_row (B := pc_L_law_w56) (a := 1344) (p := 5) pc_L_law_a56 (by decide +kernel)
theorem dL_law_1350 : decode cL_law 1350 = .ok (.iload 4, 2) := dc_row (B := pc_L_law_w56) (a := 1344) (p := 6) pc_L_law_a56 (by decide +kernel)
theorem dL_law_1352 : decode cL_law 1352 = .ok (.iconst 1, 1) := dc_row (B := pc_L_law_w56) (a := 1344) (p := 8) pc_L_law_a56 (by decide +kernel)
theorem dL_law_1353 : decode cL_law 1353 = .ok (.iadd, 1) := dc_row (B := pc_L_law_w56) (a := 1344) (p := 9) pc_L_law_a56 (by decide +kernel)
theorem dL_law_1354 : decode cL_law 1354 = .ok (.iaload, 1) := dc_row (B := pc_L_law_w56) (a := 1344) (p := 10) pc_L_law_a56 (by decide +kernel)
theorem dL_law_1355 : decode cL_law 1355 = .ok (.aload_n 0, 1) := dc_row (B := pc_L_law_w56) (a := 1344) (p := 11) pc_L_law_a56 (by decide +kernel)
theorem dL_law_1356 : decode cL_law 1356 = .ok (.iload 4, 2) := dc_row (B := pc_L_law_w56) (a := 1344) (p := 12) pc_L_law_a56 (by decide +kernel)
theorem dL_law_1358 : decode cL_law 1358 = .ok (.iconst 2, 1) := dc_row (B := pc_L_law_w56) (a := 1344) (p := 14) pc_L_law_a56 (by decide +kernel)
theorem dL_law_1359 : decode cL_law 1359 = .ok (.iadd, 1) := dc_row (B := pc_L_law_w56) (a := 1344) (p := 15) pc_L_law_a56 (by decide +kernel)
theorem dL_law_1360 : decode cL_law 1360 = .ok (.iaload, 1) := dc_row (B := pc_L_law_w56) (a := 1344) (p := 16) pc_L_law_a56 (by decide +kernel)
theorem dL_law_1361 : decode cL_law 1361 = .ok (.invokevirtual 252, 3) := dc_row (B := pc_L_law_w56) (a := 1344) (p := 17) pc_L_law_a56 (by decide +kernel)
theorem dL_law_1364 : decode cL_law 1364 = .ok (.istore 6, 2) := dc_row (B := pc_L_law_w56) (a := 1344) (p := 20) pc_L_law_a56 (by decide +kernel)
theorem dL_law_1366 : decode cL_law 1366 = .ok (.goto 464, 3) := dc_row (B := pc_L_law_w56) (a := 1344) (p := 22) pc_L_law_a56 (by decide +kernel)
theorem dL_law_1369 : decode cL_law 1369 = .ok (.aload_n 1, 1) := dc_row (B := pc_L_law_w57) (a := 1368) (p := 1) pc_L_law_a57 (by decide +kernel)
theorem dL_law_1370 : decode cL_law 1370 = .ok (.aload_n 0, 1) := dc_row (B := pc_L_law_w57) (a := 1368) (p := 2) pc_L_law_a57 (by decide +kernel)
theorem dL_law_1371 : decode cL_law 1371 = .ok (.iload 4, 2) := dc_row (B := pc_L_law_w57) (a := 1368) (p := 3) pc_L_law_a57 (by decide +kernel)
theorem dL_law_1373 : decode cL_law 1373 = .ok (.iconst 1, 1) := dc_row (B := pc_L_law_w57) (a := 1368) (p := 5) pc_L_law_a57 (by decide +kernel)
theorem dL_law_1374 : decode cL_law 1374 = .ok (.iadd, 1) := dc_row (B := pc_L_law_w57) (a := 1368) (p := 6) pc_L_law_a57 (by decide +kernel)
theorem dL_law_1375 : decode cL_law 1375 = .ok (.iaload, 1) := dc_row (B := pc_L_law_w57) (a := 1368) (p := 7) pc_L_law_a57 (by decide +kernel)
theorem dL_law_1376 : decode cL_law 1376 = .ok (.aload_n 0, 1) := dc_row (B := pc_L_law_w57) (a := 1368) (p := 8) pc_L_law_a57 (by decide +kernel)
theorem dL_law_1377 : decode cL_law 1377 = .ok (.iload 4, 2) := dc_row (B := pc_L_law_w57) (a := 1368) (p := 9) pc_L_law_a57 (by decide +kernel)
theorem dL_law_1379 : decode cL_law 1379 = .ok (.iconst 2, 1) := dc_row (B := pc_L_law_w57) (a := 1368) (p := 11) pc_L_law_a57 (by decide +kernel)
theorem dL_law_1380 : decode cL_law 1380 = .ok (.iadd, 1) := dc_row (B := pc_L_law_w57) (a := 1368) (p := 12) pc_L_law_a57 (by decide +kernel)
theorem dL_law_1381 : decode cL_law 1381 = .ok (.iaload, 1) := dc_row (B := pc_L_law_w57) (a := 1368) (p := 13) pc_L_law_a57 (by decide +kernel)
theorem dL_law_1382 : decode cL_law 1382 = .ok (.aload_n 3, 1) := dc_row (B := pc_L_law_w57) (a := 1368) (p := 14) pc_L_law_a57 (by decide +kernel)
theorem dL_law_1383 : decode cL_law 1383 = .ok (.invokestatic 253, 3) := dc_row (B := pc_L_law_w57) (a := 1368) (p := 15) pc_L_law_a57 (by decide +kernel)
theorem dL_law_1386 : decode cL_law 1386 = .ok (.istore 5, 2) := dc_row (B := pc_L_law_w57) (a := 1368) (p := 18) pc_L_law_a57 (by decide +kernel)
theorem dL_law_1388 : decode cL_law 1388 = .ok (.aload_n 2, 1) := dc_row (B := pc_L_law_w57) (a := 1368) (p := 20) pc_L_law_a57 (by decide +kernel)
theorem dL_law_1389 : decode cL_law 1389 = .ok (.aload_n 0, 1) := dc_row (B := pc_L_law_w57) (a := 1368) (p := 21) pc_L_law_a57 (by decide +kernel)
theorem dL_law_1390 : decode cL_law 1390 = .ok (.iload 4, 2) := dc_row (B := pc_L_law_w57) (a := 1368) (p := 22) pc_L_law_a57 (by decide +kernel)
theorem dL_law_1392 : decode cL_law 1392 = .ok (.iconst 1, 1) := dc_row (B := pc_L_law_w58) (a := 1392) (p := 0) pc_L_law_a58 (by decide +kernel)
theorem dL_law_1393 : decode cL_law 1393 = .ok (.iadd, 1) := dc_row (B := pc_L_law_w58) (a := 1392) (p := 1) pc_L_law_a58 (by decide +kernel)
theorem dL_law_1394 : decode cL_law 1394 = .ok (.iaload, 1) := dc_row (B := pc_L_law_w58) (a := 1392) (p := 2) pc_L_law_a58 (by decide +kernel)
theorem dL_law_1395 : decode cL_law 1395 = .ok (.aload_n 0, 1) := dc_row (B := pc_L_law_w58) (a := 1392) (p := 3) pc_L_law_a58 (by decide +kernel)
theorem dL_law_1396 : decode cL_law 1396 = .ok (.iload 4, 2) := dc_row (B := pc_L_law_w58) (a := 1392) (p := 4) pc_L_law_a58 (by decide +kernel)
theorem dL_law_1398 : decode cL_law 1398 = .ok (.iconst 2, 1) := dc_row (B := pc_L_law_w58) (a := 1392) (p := 6) pc_L_law_a58 (by decide +kernel)
theorem dL_law_1399 : decode cL_law 1399 = .ok (.iadd, 1) := dc_row (B := pc_L_law_w58) (a := 1392) (p := 7) pc_L_law_a58 (by decide +kernel)
theorem dL_law_1400 : decode cL_law 1400 = .ok (.iaload, 1) := dc_row (B := pc_L_law_w58) (a := 1392) (p := 8) pc_L_law_a58 (by decide +kernel)
theorem dL_law_1401 : decode cL_law 1401 = .ok (.invokevirtual 255, 3) := dc_row (B := pc_L_law_w58) (a := 1392) (p := 9) pc_L_law_a58 (by decide +kernel)
theorem dL_law_1404 : decode cL_law 1404 = .ok (.istore 6, 2) := dc_row (B := pc_L_law_w58) (a := 1392) (p := 12) pc_L_law_a58 (by decide +kernel)
theorem dL_law_1406 : decode cL_law 1406 = .ok (.goto 424, 3) := dc_row (B := pc_L_law_w58) (a := 1392) (p := 14) pc_L_law_a58 (by decide +kernel)
theorem dL_law_1409 : decode cL_law 1409 = .ok (.aload_n 1, 1) := dc_row (B := pc_L_law_w58) (a := 1392) (p := 17) pc_L_law_a58 (by decide +kernel)
theorem dL_law_1410 : decode cL_law 1410 = .ok (.aload_n 0, 1) := dc_row (B := pc_L_law_w58) (a := 1392) (p := 18) pc_L_law_a58 (by decide +kernel)
theorem dL_law_1411 : decode cL_law 1411 = .ok (.iload 4, 2) := dc_row (B := pc_L_law_w58) (a := 1392) (p := 19) pc_L_law_a58 (by decide +kernel)
theorem dL_law_1413 : decode cL_law 1413 = .ok (.iconst 1, 1) := dc_row (B := pc_L_law_w58) (a := 1392) (p := 21) pc_L_law_a58 (by decide +kernel)
theorem dL_law_1414 : decode cL_law 1414 = .ok (.iadd, 1) := dc_row (B := pc_L_law_w58) (a := 1392) (p := 22) pc_L_law_a58 (by decide +kernel)
theorem dL_law_1415 : decode cL_law 1415 = .ok (.iaload, 1) := dc_row (B := pc_L_law_w58) (a := 1392) (p := 23) pc_L_law_a58 (by decide +kernel)
theorem dL_law_1416 : decode cL_law 1416 = .ok (.aload_n 0, 1) := dc_row (B := pc_L_law_w59) (a := 1416) (p := 0) pc_L_law_a59 (by decide +kernel)
theorem dL_law_1417 : decode cL_law 1417 = .ok (.iload 4, 2) := dc_row (B := pc_L_law_w59) (a := 1416) (p := 1) pc_L_law_a59 (by decide +kernel)
theorem dL_law_1419 : decode cL_law 1419 = .ok (.iconst 2, 1) := dc_row (B := pc_L_law_w59) (a := 1416) (p := 3) pc_L_law_a59 (by decide +kernel)
theorem dL_law_1420 : decode cL_law 1420 = .ok (.iadd, 1) := dc_row (B := pc_L_law_w59) (a := 1416) (p := 4) pc_L_law_a59 (by decide +kernel)
theorem dL_law_1421 : decode cL_law 1421 = .ok (.iaload, 1) := dc_row (B := pc_L_law_w59) (a := 1416) (p := 5) pc_L_law_a59 (by decide +kernel)
theorem dL_law_1422 : decode cL_law 1422 = .ok (.aload_n 0, 1) := dc_row (B := pc_L_law_w59) (a := 1416) (p := 6) pc_L_law_a59 (by decide +kernel)
theorem dL_law_1423 : decode cL_law 1423 = .ok (.iload 4, 2) := dc_row (B := pc_L_law_w59) (a := 1416) (p := 7) pc_L_law_a59 (by decide +kernel)
theorem dL_law_1425 : decode cL_law 1425 = .ok (.iconst 3, 1) := dc_row (B := pc_L_law_w59) (a := 1416) (p := 9) pc_L_law_a59 (by decide +kernel)
theorem dL_law_1426 : decode cL_law 1426 = .ok (.iadd, 1) := dc_row (B := pc_L_law_w59) (a := 1416) (p := 10) pc_L_law_a59 (by decide +kernel)
theorem dL_law_1427 : decode cL_law 1427 = .ok (.iaload, 1) := dc_row (B := pc_L_law_w59) (a := 1416) (p := 11) pc_L_law_a59 (by decide +kernel)
theorem dL_law_1428 : decode cL_law 1428 = .ok (.aload_n 3, 1) := dc_row (B := pc_L_law_w59) (a := 1416) (p := 12) pc_L_law_a59 (by decide +kernel)
theorem dL_law_1429 : decode cL_law 1429 = .ok (.invokestatic 256, 3) := dc_row (B := pc_L_law_w59) (a := 1416) (p := 13) pc_L_law_a59 (by decide +kernel)
theorem dL_law_1432 : decode cL_law 1432 = .ok (.istore 5, 2) := dc_row (B := pc_L_law_w59) (a := 1416) (p := 16) pc_L_law_a59 (by decide +kernel)
theorem dL_law_1434 : decode cL_law 1434 = .ok (.aload_n 2, 1) := dc_row (B := pc_L_law_w59) (a := 1416) (p := 18) pc_L_law_a59 (by decide +kernel)
theorem dL_law_1435 : decode cL_law 1435 = .ok (.aload_n 0, 1) := dc_row (B := pc_L_law_w59) (a := 1416) (p := 19) pc_L_law_a59 (by decide +kernel)
theorem dL_law_1436 : decode cL_law 1436 = .ok (.iload 4, 2) := dc_row (B := pc_L_law_w59) (a := 1416) (p := 20) pc_L_law_a59 (by decide +kernel)
theorem dL_law_1438 : decode cL_law 1438 = .ok (.iconst 1, 1) := dc_row (B := pc_L_law_w59) (a := 1416) (p := 22) pc_L_law_a59 (by decide +kernel)
theorem dL_law_1439 : decode cL_law 1439 = .ok (.iadd, 1) := dc_row (B := pc_L_law_w59) (a := 1416) (p := 23) pc_L_law_a59 (by decide +kernel)
theorem dL_law_1440 : decode cL_law 1440 = .ok (.iaload, 1) := dc_row (B := pc_L_law_w60) (a := 1440) (p := 0) pc_L_law_a60 (by decide +kernel)
theorem dL_law_1441 : decode cL_law 1441 = .ok (.aload_n 0, 1) := dc_row (B := pc_L_law_w60) (a := 1440) (p := 1) pc_L_law_a60 (by decide +kernel)
theorem dL_law_1442 : decode cL_law 1442 = .ok (.iload 4, 2) := dc_row (B := pc_L_law_w60) (a := 1440) (p := 2) pc_L_law_a60 (by decide +kernel)
theorem dL_law_1444 : decode cL_law 1444 = .ok (.iconst 2, 1) := dc_row (B := pc_L_law_w60) (a := 1440) (p := 4) pc_L_law_a60 (by decide +kernel)
theorem dL_law_1445 : decode cL_law 1445 = .ok (.iadd, 1) := dc_row (B := pc_L_law_w60) (a := 1440) (p := 5) pc_L_law_a60 (by decide +kernel)
theorem dL_law_1446 : decode cL_law 1446 = .ok (.iaload, 1) := dc_row (B := pc_L_law_w60) (a := 1440) (p := 6) pc_L_law_a60 (by decide +kernel)
theorem dL_law_1447 : decode cL_law 1447 = .ok (.aload_n 0, 1) := dc_row (B := pc_L_law_w60) (a := 1440) (p := 7) pc_L_law_a60 (by decide +kernel)
theorem dL_law_1448 : decode cL_law 1448 = .ok (.iload 4, 2) := dc_row (B := pc_L_law_w60) (a := 1440) (p := 8) pc_L_law_a60 (by decide +kernel)
theorem dL_law_1450 : decode cL_law 1450 = .ok (.iconst 3, 1) := dc_row (B := pc_L_law_w60) (a := 1440) (p := 10) pc_L_law_a60 (by decide +kernel)
theorem dL_law_1451 : decode cL_law 1451 = .ok (.iadd, 1) := dc_row (B := pc_L_law_w60) (a := 1440) (p := 11) pc_L_law_a60 (by decide +kernel)
theorem dL_law_1452 : decode cL_law 1452 = .ok (.iaload, 1) := dc_row (B := pc_L_law_w60) (a := 1440) (p := 12) pc_L_law_a60 (by decide +kernel)
theorem dL_law_1453 : decode cL_law 1453 = .ok (.invokevirtual 258, 3) := dc_row (B := pc_L_law_w60) (a := 1440) (p := 13) pc_L_law_a60 (by decide +kernel)
theorem dL_law_1456 : decode cL_law 1456 = .ok (.istore 6, 2) := dc_row (B := pc_L_law_w60) (a := 1440) (p := 16) pc_L_law_a60 (by decide +kernel)
theorem dL_law_1458 : decode cL_law 1458 = .ok (.goto 372, 3) := dc_row (B := pc_L_law_w60) (a := 1440) (p := 18) pc_L_law_a60 (by decide +kernel)
theorem dL_law_1461 : decode cL_law 1461 = .ok (.aload_n 1, 1) := dc_row (B := pc_L_law_w60) (a := 1440) (p := 21) pc_L_law_a60 (by decide +kernel)
theorem dL_law_1462 : decode cL_law 1462 = .ok (.aload_n 0, 1) := dc_row (B := pc_L_law_w60) (a := 1440) (p := 22) pc_L_law_a60 (by decide +kernel)
theorem dL_law_1463 : decode cL_law 1463 = .ok (.iload 4, 2) := dc_row (B := pc_L_law_w60) (a := 1440) (p := 23) pc_L_law_a60 (by decide +kernel)
theorem dL_law_1465 : decode cL_law 1465 = .ok (.iconst 1, 1) := dc_row (B := pc_L_law_w61) (a := 1464) (p := 1) pc_L_law_a61 (by decide +kernel)
theorem dL_law_1466 : decode cL_law 1466 = .ok (.iadd, 1) := dc_row (B := pc_L_law_w61) (a := 1464) (p := 2) pc_L_law_a61 (by decide +kernel)
theorem dL_law_1467 : decode cL_law 1467 = .ok (.iaload, 1) := dc_row (B := pc_L_law_w61) (a := 1464) (p := 3) pc_L_law_a61 (by decide +kernel)
theorem dL_law_1468 : decode cL_law 1468 = .ok (.aload_n 0, 1) := dc_row (B := pc_L_law_w61) (a := 1464) (p := 4) pc_L_law_a61 (by decide +kernel)
theorem dL_law_1469 : decode cL_law 1469 = .ok (.iload 4, 2) := dc_row (B := pc_L_law_w61) (a := 1464) (p := 5) pc_L_law_a61 (by decide +kernel)
theorem dL_law_1471 : decode cL_law 1471 = .ok (.iconst 2, 1) := dc_row (B := pc_L_law_w61) (a := 1464) (p := 7) pc_L_law_a61 (by decide +kernel)
theorem dL_law_1472 : decode cL_law 1472 = .ok (.iadd, 1) := dc_row (B := pc_L_law_w61) (a := 1464) (p := 8) pc_L_law_a61 (by decide +kernel)
theorem dL_law_1473 : decode cL_law 1473 = .ok (.iaload, 1) := dc_row (B := pc_L_law_w61) (a := 1464) (p := 9) pc_L_law_a61 (by decide +kernel)
theorem dL_law_1474 : decode cL_law 1474 = .ok (.aload_n 0, 1) := dc_row (B := pc_L_law_w61) (a := 1464) (p := 10) pc_L_law_a61 (by decide +kernel)
theorem dL_law_1475 : decode cL_law 1475 = .ok (.iload 4, 2) := dc_row (B := pc_L_law_w61) (a := 1464) (p := 11) pc_L_law_a61 (by decide +kernel)
theorem dL_law_1477 : decode cL_law 1477 = .ok (.iconst 3, 1) := dc_row (B := pc_L_law_w61) (a := 1464) (p := 13) pc_L_law_a61 (by decide +kernel)
theorem dL_law_1478 : decode cL_law 1478 = .ok (.iadd, 1) := dc_row (B := pc_L_law_w61) (a := 1464) (p := 14) pc_L_law_a61 (by decide +kernel)
theorem dL_law_1479 : decode cL_law 1479 = .ok (.iaload, 1) := dc_row (B := pc_L_law_w61) (a := 1464) (p := 15) pc_L_law_a61 (by decide +kernel)
theorem dL_law_1480 : decode cL_law 1480 = .ok (.aload_n 3, 1) := dc_row (B := pc_L_law_w61) (a := 1464) (p := 16) pc_L_law_a61 (by decide +kernel)
theorem dL_law_1481 : decode cL_law 1481 = .ok (.invokestatic 259, 3) := dc_row (B := pc_L_law_w61) (a := 1464) (p := 17) pc_L_law_a61 (by decide +kernel)
theorem dL_law_1484 : decode cL_law 1484 = .ok (.istore 5, 2) := dc_row (B := pc_L_law_w61) (a := 1464) (p := 20) pc_L_law_a61 (by decide +kernel)
theorem dL_law_1486 : decode cL_law 1486 = .ok (.aload_n 2, 1) := dc_row (B := pc_L_law_w61) (a := 1464) (p := 22) pc_L_law_a61 (by decide +kernel)
theorem dL_law_1487 : decode cL_law 1487 = .ok (.aload_n 0, 1) := dc_row (B := pc_L_law_w61) (a := 1464) (p := 23) pc_L_law_a61 (by decide +kernel)
theorem dL_law_1488 : decode cL_law 1488 = .ok (.iload 4, 2) := dc_row (B := pc_L_law_w62) (a := 1488) (p := 0) pc_L_law_a62 (by decide +kernel)
theorem dL_law_1490 : decode cL_law 1490 = .ok (.iconst 1, 1) := dc_row (B := pc_L_law_w62) (a := 1488) (p := 2) pc_L_law_a62 (by decide +kernel)
theorem dL_law_1491 : decode cL_law 1491 = .ok (.iadd, 1) := dc_row (B := pc_L_law_w62) (a := 1488) (p := 3) pc_L_law_a62 (by decide +kernel)
theorem dL_law_1492 : decode cL_law 1492 = .ok (.iaload, 1) := dc_row (B := pc_L_law_w62) (a := 1488) (p := 4) pc_L_law_a62 (by decide +kernel)
theorem dL_law_1493 : decode cL_law 1493 = .ok (.aload_n 0, 1) := dc_row (B := pc_L_law_w62) (a := 1488) (p := 5) pc_L_law_a62 (by decide +kernel)
theorem dL_law_1494 : decode cL_law 1494 = .ok (.iload 4, 2) := dc_row (B := pc_L_law_w62) (a := 1488) (p := 6) pc_L_law_a62 (by decide +kernel)
theorem dL_law_1496 : decode cL_law 1496 = .ok (.iconst 2, 1) := dc_row (B := pc_L_law_w62) (a := 1488) (p := 8) pc_L_law_a62 (by decide +kernel)
theorem dL_law_1497 : decode cL_law 1497 = .ok (.iadd, 1) := dc_row (B := pc_L_law_w62) (a := 1488) (p := 9) pc_L_law_a62 (by decide +kernel)
theorem dL_law_1498 : decode cL_law 1498 = .ok (.iaload, 1) := dc_row (B := pc_L_law_w62) (a := 1488) (p := 10) pc_L_law_a62 (by decide +kernel)
theorem dL_law_1499 : decode cL_law 1499 = .ok (.aload_n 0, 1) := dc_row (B := pc_L_law_w62) (a := 1488) (p := 11) pc_L_law_a62 (by decide +kernel)
theorem dL_law_1500 : decode cL_law 1500 = .ok (.iload 4, 2) := dc_row (B := pc_L_law_w62) (a := 1488) (p := 12) pc_L_law_a62 (by decide +kernel)
theorem dL_law_1502 : decode cL_law 1502 = .ok (.iconst 3, 1) := dc_row (B := pc_L_law_w62) (a := 1488) (p := 14) pc_L_law_a62 (by decide +kernel)
theorem dL_law_1503 : decode cL_law 1503 = .ok (.iadd, 1) := dc_row (B := pc_L_law_w62) (a := 1488) (p := 15) pc_L_law_a62 (by decide +kernel)
theorem dL_law_1504 : decode cL_law 1504 = .ok (.iaload, 1) := dc_row (B := pc_L_law_w62) (a := 1488) (p := 16) pc_L_law_a62 (by decide +kernel)
theorem dL_law_1505 : decode cL_law 1505 = .ok (.invokevirtual 261, 3) := dc_row (B := pc_L_law_w62) (a := 1488) (p := 17) pc_L_law_a62 (by decide +kernel)
theorem dL_law_1508 : decode cL_law 1508 = .ok (.istore 6, 2) := dc_row (B := pc_L_law_w62) (a := 1488) (p := 20) pc_L_law_a62 (by decide +kernel)
theorem dL_law_1510 : decode cL_law 1510 = .ok (.goto 320, 3) := dc_row (B := pc_L_law_w62) (a := 1488) (p := 22) pc_L_law_a62 (by decide +kernel)
theorem dL_law_1513 : decode cL_law 1513 = .ok (.aload_n 1, 1) := dc_row (B := pc_L_law_w63) (a := 1512) (p := 1) pc_L_law_a63 (by decide +kernel)
theorem dL_law_1514 : decode cL_law 1514 = .ok (.aload_n 0, 1) := dc_row (B := pc_L_law_w63) (a := 1512) (p := 2) pc_L_law_a63 (by decide +kernel)
theorem dL_law_1515 : decode cL_law 1515 = .ok (.iload 4, 2) := dc_row (B := pc_L_law_w63) (a := 1512) (p := 3) pc_L_law_a63 (by decide +kernel)
theorem dL_law_1517 : decode cL_law 1517 = .ok (.iconst 1, 1) := dc_row (B := pc_L_law_w63) (a := 1512) (p := 5) pc_L_law_a63 (by decide +kernel)
theorem dL_law_1518 : decode cL_law 1518 = .ok (.iadd, 1) := dc_row (B := pc_L_law_w63) (a := 1512) (p := 6) pc_L_law_a63 (by decide +kernel)
theorem dL_law_1519 : decode cL_law 1519 = .ok (.iaload, 1) := dc_row (B := pc_L_law_w63) (a := 1512) (p := 7) pc_L_law_a63 (by decide +kernel)
theorem dL_law_1520 : decode cL_law 1520 = .ok (.aload_n 3, 1) := dc_row (B := pc_L_law_w63) (a := 1512) (p := 8) pc_L_law_a63 (by decide +kernel)
theorem dL_law_1521 : decode cL_law 1521 = .ok (.invokestatic 262, 3) := dc_row (B := pc_L_law_w63) (a := 1512) (p := 9) pc_L_law_a63 (by decide +kernel)
theorem dL_law_1524 : decode cL_law 1524 = .ok (.istore 5, 2) := dc_row (B := pc_L_law_w63) (a := 1512) (p := 12) pc_L_law_a63 (by decide +kernel)
theorem dL_law_1526 : decode cL_law 1526 = .ok (.aload_n 2, 1) := dc_row (B := pc_L_law_w63) (a := 1512) (p := 14) pc_L_law_a63 (by decide +kernel)
theorem dL_law_1527 : decode cL_law 1527 = .ok (.aload_n 0, 1) := dc_row (B := pc_L_law_w63) (a := 1512) (p := 15) pc_L_law_a63 (by decide +kernel)
theorem dL_law_1528 : decode cL_law 1528 = .ok (.iload 4, 2) := dc_row (B := pc_L_law_w63) (a := 1512) (p := 16) pc_L_law_a63 (by decide +kernel)
theorem dL_law_1530 : decode cL_law 1530 = .ok (.iconst 1, 1) := dc_row (B := pc_L_law_w63) (a := 1512) (p := 18) pc_L_law_a63 (by decide +kernel)
theorem dL_law_1531 : decode cL_law 1531 = .ok (.iadd, 1) := dc_row (B := pc_L_law_w63) (a := 1512) (p := 19) pc_L_law_a63 (by decide +kernel)
theorem dL_law_1532 : decode cL_law 1532 = .ok (.iaload, 1) := dc_row (B := pc_L_law_w63) (a := 1512) (p := 20) pc_L_law_a63 (by decide +kernel)
theorem dL_law_1533 : decode cL_law 1533 = .ok (.invokevirtual 264, 3) := dc_row (B := pc_L_law_w63) (a := 1512) (p := 21) pc_L_law_a63 (by decide +kernel)
theorem dL_law_1536 : decode cL_law 1536 = .ok (.istore 6, 2) := dc_row (B := pc_L_law_w64) (a := 1536) (p := 0) pc_L_law_a64 (by decide +kernel)
theorem dL_law_1538 : decode cL_law 1538 = .ok (.goto 292, 3) := dc_row (B := pc_L_law_w64) (a := 1536) (p := 2) pc_L_law_a64 (by decide +kernel)
theorem dL_law_1541 : decode cL_law 1541 = .ok (.aload_n 1, 1) := dc_row (B := pc_L_law_w64) (a := 1536) (p := 5) pc_L_law_a64 (by decide +kernel)
theorem dL_law_1542 : decode cL_law 1542 = .ok (.aload_n 0, 1) := dc_row (B := pc_L_law_w64) (a := 1536) (p := 6) pc_L_law_a64 (by decide +kernel)
theorem dL_law_1543 : decode cL_law 1543 = .ok (.iload 4, 2) := dc_row (B := pc_L_law_w64) (a := 1536) (p := 7) pc_L_law_a64 (by decide +kernel)
theorem dL_law_1545 : decode cL_law 1545 = .ok (.iconst 1, 1) := dc_row (B := pc_L_law_w64) (a := 1536) (p := 9) pc_L_law_a64 (by decide +kernel)
theorem dL_law_1546 : decode cL_law 1546 = .ok (.iadd, 1) := dc_row (B := pc_L_law_w64) (a := 1536) (p := 10) pc_L_law_a64 (by decide +kernel)
theorem dL_law_1547 : decode cL_law 1547 = .ok (.iaload, 1) := dc_row (B := pc_L_law_w64) (a := 1536) (p := 11) pc_L_law_a64 (by decide +kernel)
theorem dL_law_1548 : decode cL_law 1548 = .ok (.aload_n 3, 1) := dc_row (B := pc_L_law_w64) (a := 1536) (p := 12) pc_L_law_a64 (by decide +kernel)
theorem dL_law_1549 : decode cL_law 1549 = .ok (.invokestatic 265, 3) := dc_row (B := pc_L_law_w64) (a := 1536) (p := 13) pc_L_law_a64 (by decide +kernel)
theorem dL_law_1552 : decode cL_law 1552 = .ok (.istore 5, 2) := dc_row (B := pc_L_law_w64) (a := 1536) (p := 16) pc_L_law_a64 (by decide +kernel)
theorem dL_law_1554 : decode cL_law 1554 = .ok (.aload_n 2, 1) := dc_row (B := pc_L_law_w64) (a := 1536) (p := 18) pc_L_law_a64 (by decide +kernel)
theorem dL_law_1555 : decode cL_law 1555 = .ok (.aload_n 0, 1) := dc_row (B := pc_L_law_w64) (a := 1536) (p := 19) pc_L_law_a64 (by decide +kernel)
theorem dL_law_1556 : decode cL_law 1556 = .ok (.iload 4, 2) := dc_row (B := pc_L_law_w64) (a := 1536) (p := 20) pc_L_law_a64 (by decide +kernel)
theorem dL_law_1558 : decode cL_law 1558 = .ok (.iconst 1, 1) := dc_row (B := pc_L_law_w64) (a := 1536) (p := 22) pc_L_law_a64 (by decide +kernel)
theorem dL_law_1559 : decode cL_law 1559 = .ok (.iadd, 1) := dc_row (B := pc_L_law_w64) (a := 1536) (p := 23) pc_L_law_a64 (by decide +kernel)
theorem dL_law_1560 : decode cL_law 1560 = .ok (.iaload, 1) := dc_row (B := pc_L_law_w65) (a := 1560) (p := 0) pc_L_law_a65 (by decide +kernel)
theorem dL_law_1561 : decode cL_law 1561 = .ok (.invokevirtual 267, 3) := dc_row (B := pc_L_law_w65) (a := 1560) (p := 1) pc_L_law_a65 (by decide +kernel)
theorem dL_law_1564 : decode cL_law 1564 = .ok (.istore 6, 2) := dc_row (B := pc_L_law_w65) (a := 1560) (p := 4) pc_L_law_a65 (by decide +kernel)
theorem dL_law_1566 : decode cL_law 1566 = .ok (.goto 264, 3) := dc_row (B := pc_L_law_w65) (a := 1560) (p := 6) pc_L_law_a65 (by decide +kernel)
theorem dL_law_1569 : decode cL_law 1569 = .ok (.aload_n 1, 1) := dc_row (B := pc_L_law_w65) (a := 1560) (p := 9) pc_L_law_a65 (by decide +kernel)
theorem dL_law_1570 : decode cL_law 1570 = .ok (.aload_n 0, 1) := dc_row (B := pc_L_law_w65) (a := 1560) (p := 10) pc_L_law_a65 (by decide +kernel)
theorem dL_law_1571 : decode cL_law 1571 = .ok (.iload 4, 2) := dc_row (B := pc_L_law_w65) (a := 1560) (p := 11) pc_L_law_a65 (by decide +kernel)
theorem dL_law_1573 : decode cL_law 1573 = .ok (.iconst 1, 1) := dc_row (B := pc_L_law_w65) (a := 1560) (p := 13) pc_L_law_a65 (by decide +kernel)
theorem dL_law_1574 : decode cL_law 1574 = .ok (.iadd, 1) := dc_row (B := pc_L_law_w65) (a := 1560) (p := 14) pc_L_law_a65 (by decide +kernel)
theorem dL_law_1575 : decode cL_law 1575 = .ok (.iaload, 1) := dc_row (B := pc_L_law_w65) (a := 1560) (p := 15) pc_L_law_a65 (by decide +kernel)
theorem dL_law_1576 : decode cL_law 1576 = .ok (.aload_n 0, 1) := dc_row (B := pc_L_law_w65) (a := 1560) (p := 16) pc_L_law_a65 (by decide +kernel)
theorem dL_law_1577 : decode cL_law 1577 = .ok (.iload 4, 2) := dc_row (B := pc_L_law_w65) (a := 1560) (p := 17) pc_L_law_a65 (by decide +kernel)
theorem dL_law_1579 : decode cL_law 1579 = .ok (.iconst 2, 1) := dc_row (B := pc_L_law_w65) (a := 1560) (p := 19) pc_L_law_a65 (by decide +kernel)
theorem dL_law_1580 : decode cL_law 1580 = .ok (.iadd, 1) := dc_row (B := pc_L_law_w65) (a := 1560) (p := 20) pc_L_law_a65 (by decide +kernel)
theorem dL_law_1581 : decode cL_law 1581 = .ok (.iaload, 1) := dc_row (B := pc_L_law_w65) (a := 1560) (p := 21) pc_L_law_a65 (by decide +kernel)
theorem dL_law_1582 : decode cL_law 1582 = .ok (.aload_n 3, 1) := dc_row (B := pc_L_law_w65) (a := 1560) (p := 22) pc_L_law_a65 (by decide +kernel)
theorem dL_law_1583 : decode cL_law 1583 = .ok (.invokestatic 268, 3) := dc_row (B := pc_L_law_w65) (a := 1560) (p := 23) pc_L_law_a65 (by decide +kernel)
theorem dL_law_1586 : decode cL_law 1586 = .ok (.istore 5, 2) := dc_row (B := pc_L_law_w66) (a := 1584) (p := 2) pc_L_law_a66 (by decide +kernel)
theorem dL_law_1588 : decode cL_law 1588 = .ok (.aload_n 2, 1) := dc_row (B := pc_L_law_w66) (a := 1584) (p := 4) pc_L_law_a66 (by decide +kernel)
theorem dL_law_1589 : decode cL_law 1589 = .ok (.aload_n 0, 1) := dc_row (B := pc_L_law_w66) (a := 1584) (p := 5) pc_L_law_a66 (by decide +kernel)
theorem dL_law_1590 : decode cL_law 1590 = .ok (.iload 4, 2) := dc_row (B := pc_L_law_w66) (a := 1584) (p := 6) pc_L_law_a66 (by decide +kernel)
theorem dL_law_1592 : decode cL_law 1592 = .ok (.iconst 1, 1) := dc_row (B := pc_L_law_w66) (a := 1584) (p := 8) pc_L_law_a66 (by decide +kernel)
theorem dL_law_1593 : decode cL_law 1593 = .ok (.iadd, 1) := dc_row (B := pc_L_law_w66) (a := 1584) (p := 9) pc_L_law_a66 (by decide +kernel)
theorem dL_law_1594 : decode cL_law 1594 = .ok (.iaload, 1) := dc_row (B := pc_L_law_w66) (a := 1584) (p := 10) pc_L_law_a66 (by decide +kernel)
theorem dL_law_1595 : decode cL_law 1595 = .ok (.aload_n 0, 1) := dc_row (B := pc_L_law_w66) (a := 1584) (p := 11) pc_L_law_a66 (by decide +kernel)
theorem dL_law_1596 : decode cL_law 1596 = .ok (.iload 4, 2) := dc_row (B := pc_L_law_w66) (a := 1584) (p := 12) pc_L_law_a66 (by decide +kernel)
theorem dL_law_1598 : decode cL_law 1598 = .ok (.iconst 2, 1) := dc_row (B := pc_L_law_w66) (a := 1584) (p := 14) pc_L_law_a66 (by decide +kernel)
theorem dL_law_1599 : decode cL_law 1599 = .ok (.iadd, 1) := dc_row (B := pc_L_law_w66) (a := 1584) (p := 15) pc_L_law_a66 (by decide +kernel)
theorem dL_law_1600 : decode cL_law 1600 = .ok (.iaload, 1) := dc_row (B := pc_L_law_w66) (a := 1584) (p := 16) pc_L_law_a66 (by decide +kernel)
theorem dL_law_1601 : decode cL_law 1601 = .ok (.invokevirtual 270, 3) := dc_row (B := pc_L_law_w66) (a := 1584) (p := 17) pc_L_law_a66 (by decide +kernel)
theorem dL_law_1604 : decode cL_law 1604 = .ok (.istore 6, 2) := dc_row (B := pc_L_law_w66) (a := 1584) (p := 20) pc_L_law_a66 (by decide +kernel)
theorem dL_law_1606 : decode cL_law 1606 = .ok (.goto 224, 3) := dc_row (B := pc_L_law_w66) (a := 1584) (p := 22) pc_L_law_a66 (by decide +kernel)
theorem dL_law_1609 : decode cL_law 1609 = .ok (.aload_n 1, 1) := dc_row (B := pc_L_law_w67) (a := 1608) (p := 1) pc_L_law_a67 (by decide +kernel)
theorem dL_law_1610 : decode cL_law 1610 = .ok (.aload_n 0, 1) := dc_row (B := pc_L_law_w67) (a := 1608) (p := 2) pc_L_law_a67 (by decide +kernel)
theorem dL_law_1611 : decode cL_law 1611 = .ok (.iload 4, 2) := dc_row (B := pc_L_law_w67) (a := 1608) (p := 3) pc_L_law_a67 (by decide +kernel)
theorem dL_law_1613 : decode cL_law 1613 = .ok (.iconst 1, 1) := dc_row (B := pc_L_law_w67) (a := 1608) (p := 5) pc_L_law_a67 (by decide +kernel)
theorem dL_law_1614 : decode cL_law 1614 = .ok (.iadd, 1) := dc_row (B := pc_L_law_w67) (a := 1608) (p := 6) pc_L_law_a67 (by decide +kernel)
theorem dL_law_1615 : decode cL_law 1615 = .ok (.iaload, 1) := dc_row (B := pc_L_law_w67) (a := 1608) (p := 7) pc_L_law_a67 (by decide +kernel)
theorem dL_law_1616 : decode cL_law 1616 = .ok (.aload_n 3, 1) := dc_row (B := pc_L_law_w67) (a := 1608) (p := 8) pc_L_law_a67 (by decide +kernel)
theorem dL_law_1617 : decode cL_law 1617 = .ok (.invokestatic 271, 3) := dc_row (B := pc_L_law_w67) (a := 1608) (p := 9) pc_L_law_a67 (by decide +kernel)
theorem dL_law_1620 : decode cL_law 1620 = .ok (.istore 5, 2) := dc_row (B := pc_L_law_w67) (a := 1608) (p := 12) pc_L_law_a67 (by decide +kernel)
theorem dL_law_1622 : decode cL_law 1622 = .ok (.aload_n 2, 1) := dc_row (B := pc_L_law_w67) (a := 1608) (p := 14) pc_L_law_a67 (by decide +kernel)
theorem dL_law_1623 : decode cL_law 1623 = .ok (.aload_n 0, 1) := dc_row (B := pc_L_law_w67) (a := 1608) (p := 15) pc_L_law_a67 (by decide +kernel)
theorem dL_law_1624 : decode cL_law 1624 = .ok (.iload 4, 2) := dc_row (B := pc_L_law_w67) (a := 1608) (p := 16) pc_L_law_a67 (by decide +kernel)
theorem dL_law_1626 : decode cL_law 1626 = .ok (.iconst 1, 1) := dc_row (B := pc_L_law_w67) (a := 1608) (p := 18) pc_L_law_a67 (by decide +kernel)
theorem dL_law_1627 : decode cL_law 1627 = .ok (.iadd, 1) := dc_row (B := pc_L_law_w67) (a := 1608) (p := 19) pc_L_law_a67 (by decide +kernel)
theorem dL_law_1628 : decode cL_law 1628 = .ok (.iaload, 1) := dc_row (B := pc_L_law_w67) (a := 1608) (p := 20) pc_L_law_a67 (by decide +kernel)
theorem dL_law_1629 : decode cL_law 1629 = .ok (.invokevirtual 273, 3) := dc_row (B := pc_L_law_w67) (a := 1608) (p := 21) pc_L_law_a67 (by decide +kernel)
theorem dL_law_1632 : decode cL_law 1632 = .ok (.istore 6, 2) := dc_row (B := pc_L_law_w68) (a := 1632) (p := 0) pc_L_law_a68 (by decide +kernel)
theorem dL_law_1634 : decode cL_law 1634 = .ok (.goto 196, 3) := dc_row (B := pc_L_law_w68) (a := 1632) (p := 2) pc_L_law_a68 (by decide +kernel)
theorem dL_law_1637 : decode cL_law 1637 = .ok (.aload_n 1, 1) := dc_row (B := pc_L_law_w68) (a := 1632) (p := 5) pc_L_law_a68 (by decide +kernel)
theorem dL_law_1638 : decode cL_law 1638 = .ok (.aload_n 0, 1) := dc_row (B := pc_L_law_w68) (a := 1632) (p := 6) pc_L_law_a68 (by decide +kernel)
theorem dL_law_1639 : decode cL_law 1639 = .ok (.iload 4, 2) := dc_row (B := pc_L_law_w68) (a := 1632) (p := 7) pc_L_law_a68 (by decide +kernel)
theorem dL_law_1641 : decode cL_law 1641 = .ok (.iconst 1, 1) := dc_row (B := pc_L_law_w68) (a := 1632) (p := 9) pc_L_law_a68 (by decide +kernel)
theorem dL_law_1642 : decode cL_law 1642 = .ok (.iadd, 1) := dc_row (B := pc_L_law_w68) (a := 1632) (p := 10) pc_L_law_a68 (by decide +kernel)
theorem dL_law_1643 : decode cL_law 1643 = .ok (.iaload, 1) := dc_row (B := pc_L_law_w68) (a := 1632) (p := 11) pc_L_law_a68 (by decide +kernel)
theorem dL_law_1644 : decode cL_law 1644 = .ok (.aload_n 3, 1) := dc_row (B := pc_L_law_w68) (a := 1632) (p := 12) pc_L_law_a68 (by decide +kernel)
theorem dL_law_1645 : decode cL_law 1645 = .ok (.invokestatic 274, 3) := dc_row (B := pc_L_law_w68) (a := 1632) (p := 13) pc_L_law_a68 (by decide +kernel)
theorem dL_law_1648 : decode cL_law 1648 = .ok (.istore 5, 2) := dc_row (B := pc_L_law_w68) (a := 1632) (p := 16) pc_L_law_a68 (by decide +kernel)
theorem dL_law_1650 : decode cL_law 1650 = .ok (.aload_n 2, 1) := dc_row (B := pc_L_law_w68) (a := 1632) (p := 18) pc_L_law_a68 (by decide +kernel)
theorem dL_law_1651 : decode cL_law 1651 = .ok (.aload_n 0, 1) := dc_row (B := pc_L_law_w68) (a := 1632) (p := 19) pc_L_law_a68 (by decide +kernel)
theorem dL_law_1652 : decode cL_law 1652 = .ok (.iload 4, 2) := dc_row (B := pc_L_law_w68) (a := 1632) (p := 20) pc_L_law_a68 (by decide +kernel)
theorem dL_law_1654 : decode cL_law 1654 = .ok (.iconst 1, 1) := dc_row (B := pc_L_law_w68) (a := 1632) (p := 22) pc_L_law_a68 (by decide +kernel)
theorem dL_law_1655 : decode cL_law 1655 = .ok (.iadd, 1) := dc_row (B := pc_L_law_w68) (a := 1632) (p := 23) pc_L_law_a68 (by decide +kernel)
theorem dL_law_1656 : decode cL_law 1656 = .ok (.iaload, 1) := dc_row (B := pc_L_law_w69) (a := 1656) (p := 0) pc_L_law_a69 (by decide +kernel)
theorem dL_law_1657 : decode cL_law 1657 = .ok (.invokevirtual 276, 3) := dc_row (B := pc_L_law_w69) (a := 1656) (p := 1) pc_L_law_a69 (by decide +kernel)
theorem dL_law_1660 : decode cL_law 1660 = .ok (.istore 6, 2) := dc_row (B := pc_L_law_w69) (a := 1656) (p := 4) pc_L_law_a69 (by decide +kernel)
theorem dL_law_1662 : decode cL_law 1662 = .ok (.goto 168, 3) := dc_row (B := pc_L_law_w69) (a := 1656) (p := 6) pc_L_law_a69 (by decide +kernel)
theorem dL_law_1665 : decode cL_law 1665 = .ok (.aload_n 1, 1) := dc_row (B := pc_L_law_w69) (a := 1656) (p := 9) pc_L_law_a69 (by decide +kernel)
theorem dL_law_1666 : decode cL_law 1666 = .ok (.aload_n 0, 1) := dc_row (B := pc_L_law_w69) (a := 1656) (p := 10) pc_L_law_a69 (by decide +kernel)
theorem dL_law_1667 : decode cL_law 1667 = .ok (.iload 4, 2) := dc_row (B := pc_L_law_w69) (a := 1656) (p := 11) pc_L_law_a69 (by decide +kernel)
theorem dL_law_1669 : decode cL_law 1669 = .ok (.iconst 1, 1) := dc_row (B := pc_L_law_w69) (a := 1656) (p := 13) pc_L_law_a69 (by decide +kernel)
theorem dL_law_1670 : decode cL_law 1670 = .ok (.iadd, 1) := dc_row (B := pc_L_law_w69) (a := 1656) (p := 14) pc_L_law_a69 (by decide +kernel)
theorem dL_law_1671 : decode cL_law 1671 = .ok (.iaload, 1) := dc_row (B := pc_L_law_w69) (a := 1656) (p := 15) pc_L_law_a69 (by decide +kernel)
theorem dL_law_1672 : decode cL_law 1672 = .ok (.aload_n 3, 1) := dc_row (B := pc_L_law_w69) (a := 1656) (p := 16) pc_L_law_a69 (by decide +kernel)
theorem dL_law_1673 : decode cL_law 1673 = .ok (.invokestatic 277, 3) := dc_row (B := pc_L_law_w69) (a := 1656) (p := 17) pc_L_law_a69 (by decide +kernel)
theorem dL_law_1676 : decode cL_law 1676 = .ok (.istore 5, 2) := dc_row (B := pc_L_law_w69) (a := 1656) (p := 20) pc_L_law_a69 (by decide +kernel)
theorem dL_law_1678 : decode cL_law 1678 = .ok (.aload_n 2, 1) := dc_row (B := pc_L_law_w69) (a := 1656) (p := 22) pc_L_law_a69 (by decide +kernel)
theorem dL_law_1679 : decode cL_law 1679 = .ok (.aload_n 0, 1) := dc_row (B := pc_L_law_w69) (a := 1656) (p := 23) pc_L_law_a69 (by decide +kernel)
theorem dL_law_1680 : decode cL_law 1680 = .ok (.iload 4, 2) := dc_row (B := pc_L_law_w70) (a := 1680) (p := 0) pc_L_law_a70 (by decide +kernel)
theorem dL_law_1682 : decode cL_law 1682 = .ok (.iconst 1, 1) := dc_row (B := pc_L_law_w70) (a := 1680) (p := 2) pc_L_law_a70 (by decide +kernel)
theorem dL_law_1683 : decode cL_law 1683 = .ok (.iadd, 1) := dc_row (B := pc_L_law_w70) (a := 1680) (p := 3) pc_L_law_a70 (by decide +kernel)
theorem dL_law_1684 : decode cL_law 1684 = .ok (.iaload, 1) := dc_row (B := pc_L_law_w70) (a := 1680) (p := 4) pc_L_law_a70 (by decide +kernel)
theorem dL_law_1685 : decode cL_law 1685 = .ok (.invokevirtual 279, 3) := dc_row (B := pc_L_law_w70) (a := 1680) (p := 5) pc_L_law_a70 (by decide +kernel)
theorem dL_law_1688 : decode cL_law 1688 = .ok (.astore 6, 2) := dc_row (B := pc_L_law_w70) (a := 1680) (p := 8) pc_L_law_a70 (by decide +kernel)
theorem dL_law_1690 : decode cL_law 1690 = .ok (.aload_n 2, 1) := dc_row (B := pc_L_law_w70) (a := 1680) (p := 10) pc_L_law_a70 (by decide +kernel)
theorem dL_law_1691 : decode cL_law 1691 = .ok (.invokevirtual 280, 3) := dc_row (B := pc_L_law_w70) (a := 1680) (p := 11) pc_L_law_a70 (by decide +kernel)
theorem dL_law_1694 : decode cL_law 1694 = .ok (.iload 5, 2) := dc_row (B := pc_L_law_w70) (a := 1680) (p := 14) pc_L_law_a70 (by decide +kernel)
theorem dL_law_1696 : decode cL_law 1696 = .ok (.if_icmp .eq 5, 3) := dc_row (B := pc_L_law_w70) (a := 1680) (p := 16) pc_L_law_a70 (by decide +kernel)
theorem dL_law_1701 : decode cL_law 1701 = .ok (.iload 5, 2) := dc_row (B := pc_L_law_w70) (a := 1680) (p := 21) pc_L_law_a70 (by decide +kernel)
theorem dL_law_1703 : decode cL_law 1703 = .ok (.ifCond .ne 17, 3) := dc_row (B := pc_L_law_w70) (a := 1680) (p := 23) pc_L_law_a70 (by decide +kernel)
theorem dL_law_1706 : decode cL_law 1706 = .ok (.aload_n 3, 1) := dc_row (B := pc_L_law_w71) (a := 1704) (p := 2) pc_L_law_a71 (by decide +kernel)
theorem dL_law_1707 : decode cL_law 1707 = .ok (.getfield 141, 3) := dc_row (B := pc_L_law_w71) (a := 1704) (p := 3) pc_L_law_a71 (by decide +kernel)
theorem dL_law_1710 : decode cL_law 1710 = .ok (.aload 6, 2) := dc_row (B := pc_L_law_w71) (a := 1704) (p := 6) pc_L_law_a71 (by decide +kernel)
theorem dL_law_1712 : decode cL_law 1712 = .ok (.invokevirtual 284, 3) := dc_row (B := pc_L_law_w71) (a := 1704) (p := 8) pc_L_law_a71 (by decide +kernel)
theorem dL_law_1715 : decode cL_law 1715 = .ok (.ifCond .ne 5, 3) := dc_row (B := pc_L_law_w71) (a := 1704) (p := 11) pc_L_law_a71 (by decide +kernel)
theorem dL_law_1720 : decode cL_law 1720 = .ok (.goto 110, 3) := dc_row (B := pc_L_law_w71) (a := 1704) (p := 16) pc_L_law_a71 (by decide +kernel)
theorem dL_law_1723 : decode cL_law 1723 = .ok (.aload_n 1, 1) := dc_row (B := pc_L_law_w71) (a := 1704) (p := 19) pc_L_law_a71 (by decide +kernel)
theorem dL_law_1724 : decode cL_law 1724 = .ok (.aload_n 0, 1) := dc_row (B := pc_L_law_w71) (a := 1704) (p := 20) pc_L_law_a71 (by decide +kernel)
theorem dL_law_1725 : decode cL_law 1725 = .ok (.iload 4, 2) := dc_row (B := pc_L_law_w71) (a := 1704) (p := 21) pc_L_law_a71 (by decide +kernel)
theorem dL_law_1727 : decode cL_law 1727 = .ok (.iconst 1, 1) := dc_row (B := pc_L_law_w71) (a := 1704) (p := 23) pc_L_law_a71 (by decide +kernel)
theorem dL_law_1728 : decode cL_law 1728 = .ok (.iadd, 1) := dc_row (B := pc_L_law_w72) (a := 1728) (p := 0) pc_L_law_a72 (by decide +kernel)
theorem dL_law_1729 : decode cL_law 1729 = .ok (.iaload, 1) := dc_row (B := pc_L_law_w72) (a := 1728) (p := 1) pc_L_law_a72 (by decide +kernel)
theorem dL_law_1730 : decode cL_law 1730 = .ok (.aload_n 0, 1) := dc_row (B := pc_L_law_w72) (a := 1728) (p := 2) pc_L_law_a72 (by decide +kernel)
theorem dL_law_1731 : decode cL_law 1731 = .ok (.iload 4, 2) := dc_row (B := pc_L_law_w72) (a := 1728) (p := 3) pc_L_law_a72 (by decide +kernel)
theorem dL_law_1733 : decode cL_law 1733 = .ok (.iconst 2, 1) := dc_row (B := pc_L_law_w72) (a := 1728) (p := 5) pc_L_law_a72 (by decide +kernel)
theorem dL_law_1734 : decode cL_law 1734 = .ok (.iadd, 1) := dc_row (B := pc_L_law_w72) (a := 1728) (p := 6) pc_L_law_a72 (by decide +kernel)
theorem dL_law_1735 : decode cL_law 1735 = .ok (.iaload, 1) := dc_row (B := pc_L_law_w72) (a := 1728) (p := 7) pc_L_law_a72 (by decide +kernel)
theorem dL_law_1736 : decode cL_law 1736 = .ok (.aload_n 3, 1) := dc_row (B := pc_L_law_w72) (a := 1728) (p := 8) pc_L_law_a72 (by decide +kernel)
theorem dL_law_1737 : decode cL_law 1737 = .ok (.invokestatic 290, 3) := dc_row (B := pc_L_law_w72) (a := 1728) (p := 9) pc_L_law_a72 (by decide +kernel)
theorem dL_law_1740 : decode cL_law 1740 = .ok (.istore 5, 2) := dc_row (B := pc_L_law_w72) (a := 1728) (p := 12) pc_L_law_a72 (by decide +kernel)
theorem dL_law_1742 : decode cL_law 1742 = .ok (.aload_n 2, 1) := dc_row (B := pc_L_law_w72) (a := 1728) (p := 14) pc_L_law_a72 (by decide +kernel)
theorem dL_law_1743 : decode cL_law 1743 = .ok (.aload_n 0, 1) := dc_row (B := pc_L_law_w72) (a := 1728) (p := 15) pc_L_law_a72 (by decide +kernel)
theorem dL_law_1744 : decode cL_law 1744 = .ok (.iload 4, 2) := dc_row (B := pc_L_law_w72) (a := 1728) (p := 16) pc_L_law_a72 (by decide +kernel)
theorem dL_law_1746 : decode cL_law 1746 = .ok (.iconst 1, 1) := dc_row (B := pc_L_law_w72) (a := 1728) (p := 18) pc_L_law_a72 (by decide +kernel)
theorem dL_law_1747 : decode cL_law 1747 = .ok (.iadd, 1) := dc_row (B := pc_L_law_w72) (a := 1728) (p := 19) pc_L_law_a72 (by decide +kernel)
theorem dL_law_1748 : decode cL_law 1748 = .ok (.iaload, 1) := dc_row (B := pc_L_law_w72) (a := 1728) (p := 20) pc_L_law_a72 (by decide +kernel)
theorem dL_law_1749 : decode cL_law 1749 = .ok (.aload_n 0, 1) := dc_row (B := pc_L_law_w72) (a := 1728) (p := 21) pc_L_law_a72 (by decide +kernel)
theorem dL_law_1750 : decode cL_law 1750 = .ok (.iload 4, 2) := dc_row (B := pc_L_law_w72) (a := 1728) (p := 22) pc_L_law_a72 (by decide +kernel)
theorem dL_law_1752 : decode cL_law 1752 = .ok (.iconst 2, 1) := dc_row (B := pc_L_law_w73) (a := 1752) (p := 0) pc_L_law_a73 (by decide +kernel)
theorem dL_law_1753 : decode cL_law 1753 = .ok (.iadd, 1) := dc_row (B := pc_L_law_w73) (a := 1752) (p := 1) pc_L_law_a73 (by decide +kernel)
theorem dL_law_1754 : decode cL_law 1754 = .ok (.iaload, 1) := dc_row (B := pc_L_law_w73) (a := 1752) (p := 2) pc_L_law_a73 (by decide +kernel)
theorem dL_law_1755 : decode cL_law 1755 = .ok (.invokevirtual 292, 3) := dc_row (B := pc_L_law_w73) (a := 1752) (p := 3) pc_L_law_a73 (by decide +kernel)
theorem dL_law_1758 : decode cL_law 1758 = .ok (.istore 6, 2) := dc_row (B := pc_L_law_w73) (a := 1752) (p := 6) pc_L_law_a73 (by decide +kernel)
theorem dL_law_1760 : decode cL_law 1760 = .ok (.goto 70, 3) := dc_row (B := pc_L_law_w73) (a := 1752) (p := 8) pc_L_law_a73 (by decide +kernel)
theorem dL_law_1763 : decode cL_law 1763 = .ok (.aload_n 1, 1) := dc_row (B := pc_L_law_w73) (a := 1752) (p := 11) pc_L_law_a73 (by decide +kernel)
theorem dL_law_1764 : decode cL_law 1764 = .ok (.invokevirtual 293, 3) := dc_row (B := pc_L_law_w73) (a := 1752) (p := 12) pc_L_law_a73 (by decide +kernel)
theorem dL_law_1767 : decode cL_law 1767 = .ok (.pop, 1) := dc_row (B := pc_L_law_w73) (a := 1752) (p := 15) pc_L_law_a73 (by decide +kernel)
theorem dL_law_1768 : decode cL_law 1768 = .ok (.aload_n 2, 1) := dc_row (B := pc_L_law_w73) (a := 1752) (p := 16) pc_L_law_a73 (by decide +kernel)
theorem dL_law_1769 : decode cL_law 1769 = .ok (.invokevirtual 296, 3) := dc_row (B := pc_L_law_w73) (a := 1752) (p := 17) pc_L_law_a73 (by decide +kernel)
theorem dL_law_1772 : decode cL_law 1772 = .ok (.pop, 1) := dc_row (B := pc_L_law_w73) (a := 1752) (p := 20) pc_L_law_a73 (by decide +kernel)
theorem dL_law_1773 : decode cL_law 1773 = .ok (.goto 57, 3) := dc_row (B := pc_L_law_w73) (a := 1752) (p := 21) pc_L_law_a73 (by decide +kernel)
theorem dL_law_1776 : decode cL_law 1776 = .ok (.aload_n 1, 1) := dc_row (B := pc_L_law_w74) (a := 1776) (p := 0) pc_L_law_a74 (by decide +kernel)
theorem dL_law_1777 : decode cL_law 1777 = .ok (.aload_n 0, 1) := dc_row (B := pc_L_law_w74) (a := 1776) (p := 1) pc_L_law_a74 (by decide +kernel)
theorem dL_law_1778 : decode cL_law 1778 = .ok (.iload 4, 2) := dc_row (B := pc_L_law_w74) (a := 1776) (p := 2) pc_L_law_a74 (by decide +kernel)
theorem dL_law_1780 : decode cL_law 1780 = .ok (.iconst 1, 1) := dc_row (B := pc_L_law_w74) (a := 1776) (p := 4) pc_L_law_a74 (by decide +kernel)
theorem dL_law_1781 : decode cL_law 1781 = .ok (.iadd, 1) := dc_row (B := pc_L_law_w74) (a := 1776) (p := 5) pc_L_law_a74 (by decide +kernel)
theorem dL_law_1782 : decode cL_law 1782 = .ok (.iaload, 1) := dc_row (B := pc_L_law_w74) (a := 1776) (p := 6) pc_L_law_a74 (by decide +kernel)
theorem dL_law_1783 : decode cL_law 1783 = .ok (.aload_n 3, 1) := dc_row (B := pc_L_law_w74) (a := 1776) (p := 7) pc_L_law_a74 (by decide +kernel)
theorem dL_law_1784 : decode cL_law 1784 = .ok (.invokestatic 297, 3) := dc_row (B := pc_L_law_w74) (a := 1776) (p := 8) pc_L_law_a74 (by decide +kernel)
theorem dL_law_1787 : decode cL_law 1787 = .ok (.istore 5, 2) := dc_row (B := pc_L_law_w74) (a := 1776) (p := 11) pc_L_law_a74 (by decide +kernel)
theorem dL_law_1789 : decode cL_law 1789 = .ok (.aload_n 2, 1) := dc_row (B := pc_L_law_w74) (a := 1776) (p := 13) pc_L_law_a74 (by decide +kernel)
theorem dL_law_1790 : decode cL_law 1790 = .ok (.aload_n 0, 1) := dc_row (B := pc_L_law_w74) (a := 1776) (p := 14) pc_L_law_a74 (by decide +kernel)
theorem dL_law_1791 : decode cL_law 1791 = .ok (.iload 4, 2) := dc_row (B := pc_L_law_w74) (a := 1776) (p := 15) pc_L_law_a74 (by decide +kernel)
theorem dL_law_1793 : decode cL_law 1793 = .ok (.iconst 1, 1) := dc_row (B := pc_L_law_w74) (a := 1776) (p := 17) pc_L_law_a74 (by decide +kernel)
theorem dL_law_1794 : decode cL_law 1794 = .ok (.iadd, 1) := dc_row (B := pc_L_law_w74) (a := 1776) (p := 18) pc_L_law_a74 (by decide +kernel)
theorem dL_law_1795 : decode cL_law 1795 = .ok (.iaload, 1) := dc_row (B := pc_L_law_w74) (a := 1776) (p := 19) pc_L_law_a74 (by decide +kernel)
theorem dL_law_1796 : decode cL_law 1796 = .ok (.invokevirtual 299, 3) := dc_row (B := pc_L_law_w74) (a := 1776) (p := 20) pc_L_law_a74 (by decide +kernel)
theorem dL_law_1799 : decode cL_law 1799 = .ok (.istore 6, 2) := dc_row (B := pc_L_law_w74) (a := 1776) (p := 23) pc_L_law_a74 (by decide +kernel)
theorem dL_law_1801 : decode cL_law 1801 = .ok (.goto 29, 3) := dc_row (B := pc_L_law_w75) (a := 1800) (p := 1) pc_L_law_a75 (by decide +kernel)
theorem dL_law_1804 : decode cL_law 1804 = .ok (.aload_n 1, 1) := dc_row (B := pc_L_law_w75) (a := 1800) (p := 4) pc_L_law_a75 (by decide +kernel)
theorem dL_law_1805 : decode cL_law 1805 = .ok (.invokevirtual 300, 3) := dc_row (B := pc_L_law_w75) (a := 1800) (p := 5) pc_L_law_a75 (by decide +kernel)
theorem dL_law_1808 : decode cL_law 1808 = .ok (.pop, 1) := dc_row (B := pc_L_law_w75) (a := 1800) (p := 8) pc_L_law_a75 (by decide +kernel)
theorem dL_law_1809 : decode cL_law 1809 = .ok (.aload_n 2, 1) := dc_row (B := pc_L_law_w75) (a := 1800) (p := 9) pc_L_law_a75 (by decide +kernel)
theorem dL_law_1810 : decode cL_law 1810 = .ok (.invokevirtual 303, 3) := dc_row (B := pc_L_law_w75) (a := 1800) (p := 10) pc_L_law_a75 (by decide +kernel)
theorem dL_law_1813 : decode cL_law 1813 = .ok (.pop, 1) := dc_row (B := pc_L_law_w75) (a := 1800) (p := 13) pc_L_law_a75 (by decide +kernel)
theorem dL_law_1814 : decode cL_law 1814 = .ok (.goto 16, 3) := dc_row (B := pc_L_law_w75) (a := 1800) (p := 14) pc_L_law_a75 (by decide +kernel)
theorem dL_law_1817 : decode cL_law 1817 = .ok (.aload_n 1, 1) := dc_row (B := pc_L_law_w75) (a := 1800) (p := 17) pc_L_law_a75 (by decide +kernel)
theorem dL_law_1818 : decode cL_law 1818 = .ok (.invokevirtual 304, 3) := dc_row (B := pc_L_law_w75) (a := 1800) (p := 18) pc_L_law_a75 (by decide +kernel)
theorem dL_law_1821 : decode cL_law 1821 = .ok (.pop2, 1) := dc_row (B := pc_L_law_w75) (a := 1800) (p := 21) pc_L_law_a75 (by decide +kernel)
theorem dL_law_1822 : decode cL_law 1822 = .ok (.aload_n 2, 1) := dc_row (B := pc_L_law_w75) (a := 1800) (p := 22) pc_L_law_a75 (by decide +kernel)
theorem dL_law_1823 : decode cL_law 1823 = .ok (.invokevirtual 308, 3) := dc_row (B := pc_L_law_w75) (a := 1800) (p := 23) pc_L_law_a75 (by decide +kernel)
theorem dL_law_1826 : decode cL_law 1826 = .ok (.pop2, 1) := dc_row (B := pc_L_law_w76) (a := 1824) (p := 2) pc_L_law_a76 (by decide +kernel)
theorem dL_law_1827 : decode cL_law 1827 = .ok (.goto 3, 3) := dc_row (B := pc_L_law_w76) (a := 1824) (p := 3) pc_L_law_a76 (by decide +kernel)
set_option maxRecDepth 100000 in
set_option maxHeartbeats 4000000 in
theorem case_0 {p : Program} {l : Launch} {e : Env} {s : State} {m : MethodId} {below : List Frame} {meth : Method} {c : Code} (hl0 : l.stackTraces = false) (D : va_G) (cI cB : ClassId) (b L : Nat) (xs : Nat → Int32) (x bx px t bt o bo po q : Nat) (to tt : Nat) (go gu : Nat → Int32) (na nv : Nat) (nf : Nat → Int32) (nb nw : Nat) (nh : Nat → Int32) (ea ew : Nat) (ef : Nat → Int32) (i cc ss : Nat) (hi : i + 6 ≤ L) (hcc : cc + 33 ≤ room_1.cells) (hss : ss + 321 ≤ room_1.slots) (hL : L ≤ 3072) (FX : CallFix p m c cL_law 7 s #[.ref b] bigW RL) (hK : va_K D KL (TY cI cB) s) (hX : va_X b L xs s s.heap) (hbl : b < s.heap.size) (hz : zLaw to tt go gu na nv nf nb nw nh ea ew ef (fun q => s.heap.size ≤ q) s s.heap) (hfn : sb_Fit nf) (hfe : sb_Fit ef) (hnn : TL 4 nf nh) (kk : LGo p l e s m below meth c D cI cB b x bx px t bt o bo po q i 1830 (cc + 33) (ss + 321)) : LGo p l e s m below meth c D cI cB b x bx px t bt o bo po q i 232 cc ss := by
  intro H locs f g ak su gt lf rf kn ml cn bs th h j ak' su' gt' lf' rf' kn' n0 sv ls hI hb hc hP hD hS hl
  have hA : ∀ q : Nat, s.heap.size ≤ q → s.heap.size ≤ q := fun _ h => h
  have hbA : ¬ (fun q : Nat => s.heap.size ≤ q) b := Nat.not_le.mpr hbl
  obtain ⟨r1, ey1⟩ : ∃ y, xs (i + 1) = y := ⟨_, rfl⟩
  have hin1 : i + 1 < L ∧ L < 2 ^ 31 := ⟨by omega, by omega⟩
  obtain ⟨r2, ey2⟩ : ∃ y, xs (i + 2) = y := ⟨_, rfl⟩
  have hin2 : i + 2 < L ∧ L < 2 ^ 31 := ⟨by omega, by omega⟩
  have hl : lv_has ls 7 [(4, .int (nI i)), (3, .ref q), (2, .ref o), (1, .ref x), (0, .ref b)] := hl
  have hP : va_P D KL [(x, .inr (2, [.ref bx, .ref px, .ref t, .int ak, .int su, .int gt, .int lf, .int rf, .int kn])), (bx, .inl (cI, 6, .inl f)), (px, .inl (cI, 2, .inl g)), (t, .inr (1, [.ref bt, .int 0, .int ml, .int cn])), (bt, .inl (cB, 16, .inl bs)), (o, .inr (4, [.int th, .ref bo, .ref po, .int ak', .int su', .int gt', .int lf', .int rf', .int kn'])), (bo, .inl (cI, 6, .inl h)), (po, .inl (cI, 2, .inl j)), (q, .inr (3, [.long n0, sv]))] H := hP
  have hD : va_D (fun q => s.heap.size ≤ q) [(x, .inr (2, [.ref bx, .ref px, .ref t, .int ak, .int su, .int gt, .int lf, .int rf, .int kn])), (bx, .inl (cI, 6, .inl f)), (px, .inl (cI, 2, .inl g)), (t, .inr (1, [.ref bt, .int 0, .int ml, .int cn])), (bt, .inl (cB, 16, .inl bs)), (o, .inr (4, [.int th, .ref bo, .ref po, .int ak', .int su', .int gt', .int lf', .int rf', .int kn'])), (bo, .inl (cI, 6, .inl h)), (po, .inl (cI, 2, .inl j)), (q, .inr (3, [.long n0, sv]))] := hD
  refine lv_aload_n FX.1 FX.2.1 dL_law_232 rfl (lv_at hl 3 rfl) ?_
  refine p_rd (k := 1) (v := r1) FX hX hbl hbA hS (lv_at hl 4 rfl) (lv_at hl 0 rfl) dL_law_233 dL_law_234 dL_law_236 dL_law_237 dL_law_238 rfl hin1 ey1 ?_
  refine p_rd (k := 2) (v := r2) FX hX hbl hbA hS (lv_at hl 4 rfl) (lv_at hl 0 rfl) dL_law_239 dL_law_240 dL_law_242 dL_law_243 dL_law_244 rfl hin2 ey2 ?_
  refine lv_aload_n FX.1 FX.2.1 dL_law_245 rfl (lv_at hl 1 rfl) ?_
  refine c_J (W0 := [(x, .inr (2, [.ref bx, .ref px, .ref t, .int ak, .int su, .int gt, .int lf, .int rf, .int kn])), (bx, .inl (cI, 6, .inl f)), (px, .inl (cI, 2, .inl g)), (q, .inr (3, [.long n0, sv]))]) (wr := [(t, .inr (1, [.ref bt, .int 0, .int ml, .int cn])), (bt, .inl (cB, 16, .inl bs)), (o, .inr (4, [.int th, .ref bo, .ref po, .int ak', .int su', .int gt', .int lf', .int rf', .int kn'])), (bo, .inl (cI, 6, .inl h)), (po, .inl (cI, 2, .inl j))]) (wsN := fun _ => [(x, .inr (2, [.ref bx, .ref px, .ref t, .int ak, .int su, .int gt, .int lf, .int rf, .int kn])), (bx, .inl (cI, 6, .inl (hf_fill r1 r2 f))), (px, .inl (cI, 2, .inl g)), (t, .inr (1, [.ref bt, .int 0, .int ml, .int cn])), (bt, .inl (cB, 16, .inl bs)), (o, .inr (4, [.int th, .ref bo, .ref po, .int ak', .int su', .int gt', .int lf', .int rf', .int kn'])), (bo, .inl (cI, 6, .inl h)), (po, .inl (cI, 2, .inl j)), (q, .inr (3, [.long (hn_fill r1 r2 f n0), sv]))]) (vx_runSW FX ((j_L_fill l hl0 D cI cB x bx px t f g ak su gt lf rf kn q n0 sv r1 r2) H.size) (my_cwSW FX.2.2.2.2 mh_L_fill ml_RL_156 (RMok.mk)) ⟨PJ.blind (zAnd_ok (zAnd_ok zz_ok zN_ok) zF_ok), fun U hU hW => ⟨rfl, my_preJ (zAnd_ok (zAnd_ok zz_ok zN_ok) zF_ok) ⟨hz.1.1, hz.1.2.1⟩ hS hA hK hP hD [0, 1, 2, 8] rfl rfl U hU hW⟩⟩ rfl rfl hl.1 rfl (lv_room (Nat.le_of_ble_eq_true rfl)) dL_law_246 ⟨by omega, by omega⟩) hP hD hS hA [0, 1, 2, 8] rfl [3, 4, 5, 6, 7] rfl (by decide) [5, 6, 7, 0, 1, 2, 3, 4, 8] (fun _ => rfl) rfl (fun u1 H locs hp_1 hP hD hS => ?_)
  have hP : va_P D KL [(x, .inr (2, [.ref bx, .ref px, .ref t, .int ak, .int su, .int gt, .int lf, .int rf, .int kn])), (bx, .inl (cI, 6, .inl (hf_fill r1 r2 f))), (px, .inl (cI, 2, .inl g)), (t, .inr (1, [.ref bt, .int 0, .int ml, .int cn])), (bt, .inl (cB, 16, .inl bs)), (o, .inr (4, [.int th, .ref bo, .ref po, .int ak', .int su', .int gt', .int lf', .int rf', .int kn'])), (bo, .inl (cI, 6, .inl h)), (po, .inl (cI, 2, .inl j)), (q, .inr (3, [.long (hn_fill r1 r2 f n0), sv]))] H := hP
  have hD : va_D (fun q => s.heap.size ≤ q) [(x, .inr (2, [.ref bx, .ref px, .ref t, .int ak, .int su, .int gt, .int lf, .int rf, .int kn])), (bx, .inl (cI, 6, .inl (hf_fill r1 r2 f))), (px, .inl (cI, 2, .inl g)), (t, .inr (1, [.ref bt, .int 0, .int ml, .int cn])), (bt, .inl (cB, 16, .inl bs)), (o, .inr (4, [.int th, .ref bo, .ref po, .int ak', .int su', .int gt', .int lf', .int rf', .int kn'])), (bo, .inl (cI, 6, .inl h)), (po, .inl (cI, 2, .inl j)), (q, .inr (3, [.long (hn_fill r1 r2 f n0), sv]))] := hD
  refine W.eq (g2 := F0 m 249 ls [.int (hk_fill r1 r2)]) rfl ?_
  refine lv_istore (lv' := [(5, .int (hk_fill r1 r2)), (4, .int (nI i)), (3, .ref q), (2, .ref o), (1, .ref x), (0, .ref b)]) FX.1 FX.2.1 dL_law_249 hl (by decide) rfl (fun ls hl => ?_)
  refine lv_aload_n FX.1 FX.2.1 dL_law_251 rfl (lv_at hl 3 rfl) ?_
  refine p_rd (k := 1) (v := r1) FX hX hbl hbA hS (lv_at hl 5 rfl) (lv_at hl 1 rfl) dL_law_252 dL_law_253 dL_law_255 dL_law_256 dL_law_257 rfl hin1 ey1 ?_
  refine p_rd (k := 2) (v := r2) FX hX hbl hbA hS (lv_at hl 5 rfl) (lv_at hl 1 rfl) dL_law_258 dL_law_259 dL_law_261 dL_law_262 dL_law_263 rfl hin2 ey2 ?_
  obtain ⟨eT, eA, hI2⟩ := st_fill r1 r2 n0 hI
  refine c_WRV (wr := [(x, .inr (2, [.ref bx, .ref px, .ref t, .int ak, .int su, .int gt, .int lf, .int rf, .int kn])), (bx, .inl (cI, 6, .inl (hf_fill r1 r2 f))), (px, .inl (cI, 2, .inl g)), (t, .inr (1, [.ref bt, .int 0, .int ml, .int cn])), (bt, .inl (cB, 16, .inl bs)), (q, .inr (3, [.long (hn_fill r1 r2 f n0), sv]))]) (wsN := [(x, .inr (2, [.ref bx, .ref px, .ref t, .int ak, .int su, .int gt, .int lf, .int rf, .int kn])), (bx, .inl (cI, 6, .inl (hf_fill r1 r2 f))), (px, .inl (cI, 2, .inl g)), (t, .inr (1, [.ref bt, .int 0, .int ml, .int cn])), (bt, .inl (cB, 16, .inl bs)), (o, .inr (4, [.int (wth_X2_fill r1 r2), .ref bo, .ref po, .int ak', .int su', .int gt', .int lf', .int rf', .int kn'])), (bo, .inl (cI, 6, .inl (wf_X2_fill r1 r2 h))), (po, .inl (cI, 2, .inl j)), (q, .inr (3, [.long (hn_fill r1 r2 f n0), sv]))]) (i0 := 5) (ci := 4) FX (k_X2_fill l D cI cB o bo po th h j ak' su' gt' lf' rf' kn' r1 r2) mi_X2_fill rfl ml_RL_161 (RMok.mk) hl.1 rfl (Nat.le_of_ble_eq_true rfl) dL_law_264 ⟨by omega, by omega⟩ hK hP hD hS hA [5, 6, 7] rfl [0, 1, 2, 3, 4, 8] rfl rfl (by decide) [0, 1, 2, 3, 4, 6, 7, 8, 5] rfl rfl rfl rfl rfl (fun H locs hP hD hS => ?_)
  refine lv_istore (lv' := [(6, .int (v_X2_fill r1 r2 h)), (5, .int (hk_fill r1 r2)), (4, .int (nI i)), (3, .ref q), (2, .ref o), (1, .ref x), (0, .ref b)]) FX.1 FX.2.1 dL_law_267 hl (by decide) rfl (fun ls hl => ?_)
  refine lv_goto (tgt := 1830) FX.1 FX.2.1 dL_law_269 (by decide) ?_
  refine W.widen (k := cc + 33) (n := ss + 321) (by omega) (by omega) ?_
  exact kk H locs (hf_fill r1 r2 f) g ak su gt lf rf kn ml cn bs (wth_X2_fill r1 r2) (wf_X2_fill r1 r2 h) j ak' su' gt' lf' rf' kn' (hn_fill r1 r2 f n0) sv ls hI2 hb hc hP hD hS (lv_sub hl [2, 3, 4, 5, 6] rfl)
set_option maxRecDepth 100000 in
set_option maxHeartbeats 4000000 in
theorem case_1 {p : Program} {l : Launch} {e : Env} {s : State} {m : MethodId} {below : List Frame} {meth : Method} {c : Code} (hl0 : l.stackTraces = false) (D : va_G) (cI cB : ClassId) (b L : Nat) (xs : Nat → Int32) (x bx px t bt o bo po q : Nat) (to tt : Nat) (go gu : Nat → Int32) (na nv : Nat) (nf : Nat → Int32) (nb nw : Nat) (nh : Nat → Int32) (ea ew : Nat) (ef : Nat → Int32) (i cc ss : Nat) (hi : i + 6 ≤ L) (hcc : cc + 33 ≤ room_1.cells) (hss : ss + 321 ≤ room_1.slots) (hL : L ≤ 3072) (FX : CallFix p m c cL_law 7 s #[.ref b] bigW RL) (hK : va_K D KL (TY cI cB) s) (hX : va_X b L xs s s.heap) (hbl : b < s.heap.size) (hz : zLaw to tt go gu na nv nf nb nw nh ea ew ef (fun q => s.heap.size ≤ q) s s.heap) (hfn : sb_Fit nf) (hfe : sb_Fit ef) (hnn : TL 4 nf nh) (kk : LGo p l e s m below meth c D cI cB b x bx px t bt o bo po q i 1830 (cc + 33) (ss + 321)) : LGo p l e s m below meth c D cI cB b x bx px t bt o bo po q i 272 cc ss := by
  intro H locs f g ak su gt lf rf kn ml cn bs th h j ak' su' gt' lf' rf' kn' n0 sv ls hI hb hc hP hD hS hl
  have hA : ∀ q : Nat, s.heap.size ≤ q → s.heap.size ≤ q := fun _ h => h
  have hbA : ¬ (fun q : Nat => s.heap.size ≤ q) b := Nat.not_le.mpr hbl
  obtain ⟨r1, ey1⟩ : ∃ y, xs (i + 1) = y := ⟨_, rfl⟩
  have hin1 : i + 1 < L ∧ L < 2 ^ 31 := ⟨by omega, by omega⟩
  have hl : lv_has ls 7 [(4, .int (nI i)), (3, .ref q), (2, .ref o), (1, .ref x), (0, .ref b)] := hl
  have hP : va_P D KL [(x, .inr (2, [.ref bx, .ref px, .ref t, .int ak, .int su, .int gt, .int lf, .int rf, .int kn])), (bx, .inl (cI, 6, .inl f)), (px, .inl (cI, 2, .inl g)), (t, .inr (1, [.ref bt, .int 0, .int ml, .int cn])), (bt, .inl (cB, 16, .inl bs)), (o, .inr (4, [.int th, .ref bo, .ref po, .int ak', .int su', .int gt', .int lf', .int rf', .int kn'])), (bo, .inl (cI, 6, .inl h)), (po, .inl (cI, 2, .inl j)), (q, .inr (3, [.long n0, sv]))] H := hP
  have hD : va_D (fun q => s.heap.size ≤ q) [(x, .inr (2, [.ref bx, .ref px, .ref t, .int ak, .int su, .int gt, .int lf, .int rf, .int kn])), (bx, .inl (cI, 6, .inl f)), (px, .inl (cI, 2, .inl g)), (t, .inr (1, [.ref bt, .int 0, .int ml, .int cn])), (bt, .inl (cB, 16, .inl bs)), (o, .inr (4, [.int th, .ref bo, .ref po, .int ak', .int su', .int gt', .int lf', .int rf', .int kn'])), (bo, .inl (cI, 6, .inl h)), (po, .inl (cI, 2, .inl j)), (q, .inr (3, [.long n0, sv]))] := hD
  refine lv_aload_n FX.1 FX.2.1 dL_law_272 rfl (lv_at hl 3 rfl) ?_
  refine p_rd (k := 1) (v := r1) FX hX hbl hbA hS (lv_at hl 4 rfl) (lv_at hl 0 rfl) dL_law_273 dL_law_274 dL_law_276 dL_law_277 dL_law_278 rfl hin1 ey1 ?_
  refine lv_aload_n FX.1 FX.2.1 dL_law_279 rfl (lv_at hl 1 rfl) ?_
  refine c_J (W0 := [(x, .inr (2, [.ref bx, .ref px, .ref t, .int ak, .int su, .int gt, .int lf, .int rf, .int kn])), (bx, .inl (cI, 6, .inl f)), (px, .inl (cI, 2, .inl g)), (q, .inr (3, [.long n0, sv]))]) (wr := [(t, .inr (1, [.ref bt, .int 0, .int ml, .int cn])), (bt, .inl (cB, 16, .inl bs)), (o, .inr (4, [.int th, .ref bo, .ref po, .int ak', .int su', .int gt', .int lf', .int rf', .int kn'])), (bo, .inl (cI, 6, .inl h)), (po, .inl (cI, 2, .inl j))]) (wsN := fun _ => [(x, .inr (2, [.ref bx, .ref px, .ref t, .int ak, .int su, .int gt, .int lf, .int rf, .int kn])), (bx, .inl (cI, 6, .inl (hf_empty r1 f))), (px, .inl (cI, 2, .inl g)), (t, .inr (1, [.ref bt, .int 0, .int ml, .int cn])), (bt, .inl (cB, 16, .inl bs)), (o, .inr (4, [.int th, .ref bo, .ref po, .int ak', .int su', .int gt', .int lf', .int rf', .int kn'])), (bo, .inl (cI, 6, .inl h)), (po, .inl (cI, 2, .inl j)), (q, .inr (3, [.long (hn_empty r1 f n0), sv]))]) (vx_runSW FX ((j_L_empty l hl0 D cI cB x bx px t f g ak su gt lf rf kn q n0 sv r1) H.size) (my_cwSW FX.2.2.2.2 mh_L_empty ml_RL_162 (RMok.mk)) ⟨PJ.blind (zAnd_ok (zAnd_ok zz_ok zN_ok) zF_ok), fun U hU hW => ⟨rfl, my_preJ (zAnd_ok (zAnd_ok zz_ok zN_ok) zF_ok) ⟨hz.1.1, hz.1.2.1⟩ hS hA hK hP hD [0, 1, 2, 8] rfl rfl U hU hW⟩⟩ rfl rfl hl.1 rfl (lv_room (Nat.le_of_ble_eq_true rfl)) dL_law_280 ⟨by omega, by omega⟩) hP hD hS hA [0, 1, 2, 8] rfl [3, 4, 5, 6, 7] rfl (by decide) [5, 6, 7, 0, 1, 2, 3, 4, 8] (fun _ => rfl) rfl (fun u1 H locs hp_1 hP hD hS => ?_)
  have hP : va_P D KL [(x, .inr (2, [.ref bx, .ref px, .ref t, .int ak, .int su, .int gt, .int lf, .int rf, .int kn])), (bx, .inl (cI, 6, .inl (hf_empty r1 f))), (px, .inl (cI, 2, .inl g)), (t, .inr (1, [.ref bt, .int 0, .int ml, .int cn])), (bt, .inl (cB, 16, .inl bs)), (o, .inr (4, [.int th, .ref bo, .ref po, .int ak', .int su', .int gt', .int lf', .int rf', .int kn'])), (bo, .inl (cI, 6, .inl h)), (po, .inl (cI, 2, .inl j)), (q, .inr (3, [.long (hn_empty r1 f n0), sv]))] H := hP
  have hD : va_D (fun q => s.heap.size ≤ q) [(x, .inr (2, [.ref bx, .ref px, .ref t, .int ak, .int su, .int gt, .int lf, .int rf, .int kn])), (bx, .inl (cI, 6, .inl (hf_empty r1 f))), (px, .inl (cI, 2, .inl g)), (t, .inr (1, [.ref bt, .int 0, .int ml, .int cn])), (bt, .inl (cB, 16, .inl bs)), (o, .inr (4, [.int th, .ref bo, .ref po, .int ak', .int su', .int gt', .int lf', .int rf', .int kn'])), (bo, .inl (cI, 6, .inl h)), (po, .inl (cI, 2, .inl j)), (q, .inr (3, [.long (hn_empty r1 f n0), sv]))] := hD
  refine W.eq (g2 := F0 m 283 ls [.int (hk_empty r1)]) rfl ?_
  refine lv_istore (lv' := [(5, .int (hk_empty r1)), (4, .int (nI i)), (3, .ref q), (2, .ref o), (1, .ref x), (0, .ref b)]) FX.1 FX.2.1 dL_law_283 hl (by decide) rfl (fun ls hl => ?_)
  refine lv_aload_n FX.1 FX.2.1 dL_law_285 rfl (lv_at hl 3 rfl) ?_
  refine p_rd (k := 1) (v := r1) FX hX hbl hbA hS (lv_at hl 5 rfl) (lv_at hl 1 rfl) dL_law_286 dL_law_287 dL_law_289 dL_law_290 dL_law_291 rfl hin1 ey1 ?_
  obtain ⟨eT, eA, hI2⟩ := st_empty r1 n0 hI
  refine c_WRV (wr := [(x, .inr (2, [.ref bx, .ref px, .ref t, .int ak, .int su, .int gt, .int lf, .int rf, .int kn])), (bx, .inl (cI, 6, .inl (hf_empty r1 f))), (px, .inl (cI, 2, .inl g)), (t, .inr (1, [.ref bt, .int 0, .int ml, .int cn])), (bt, .inl (cB, 16, .inl bs)), (q, .inr (3, [.long (hn_empty r1 f n0), sv]))]) (wsN := [(x, .inr (2, [.ref bx, .ref px, .ref t, .int ak, .int su, .int gt, .int lf, .int rf, .int kn])), (bx, .inl (cI, 6, .inl (hf_empty r1 f))), (px, .inl (cI, 2, .inl g)), (t, .inr (1, [.ref bt, .int 0, .int ml, .int cn])), (bt, .inl (cB, 16, .inl bs)), (o, .inr (4, [.int (wth_X2_empty r1), .ref bo, .ref po, .int ak', .int su', .int gt', .int lf', .int rf', .int kn'])), (bo, .inl (cI, 6, .inl (wf_X2_empty r1 h))), (po, .inl (cI, 2, .inl j)), (q, .inr (3, [.long (hn_empty r1 f n0), sv]))]) (i0 := 5) (ci := 4) FX (k_X2_empty l D cI cB o bo po th h j ak' su' gt' lf' rf' kn' r1) mi_X2_empty rfl ml_RL_165 (RMok.mk) hl.1 rfl (Nat.le_of_ble_eq_true rfl) dL_law_292 ⟨by omega, by omega⟩ hK hP hD hS hA [5, 6, 7] rfl [0, 1, 2, 3, 4, 8] rfl rfl (by decide) [0, 1, 2, 3, 4, 6, 7, 8, 5] rfl rfl rfl rfl rfl (fun H locs hP hD hS => ?_)
  refine lv_istore (lv' := [(6, .int (v_X2_empty r1 h)), (5, .int (hk_empty r1)), (4, .int (nI i)), (3, .ref q), (2, .ref o), (1, .ref x), (0, .ref b)]) FX.1 FX.2.1 dL_law_295 hl (by decide) rfl (fun ls hl => ?_)
  refine lv_goto (tgt := 1830) FX.1 FX.2.1 dL_law_297 (by decide) ?_
  refine W.widen (k := cc + 33) (n := ss + 321) (by omega) (by omega) ?_
  exact kk H locs (hf_empty r1 f) g ak su gt lf rf kn ml cn bs (wth_X2_empty r1) (wf_X2_empty r1 h) j ak' su' gt' lf' rf' kn' (hn_empty r1 f n0) sv ls hI2 hb hc hP hD hS (lv_sub hl [2, 3, 4, 5, 6] rfl)
set_option maxRecDepth 100000 in
set_option maxHeartbeats 4000000 in
theorem case_2 {p : Program} {l : Launch} {e : Env} {s : State} {m : MethodId} {below : List Frame} {meth : Method} {c : Code} (hl0 : l.stackTraces = false) (D : va_G) (cI cB : ClassId) (b L : Nat) (xs : Nat → Int32) (x bx px t bt o bo po q : Nat) (to tt : Nat) (go gu : Nat → Int32) (na nv : Nat) (nf : Nat → Int32) (nb nw : Nat) (nh : Nat → Int32) (ea ew : Nat) (ef : Nat → Int32) (i cc ss : Nat) (hi : i + 6 ≤ L) (hcc : cc + 33 ≤ room_1.cells) (hss : ss + 321 ≤ room_1.slots) (hL : L ≤ 3072) (FX : CallFix p m c cL_law 7 s #[.ref b] bigW RL) (hK : va_K D KL (TY cI cB) s) (hX : va_X b L xs s s.heap) (hbl : b < s.heap.size) (hz : zLaw to tt go gu na nv nf nb nw nh ea ew ef (fun q => s.heap.size ≤ q) s s.heap) (hfn : sb_Fit nf) (hfe : sb_Fit ef) (hnn : TL 4 nf nh) (kk : LGo p l e s m below meth c D cI cB b x bx px t bt o bo po q i 1830 (cc + 33) (ss + 321)) : LGo p l e s m below meth c D cI cB b x bx px t bt o bo po q i 300 cc ss := by
  intro H locs f g ak su gt lf rf kn ml cn bs th h j ak' su' gt' lf' rf' kn' n0 sv ls hI hb hc hP hD hS hl
  have hA : ∀ q : Nat, s.heap.size ≤ q → s.heap.size ≤ q := fun _ h => h
  have hbA : ¬ (fun q : Nat => s.heap.size ≤ q) b := Nat.not_le.mpr hbl
  obtain ⟨r1, ey1⟩ : ∃ y, xs (i + 1) = y := ⟨_, rfl⟩
  have hin1 : i + 1 < L ∧ L < 2 ^ 31 := ⟨by omega, by omega⟩
  obtain ⟨r2, ey2⟩ : ∃ y, xs (i + 2) = y := ⟨_, rfl⟩
  have hin2 : i + 2 < L ∧ L < 2 ^ 31 := ⟨by omega, by omega⟩
  obtain ⟨r3, ey3⟩ : ∃ y, xs (i + 3) = y := ⟨_, rfl⟩
  have hin3 : i + 3 < L ∧ L < 2 ^ 31 := ⟨by omega, by omega⟩
  have hl : lv_has ls 7 [(4, .int (nI i)), (3, .ref q), (2, .ref o), (1, .ref x), (0, .ref b)] := hl
  have hP : va_P D KL [(x, .inr (2, [.ref bx, .ref px, .ref t, .int ak, .int su, .int gt, .int lf, .int rf, .int kn])), (bx, .inl (cI, 6, .inl f)), (px, .inl (cI, 2, .inl g)), (t, .inr (1, [.ref bt, .int 0, .int ml, .int cn])), (bt, .inl (cB, 16, .inl bs)), (o, .inr (4, [.int th, .ref bo, .ref po, .int ak', .int su', .int gt', .int lf', .int rf', .int kn'])), (bo, .inl (cI, 6, .inl h)), (po, .inl (cI, 2, .inl j)), (q, .inr (3, [.long n0, sv]))] H := hP
  have hD : va_D (fun q => s.heap.size ≤ q) [(x, .inr (2, [.ref bx, .ref px, .ref t, .int ak, .int su, .int gt, .int lf, .int rf, .int kn])), (bx, .inl (cI, 6, .inl f)), (px, .inl (cI, 2, .inl g)), (t, .inr (1, [.ref bt, .int 0, .int ml, .int cn])), (bt, .inl (cB, 16, .inl bs)), (o, .inr (4, [.int th, .ref bo, .ref po, .int ak', .int su', .int gt', .int lf', .int rf', .int kn'])), (bo, .inl (cI, 6, .inl h)), (po, .inl (cI, 2, .inl j)), (q, .inr (3, [.long n0, sv]))] := hD
  refine lv_aload_n FX.1 FX.2.1 dL_law_300 rfl (lv_at hl 3 rfl) ?_
  refine p_rd (k := 1) (v := r1) FX hX hbl hbA hS (lv_at hl 4 rfl) (lv_at hl 0 rfl) dL_law_301 dL_law_302 dL_law_304 dL_law_305 dL_law_306 rfl hin1 ey1 ?_
  refine p_rd (k := 2) (v := r2) FX hX hbl hbA hS (lv_at hl 4 rfl) (lv_at hl 0 rfl) dL_law_307 dL_law_308 dL_law_310 dL_law_311 dL_law_312 rfl hin2 ey2 ?_
  refine p_rd (k := 3) (v := r3) FX hX hbl hbA hS (lv_at hl 4 rfl) (lv_at hl 0 rfl) dL_law_313 dL_law_314 dL_law_316 dL_law_317 dL_law_318 rfl hin3 ey3 ?_
  refine lv_if_eq (tgt := 326) FX.1 FX.2.1 dL_law_319 (by decide) (fun c_1 => ?_) (fun c_1 => ?_)
  · refine lv_iconst (v := 0) FX.1 FX.2.1 dL_law_326 (by decide) ?_
    refine lv_aload_n FX.1 FX.2.1 dL_law_327 rfl (lv_at hl 1 rfl) ?_
    refine c_J (W0 := [(x, .inr (2, [.ref bx, .ref px, .ref t, .int ak, .int su, .int gt, .int lf, .int rf, .int kn])), (bx, .inl (cI, 6, .inl f)), (px, .inl (cI, 2, .inl g)), (q, .inr (3, [.long n0, sv]))]) (wr := [(t, .inr (1, [.ref bt, .int 0, .int ml, .int cn])), (bt, .inl (cB, 16, .inl bs)), (o, .inr (4, [.int th, .ref bo, .ref po, .int ak', .int su', .int gt', .int lf', .int rf', .int kn'])), (bo, .inl (cI, 6, .inl h)), (po, .inl (cI, 2, .inl j))]) (wsN := fun _ => [(x, .inr (2, [.ref bx, .ref px, .ref t, .int ak, .int su, .int gt, .int lf, .int rf, .int kn])), (bx, .inl (cI, 6, .inl (hf_fillMaybe r1 r2 0 f))), (px, .inl (cI, 2, .inl g)), (t, .inr (1, [.ref bt, .int 0, .int ml, .int cn])), (bt, .inl (cB, 16, .inl bs)), (o, .inr (4, [.int th, .ref bo, .ref po, .int ak', .int su', .int gt', .int lf', .int rf', .int kn'])), (bo, .inl (cI, 6, .inl h)), (po, .inl (cI, 2, .inl j)), (q, .inr (3, [.long (hn_fillMaybe r1 r2 0 f n0), sv]))]) (vx_runSW FX ((j_L_fillMaybe l hl0 D cI cB x bx px t f g ak su gt lf rf kn q n0 sv r1 r2 0) H.size) (my_cwSW FX.2.2.2.2 mh_L_fillMaybe ml_RL_166 (RMok.mk)) ⟨PJ.blind (zAnd_ok (zAnd_ok zz_ok zN_ok) zF_ok), fun U hU hW => ⟨rfl, my_preJ (zAnd_ok (zAnd_ok zz_ok zN_ok) zF_ok) ⟨hz.1.1, hz.1.2.1⟩ hS hA hK hP hD [0, 1, 2, 8] rfl rfl U hU hW⟩⟩ rfl rfl hl.1 rfl (lv_room (Nat.le_of_ble_eq_true rfl)) dL_law_328 ⟨by omega, by omega⟩) hP hD hS hA [0, 1, 2, 8] rfl [3, 4, 5, 6, 7] rfl (by decide) [5, 6, 7, 0, 1, 2, 3, 4, 8] (fun _ => rfl) rfl (fun u1 H locs hp_1 hP hD hS => ?_)
    have hP : va_P D KL [(x, .inr (2, [.ref bx, .ref px, .ref t, .int ak, .int su, .int gt, .int lf, .int rf, .int kn])), (bx, .inl (cI, 6, .inl (hf_fillMaybe r1 r2 0 f))), (px, .inl (cI, 2, .inl g)), (t, .inr (1, [.ref bt, .int 0, .int ml, .int cn])), (bt, .inl (cB, 16, .inl bs)), (o, .inr (4, [.int th, .ref bo, .ref po, .int ak', .int su', .int gt', .int lf', .int rf', .int kn'])), (bo, .inl (cI, 6, .inl h)), (po, .inl (cI, 2, .inl j)), (q, .inr (3, [.long (hn_fillMaybe r1 r2 0 f n0), sv]))] H := hP
    have hD : va_D (fun q => s.heap.size ≤ q) [(x, .inr (2, [.ref bx, .ref px, .ref t, .int ak, .int su, .int gt, .int lf, .int rf, .int kn])), (bx, .inl (cI, 6, .inl (hf_fillMaybe r1 r2 0 f))), (px, .inl (cI, 2, .inl g)), (t, .inr (1, [.ref bt, .int 0, .int ml, .int cn])), (bt, .inl (cB, 16, .inl bs)), (o, .inr (4, [.int th, .ref bo, .ref po, .int ak', .int su', .int gt', .int lf', .int rf', .int kn'])), (bo, .inl (cI, 6, .inl h)), (po, .inl (cI, 2, .inl j)), (q, .inr (3, [.long (hn_fillMaybe r1 r2 0 f n0), sv]))] := hD
    refine W.eq (g2 := F0 m 331 ls [.int (hk_fillMaybe r1 r2)]) rfl ?_
    refine lv_istore (lv' := [(5, .int (hk_fillMaybe r1 r2)), (4, .int (nI i)), (3, .ref q), (2, .ref o), (1, .ref x), (0, .ref b)]) FX.1 FX.2.1 dL_law_331 hl (by decide) rfl (fun ls hl => ?_)
    refine lv_aload_n FX.1 FX.2.1 dL_law_333 rfl (lv_at hl 3 rfl) ?_
    refine p_rd (k := 1) (v := r1) FX hX hbl hbA hS (lv_at hl 5 rfl) (lv_at hl 1 rfl) dL_law_334 dL_law_335 dL_law_337 dL_law_338 dL_law_339 rfl hin1 ey1 ?_
    refine p_rd (k := 2) (v := r2) FX hX hbl hbA hS (lv_at hl 5 rfl) (lv_at hl 1 rfl) dL_law_340 dL_law_341 dL_law_343 dL_law_344 dL_law_345 rfl hin2 ey2 ?_
    refine p_rd (k := 3) (v := r3) FX hX hbl hbA hS (lv_at hl 5 rfl) (lv_at hl 1 rfl) dL_law_346 dL_law_347 dL_law_349 dL_law_350 dL_law_351 rfl hin3 ey3 ?_
    refine lv_if_eq (tgt := 359) FX.1 FX.2.1 dL_law_352 (by decide) (fun c_2 => ?_) (fun c_2 => ?_)
    · refine lv_iconst (v := 0) FX.1 FX.2.1 dL_law_359 (by decide) ?_
      obtain ⟨eT, eA, hI2⟩ := st_fillMaybe r1 r2 0 n0 hI
      refine c_WRV (wr := [(x, .inr (2, [.ref bx, .ref px, .ref t, .int ak, .int su, .int gt, .int lf, .int rf, .int kn])), (bx, .inl (cI, 6, .inl (hf_fillMaybe r1 r2 0 f))), (px, .inl (cI, 2, .inl g)), (t, .inr (1, [.ref bt, .int 0, .int ml, .int cn])), (bt, .inl (cB, 16, .inl bs)), (q, .inr (3, [.long (hn_fillMaybe r1 r2 0 f n0), sv]))]) (wsN := [(x, .inr (2, [.ref bx, .ref px, .ref t, .int ak, .int su, .int gt, .int lf, .int rf, .int kn])), (bx, .inl (cI, 6, .inl (hf_fillMaybe r1 r2 0 f))), (px, .inl (cI, 2, .inl g)), (t, .inr (1, [.ref bt, .int 0, .int ml, .int cn])), (bt, .inl (cB, 16, .inl bs)), (o, .inr (4, [.int (wth_X2_fillMaybe r1 r2), .ref bo, .ref po, .int ak', .int su', .int gt', .int lf', .int rf', .int kn'])), (bo, .inl (cI, 6, .inl (wf_X2_fillMaybe r1 r2 0 h))), (po, .inl (cI, 2, .inl j)), (q, .inr (3, [.long (hn_fillMaybe r1 r2 0 f n0), sv]))]) (i0 := 5) (ci := 4) FX (k_X2_fillMaybe l D cI cB o bo po th h j ak' su' gt' lf' rf' kn' r1 r2 0) mi_X2_fillMaybe rfl ml_RL_169 (RMok.mk) hl.1 rfl (Nat.le_of_ble_eq_true rfl) dL_law_360 ⟨by omega, by omega⟩ hK hP hD hS hA [5, 6, 7] rfl [0, 1, 2, 3, 4, 8] rfl rfl (by decide) [0, 1, 2, 3, 4, 6, 7, 8, 5] rfl rfl rfl rfl rfl (fun H locs hP hD hS => ?_)
      refine lv_istore (lv' := [(6, .int (v_X2_fillMaybe r1 r2 0)), (5, .int (hk_fillMaybe r1 r2)), (4, .int (nI i)), (3, .ref q), (2, .ref o), (1, .ref x), (0, .ref b)]) FX.1 FX.2.1 dL_law_363 hl (by decide) rfl (fun ls hl => ?_)
      refine lv_goto (tgt := 1830) FX.1 FX.2.1 dL_law_365 (by decide) ?_
      refine W.widen (k := cc + 33) (n := ss + 321) (by omega) (by omega) ?_
      exact kk H locs (hf_fillMaybe r1 r2 0 f) g ak su gt lf rf kn ml cn bs (wth_X2_fillMaybe r1 r2) (wf_X2_fillMaybe r1 r2 0 h) j ak' su' gt' lf' rf' kn' (hn_fillMaybe r1 r2 0 f n0) sv ls hI2 hb hc hP hD hS (lv_sub hl [2, 3, 4, 5, 6] rfl)
    · exact absurd c_1 c_2
  · refine lv_iconst (v := 1) FX.1 FX.2.1 dL_law_322 (by decide) ?_
    refine lv_goto (tgt := 327) FX.1 FX.2.1 dL_law_323 (by decide) ?_
    refine lv_aload_n FX.1 FX.2.1 dL_law_327 rfl (lv_at hl 1 rfl) ?_
    refine c_J (W0 := [(x, .inr (2, [.ref bx, .ref px, .ref t, .int ak, .int su, .int gt, .int lf, .int rf, .int kn])), (bx, .inl (cI, 6, .inl f)), (px, .inl (cI, 2, .inl g)), (q, .inr (3, [.long n0, sv]))]) (wr := [(t, .inr (1, [.ref bt, .int 0, .int ml, .int cn])), (bt, .inl (cB, 16, .inl bs)), (o, .inr (4, [.int th, .ref bo, .ref po, .int ak', .int su', .int gt', .int lf', .int rf', .int kn'])), (bo, .inl (cI, 6, .inl h)), (po, .inl (cI, 2, .inl j))]) (wsN := fun _ => [(x, .inr (2, [.ref bx, .ref px, .ref t, .int ak, .int su, .int gt, .int lf, .int rf, .int kn])), (bx, .inl (cI, 6, .inl (hf_fillMaybe r1 r2 1 f))), (px, .inl (cI, 2, .inl g)), (t, .inr (1, [.ref bt, .int 0, .int ml, .int cn])), (bt, .inl (cB, 16, .inl bs)), (o, .inr (4, [.int th, .ref bo, .ref po, .int ak', .int su', .int gt', .int lf', .int rf', .int kn'])), (bo, .inl (cI, 6, .inl h)), (po, .inl (cI, 2, .inl j)), (q, .inr (3, [.long (hn_fillMaybe r1 r2 1 f n0), sv]))]) (vx_runSW FX ((j_L_fillMaybe l hl0 D cI cB x bx px t f g ak su gt lf rf kn q n0 sv r1 r2 1) H.size) (my_cwSW FX.2.2.2.2 mh_L_fillMaybe ml_RL_166 (RMok.mk)) ⟨PJ.blind (zAnd_ok (zAnd_ok zz_ok zN_ok) zF_ok), fun U hU hW => ⟨rfl, my_preJ (zAnd_ok (zAnd_ok zz_ok zN_ok) zF_ok) ⟨hz.1.1, hz.1.2.1⟩ hS hA hK hP hD [0, 1, 2, 8] rfl rfl U hU hW⟩⟩ rfl rfl hl.1 rfl (lv_room (Nat.le_of_ble_eq_true rfl)) dL_law_328 ⟨by omega, by omega⟩) hP hD hS hA [0, 1, 2, 8] rfl [3, 4, 5, 6, 7] rfl (by decide) [5, 6, 7, 0, 1, 2, 3, 4, 8] (fun _ => rfl) rfl (fun u2 H locs hp_2 hP hD hS => ?_)
    have hP : va_P D KL [(x, .inr (2, [.ref bx, .ref px, .ref t, .int ak, .int su, .int gt, .int lf, .int rf, .int kn])), (bx, .inl (cI, 6, .inl (hf_fillMaybe r1 r2 1 f))), (px, .inl (cI, 2, .inl g)), (t, .inr (1, [.ref bt, .int 0, .int ml, .int cn])), (bt, .inl (cB, 16, .inl bs)), (o, .inr (4, [.int th, .ref bo, .ref po, .int ak', .int su', .int gt', .int lf', .int rf', .int kn'])), (bo, .inl (cI, 6, .inl h)), (po, .inl (cI, 2, .inl j)), (q, .inr (3, [.long (hn_fillMaybe r1 r2 1 f n0), sv]))] H := hP
    have hD : va_D (fun q => s.heap.size ≤ q) [(x, .inr (2, [.ref bx, .ref px, .ref t, .int ak, .int su, .int gt, .int lf, .int rf, .int kn])), (bx, .inl (cI, 6, .inl (hf_fillMaybe r1 r2 1 f))), (px, .inl (cI, 2, .inl g)), (t, .inr (1, [.ref bt, .int 0, .int ml, .int cn])), (bt, .inl (cB, 16, .inl bs)), (o, .inr (4, [.int th, .ref bo, .ref po, .int ak', .int su', .int gt', .int lf', .int rf', .int kn'])), (bo, .inl (cI, 6, .inl h)), (po, .inl (cI, 2, .inl j)), (q, .inr (3, [.long (hn_fillMaybe r1 r2 1 f n0), sv]))] := hD
    refine W.eq (g2 := F0 m 331 ls [.int (hk_fillMaybe r1 r2)]) rfl ?_
    refine lv_istore (lv' := [(5, .int (hk_fillMaybe r1 r2)), (4, .int (nI i)), (3, .ref q), (2, .ref o), (1, .ref x), (0, .ref b)]) FX.1 FX.2.1 dL_law_331 hl (by decide) rfl (fun ls hl => ?_)
    refine lv_aload_n FX.1 FX.2.1 dL_law_333 rfl (lv_at hl 3 rfl) ?_
    refine p_rd (k := 1) (v := r1) FX hX hbl hbA hS (lv_at hl 5 rfl) (lv_at hl 1 rfl) dL_law_334 dL_law_335 dL_law_337 dL_law_338 dL_law_339 rfl hin1 ey1 ?_
    refine p_rd (k := 2) (v := r2) FX hX hbl hbA hS (lv_at hl 5 rfl) (lv_at hl 1 rfl) dL_law_340 dL_law_341 dL_law_343 dL_law_344 dL_law_345 rfl hin2 ey2 ?_
    refine p_rd (k := 3) (v := r3) FX hX hbl hbA hS (lv_at hl 5 rfl) (lv_at hl 1 rfl) dL_law_346 dL_law_347 dL_law_349 dL_law_350 dL_law_351 rfl hin3 ey3 ?_
    refine lv_if_eq (tgt := 359) FX.1 FX.2.1 dL_law_352 (by decide) (fun c_3 => ?_) (fun c_3 => ?_)
    · exact absurd c_3 c_1
    · refine lv_iconst (v := 1) FX.1 FX.2.1 dL_law_355 (by decide) ?_
      refine lv_goto (tgt := 360) FX.1 FX.2.1 dL_law_356 (by decide) ?_
      obtain ⟨eT, eA, hI2⟩ := st_fillMaybe r1 r2 1 n0 hI
      refine c_WRV (wr := [(x, .inr (2, [.ref bx, .ref px, .ref t, .int ak, .int su, .int gt, .int lf, .int rf, .int kn])), (bx, .inl (cI, 6, .inl (hf_fillMaybe r1 r2 1 f))), (px, .inl (cI, 2, .inl g)), (t, .inr (1, [.ref bt, .int 0, .int ml, .int cn])), (bt, .inl (cB, 16, .inl bs)), (q, .inr (3, [.long (hn_fillMaybe r1 r2 1 f n0), sv]))]) (wsN := [(x, .inr (2, [.ref bx, .ref px, .ref t, .int ak, .int su, .int gt, .int lf, .int rf, .int kn])), (bx, .inl (cI, 6, .inl (hf_fillMaybe r1 r2 1 f))), (px, .inl (cI, 2, .inl g)), (t, .inr (1, [.ref bt, .int 0, .int ml, .int cn])), (bt, .inl (cB, 16, .inl bs)), (o, .inr (4, [.int (wth_X2_fillMaybe r1 r2), .ref bo, .ref po, .int ak', .int su', .int gt', .int lf', .int rf', .int kn'])), (bo, .inl (cI, 6, .inl (wf_X2_fillMaybe r1 r2 1 h))), (po, .inl (cI, 2, .inl j)), (q, .inr (3, [.long (hn_fillMaybe r1 r2 1 f n0), sv]))]) (i0 := 5) (ci := 4) FX (k_X2_fillMaybe l D cI cB o bo po th h j ak' su' gt' lf' rf' kn' r1 r2 1) mi_X2_fillMaybe rfl ml_RL_169 (RMok.mk) hl.1 rfl (Nat.le_of_ble_eq_true rfl) dL_law_360 ⟨by omega, by omega⟩ hK hP hD hS hA [5, 6, 7] rfl [0, 1, 2, 3, 4, 8] rfl rfl (by decide) [0, 1, 2, 3, 4, 6, 7, 8, 5] rfl rfl rfl rfl rfl (fun H locs hP hD hS => ?_)
      refine lv_istore (lv' := [(6, .int (v_X2_fillMaybe r1 r2 1)), (5, .int (hk_fillMaybe r1 r2)), (4, .int (nI i)), (3, .ref q), (2, .ref o), (1, .ref x), (0, .ref b)]) FX.1 FX.2.1 dL_law_363 hl (by decide) rfl (fun ls hl => ?_)
      refine lv_goto (tgt := 1830) FX.1 FX.2.1 dL_law_365 (by decide) ?_
      refine W.widen (k := cc + 33) (n := ss + 321) (by omega) (by omega) ?_
      exact kk H locs (hf_fillMaybe r1 r2 1 f) g ak su gt lf rf kn ml cn bs (wth_X2_fillMaybe r1 r2) (wf_X2_fillMaybe r1 r2 1 h) j ak' su' gt' lf' rf' kn' (hn_fillMaybe r1 r2 1 f n0) sv ls hI2 hb hc hP hD hS (lv_sub hl [2, 3, 4, 5, 6] rfl)
set_option maxRecDepth 100000 in
set_option maxHeartbeats 4000000 in
theorem case_3 {p : Program} {l : Launch} {e : Env} {s : State} {m : MethodId} {below : List Frame} {meth : Method} {c : Code} (hl0 : l.stackTraces = false) (D : va_G) (cI cB : ClassId) (b L : Nat) (xs : Nat → Int32) (x bx px t bt o bo po q : Nat) (to tt : Nat) (go gu : Nat → Int32) (na nv : Nat) (nf : Nat → Int32) (nb nw : Nat) (nh : Nat → Int32) (ea ew : Nat) (ef : Nat → Int32) (i cc ss : Nat) (hi : i + 6 ≤ L) (hcc : cc + 33 ≤ room_1.cells) (hss : ss + 321 ≤ room_1.slots) (hL : L ≤ 3072) (FX : CallFix p m c cL_law 7 s #[.ref b] bigW RL) (hK : va_K D KL (TY cI cB) s) (hX : va_X b L xs s s.heap) (hbl : b < s.heap.size) (hz : zLaw to tt go gu na nv nf nb nw nh ea ew ef (fun q => s.heap.size ≤ q) s s.heap) (hfn : sb_Fit nf) (hfe : sb_Fit ef) (hnn : TL 4 nf nh) (kk : LGo p l e s m below meth c D cI cB b x bx px t bt o bo po q i 1830 (cc + 33) (ss + 321)) : LGo p l e s m below meth c D cI cB b x bx px t bt o bo po q i 368 cc ss := by
  intro H locs f g ak su gt lf rf kn ml cn bs th h j ak' su' gt' lf' rf' kn' n0 sv ls hI hb hc hP hD hS hl
  have hA : ∀ q : Nat, s.heap.size ≤ q → s.heap.size ≤ q := fun _ h => h
  have hbA : ¬ (fun q : Nat => s.heap.size ≤ q) b := Nat.not_le.mpr hbl
  obtain ⟨r1, ey1⟩ : ∃ y, xs (i + 1) = y := ⟨_, rfl⟩
  have hin1 : i + 1 < L ∧ L < 2 ^ 31 := ⟨by omega, by omega⟩
  obtain ⟨r2, ey2⟩ : ∃ y, xs (i + 2) = y := ⟨_, rfl⟩
  have hin2 : i + 2 < L ∧ L < 2 ^ 31 := ⟨by omega, by omega⟩
  have hl : lv_has ls 7 [(4, .int (nI i)), (3, .ref q), (2, .ref o), (1, .ref x), (0, .ref b)] := hl
  have hP : va_P D KL [(x, .inr (2, [.ref bx, .ref px, .ref t, .int ak, .int su, .int gt, .int lf, .int rf, .int kn])), (bx, .inl (cI, 6, .inl f)), (px, .inl (cI, 2, .inl g)), (t, .inr (1, [.ref bt, .int 0, .int ml, .int cn])), (bt, .inl (cB, 16, .inl bs)), (o, .inr (4, [.int th, .ref bo, .ref po, .int ak', .int su', .int gt', .int lf', .int rf', .int kn'])), (bo, .inl (cI, 6, .inl h)), (po, .inl (cI, 2, .inl j)), (q, .inr (3, [.long n0, sv]))] H := hP
  have hD : va_D (fun q => s.heap.size ≤ q) [(x, .inr (2, [.ref bx, .ref px, .ref t, .int ak, .int su, .int gt, .int lf, .int rf, .int kn])), (bx, .inl (cI, 6, .inl f)), (px, .inl (cI, 2, .inl g)), (t, .inr (1, [.ref bt, .int 0, .int ml, .int cn])), (bt, .inl (cB, 16, .inl bs)), (o, .inr (4, [.int th, .ref bo, .ref po, .int ak', .int su', .int gt', .int lf', .int rf', .int kn'])), (bo, .inl (cI, 6, .inl h)), (po, .inl (cI, 2, .inl j)), (q, .inr (3, [.long n0, sv]))] := hD
  refine lv_aload_n FX.1 FX.2.1 dL_law_368 rfl (lv_at hl 3 rfl) ?_
  refine p_rd (k := 1) (v := r1) FX hX hbl hbA hS (lv_at hl 4 rfl) (lv_at hl 0 rfl) dL_law_369 dL_law_370 dL_law_372 dL_law_373 dL_law_374 rfl hin1 ey1 ?_
  refine p_rd (k := 2) (v := r2) FX hX hbl hbA hS (lv_at hl 4 rfl) (lv_at hl 0 rfl) dL_law_375 dL_law_376 dL_law_378 dL_law_379 dL_law_380 rfl hin2 ey2 ?_
  refine lv_aload_n FX.1 FX.2.1 dL_law_381 rfl (lv_at hl 1 rfl) ?_
  refine c_J (W0 := [(x, .inr (2, [.ref bx, .ref px, .ref t, .int ak, .int su, .int gt, .int lf, .int rf, .int kn])), (bx, .inl (cI, 6, .inl f)), (px, .inl (cI, 2, .inl g)), (q, .inr (3, [.long n0, sv]))]) (wr := [(t, .inr (1, [.ref bt, .int 0, .int ml, .int cn])), (bt, .inl (cB, 16, .inl bs)), (o, .inr (4, [.int th, .ref bo, .ref po, .int ak', .int su', .int gt', .int lf', .int rf', .int kn'])), (bo, .inl (cI, 6, .inl h)), (po, .inl (cI, 2, .inl j))]) (wsN := fun _ => [(x, .inr (2, [.ref bx, .ref px, .ref t, .int ak, .int su, .int gt, .int lf, .int rf, .int kn])), (bx, .inl (cI, 6, .inl (hf_copy r1 r2 f))), (px, .inl (cI, 2, .inl g)), (t, .inr (1, [.ref bt, .int 0, .int ml, .int cn])), (bt, .inl (cB, 16, .inl bs)), (o, .inr (4, [.int th, .ref bo, .ref po, .int ak', .int su', .int gt', .int lf', .int rf', .int kn'])), (bo, .inl (cI, 6, .inl h)), (po, .inl (cI, 2, .inl j)), (q, .inr (3, [.long (hn_copy r1 r2 f n0), sv]))]) (vx_runSW FX ((j_L_copy l hl0 D cI cB x bx px t f g ak su gt lf rf kn q n0 sv r1 r2) H.size) (my_cwSW FX.2.2.2.2 mh_L_copy ml_RL_170 (RMok.mk)) ⟨PJ.blind (zAnd_ok (zAnd_ok zz_ok zN_ok) zF_ok), fun U hU hW => ⟨rfl, my_preJ (zAnd_ok (zAnd_ok zz_ok zN_ok) zF_ok) ⟨hz.1.1, hz.1.2.1⟩ hS hA hK hP hD [0, 1, 2, 8] rfl rfl U hU hW⟩⟩ rfl rfl hl.1 rfl (lv_room (Nat.le_of_ble_eq_true rfl)) dL_law_382 ⟨by omega, by omega⟩) hP hD hS hA [0, 1, 2, 8] rfl [3, 4, 5, 6, 7] rfl (by decide) [5, 6, 7, 0, 1, 2, 3, 4, 8] (fun _ => rfl) rfl (fun u1 H locs hp_1 hP hD hS => ?_)
  have hP : va_P D KL [(x, .inr (2, [.ref bx, .ref px, .ref t, .int ak, .int su, .int gt, .int lf, .int rf, .int kn])), (bx, .inl (cI, 6, .inl (hf_copy r1 r2 f))), (px, .inl (cI, 2, .inl g)), (t, .inr (1, [.ref bt, .int 0, .int ml, .int cn])), (bt, .inl (cB, 16, .inl bs)), (o, .inr (4, [.int th, .ref bo, .ref po, .int ak', .int su', .int gt', .int lf', .int rf', .int kn'])), (bo, .inl (cI, 6, .inl h)), (po, .inl (cI, 2, .inl j)), (q, .inr (3, [.long (hn_copy r1 r2 f n0), sv]))] H := hP
  have hD : va_D (fun q => s.heap.size ≤ q) [(x, .inr (2, [.ref bx, .ref px, .ref t, .int ak, .int su, .int gt, .int lf, .int rf, .int kn])), (bx, .inl (cI, 6, .inl (hf_copy r1 r2 f))), (px, .inl (cI, 2, .inl g)), (t, .inr (1, [.ref bt, .int 0, .int ml, .int cn])), (bt, .inl (cB, 16, .inl bs)), (o, .inr (4, [.int th, .ref bo, .ref po, .int ak', .int su', .int gt', .int lf', .int rf', .int kn'])), (bo, .inl (cI, 6, .inl h)), (po, .inl (cI, 2, .inl j)), (q, .inr (3, [.long (hn_copy r1 r2 f n0), sv]))] := hD
  refine W.eq (g2 := F0 m 385 ls [.int (hk_copy r1 r2)]) rfl ?_
  refine lv_istore (lv' := [(5, .int (hk_copy r1 r2)), (4, .int (nI i)), (3, .ref q), (2, .ref o), (1, .ref x), (0, .ref b)]) FX.1 FX.2.1 dL_law_385 hl (by decide) rfl (fun ls hl => ?_)
  refine lv_aload_n FX.1 FX.2.1 dL_law_387 rfl (lv_at hl 3 rfl) ?_
  refine p_rd (k := 1) (v := r1) FX hX hbl hbA hS (lv_at hl 5 rfl) (lv_at hl 1 rfl) dL_law_388 dL_law_389 dL_law_391 dL_law_392 dL_law_393 rfl hin1 ey1 ?_
  refine p_rd (k := 2) (v := r2) FX hX hbl hbA hS (lv_at hl 5 rfl) (lv_at hl 1 rfl) dL_law_394 dL_law_395 dL_law_397 dL_law_398 dL_law_399 rfl hin2 ey2 ?_
  obtain ⟨eT, eA, hI2⟩ := st_copy r1 r2 n0 hI
  refine c_WRV (wr := [(x, .inr (2, [.ref bx, .ref px, .ref t, .int ak, .int su, .int gt, .int lf, .int rf, .int kn])), (bx, .inl (cI, 6, .inl (hf_copy r1 r2 f))), (px, .inl (cI, 2, .inl g)), (t, .inr (1, [.ref bt, .int 0, .int ml, .int cn])), (bt, .inl (cB, 16, .inl bs)), (q, .inr (3, [.long (hn_copy r1 r2 f n0), sv]))]) (wsN := [(x, .inr (2, [.ref bx, .ref px, .ref t, .int ak, .int su, .int gt, .int lf, .int rf, .int kn])), (bx, .inl (cI, 6, .inl (hf_copy r1 r2 f))), (px, .inl (cI, 2, .inl g)), (t, .inr (1, [.ref bt, .int 0, .int ml, .int cn])), (bt, .inl (cB, 16, .inl bs)), (o, .inr (4, [.int (wth_X2_copy r1 r2), .ref bo, .ref po, .int ak', .int su', .int gt', .int lf', .int rf', .int kn'])), (bo, .inl (cI, 6, .inl (wf_X2_copy r1 r2 h))), (po, .inl (cI, 2, .inl j)), (q, .inr (3, [.long (hn_copy r1 r2 f n0), sv]))]) (i0 := 5) (ci := 4) FX (k_X2_copy l D cI cB o bo po th h j ak' su' gt' lf' rf' kn' r1 r2) mi_X2_copy rfl ml_RL_172 (RMok.mk) hl.1 rfl (Nat.le_of_ble_eq_true rfl) dL_law_400 ⟨by omega, by omega⟩ hK hP hD hS hA [5, 6, 7] rfl [0, 1, 2, 3, 4, 8] rfl rfl (by decide) [0, 1, 2, 3, 4, 6, 7, 8, 5] rfl rfl rfl rfl rfl (fun H locs hP hD hS => ?_)
  refine lv_istore (lv' := [(6, .int (v_X2_copy r1 r2 h)), (5, .int (hk_copy r1 r2)), (4, .int (nI i)), (3, .ref q), (2, .ref o), (1, .ref x), (0, .ref b)]) FX.1 FX.2.1 dL_law_403 hl (by decide) rfl (fun ls hl => ?_)
  refine lv_goto (tgt := 1830) FX.1 FX.2.1 dL_law_405 (by decide) ?_
  refine W.widen (k := cc + 33) (n := ss + 321) (by omega) (by omega) ?_
  exact kk H locs (hf_copy r1 r2 f) g ak su gt lf rf kn ml cn bs (wth_X2_copy r1 r2) (wf_X2_copy r1 r2 h) j ak' su' gt' lf' rf' kn' (hn_copy r1 r2 f n0) sv ls hI2 hb hc hP hD hS (lv_sub hl [2, 3, 4, 5, 6] rfl)
set_option maxRecDepth 100000 in
set_option maxHeartbeats 4000000 in
theorem case_4 {p : Program} {l : Launch} {e : Env} {s : State} {m : MethodId} {below : List Frame} {meth : Method} {c : Code} (hl0 : l.stackTraces = false) (D : va_G) (cI cB : ClassId) (b L : Nat) (xs : Nat → Int32) (x bx px t bt o bo po q : Nat) (to tt : Nat) (go gu : Nat → Int32) (na nv : Nat) (nf : Nat → Int32) (nb nw : Nat) (nh : Nat → Int32) (ea ew : Nat) (ef : Nat → Int32) (i cc ss : Nat) (hi : i + 6 ≤ L) (hcc : cc + 33 ≤ room_1.cells) (hss : ss + 321 ≤ room_1.slots) (hL : L ≤ 3072) (FX : CallFix p m c cL_law 7 s #[.ref b] bigW RL) (hK : va_K D KL (TY cI cB) s) (hX : va_X b L xs s s.heap) (hbl : b < s.heap.size) (hz : zLaw to tt go gu na nv nf nb nw nh ea ew ef (fun q => s.heap.size ≤ q) s s.heap) (hfn : sb_Fit nf) (hfe : sb_Fit ef) (hnn : TL 4 nf nh) (kk : LGo p l e s m below meth c D cI cB b x bx px t bt o bo po q i 1830 (cc + 33) (ss + 321)) : LGo p l e s m below meth c D cI cB b x bx px t bt o bo po q i 408 cc ss := by
  intro H locs f g ak su gt lf rf kn ml cn bs th h j ak' su' gt' lf' rf' kn' n0 sv ls hI hb hc hP hD hS hl
  have hA : ∀ q : Nat, s.heap.size ≤ q → s.heap.size ≤ q := fun _ h => h
  have hbA : ¬ (fun q : Nat => s.heap.size ≤ q) b := Nat.not_le.mpr hbl
  obtain ⟨r1, ey1⟩ : ∃ y, xs (i + 1) = y := ⟨_, rfl⟩
  have hin1 : i + 1 < L ∧ L < 2 ^ 31 := ⟨by omega, by omega⟩
  obtain ⟨r2, ey2⟩ : ∃ y, xs (i + 2) = y := ⟨_, rfl⟩
  have hin2 : i + 2 < L ∧ L < 2 ^ 31 := ⟨by omega, by omega⟩
  obtain ⟨r3, ey3⟩ : ∃ y, xs (i + 3) = y := ⟨_, rfl⟩
  have hin3 : i + 3 < L ∧ L < 2 ^ 31 := ⟨by omega, by omega⟩
  obtain ⟨r4, ey4⟩ : ∃ y, xs (i + 4) = y := ⟨_, rfl⟩
  have hin4 : i + 4 < L ∧ L < 2 ^ 31 := ⟨by omega, by omega⟩
  have hl : lv_has ls 7 [(4, .int (nI i)), (3, .ref q), (2, .ref o), (1, .ref x), (0, .ref b)] := hl
  have hP : va_P D KL [(x, .inr (2, [.ref bx, .ref px, .ref t, .int ak, .int su, .int gt, .int lf, .int rf, .int kn])), (bx, .inl (cI, 6, .inl f)), (px, .inl (cI, 2, .inl g)), (t, .inr (1, [.ref bt, .int 0, .int ml, .int cn])), (bt, .inl (cB, 16, .inl bs)), (o, .inr (4, [.int th, .ref bo, .ref po, .int ak', .int su', .int gt', .int lf', .int rf', .int kn'])), (bo, .inl (cI, 6, .inl h)), (po, .inl (cI, 2, .inl j)), (q, .inr (3, [.long n0, sv]))] H := hP
  have hD : va_D (fun q => s.heap.size ≤ q) [(x, .inr (2, [.ref bx, .ref px, .ref t, .int ak, .int su, .int gt, .int lf, .int rf, .int kn])), (bx, .inl (cI, 6, .inl f)), (px, .inl (cI, 2, .inl g)), (t, .inr (1, [.ref bt, .int 0, .int ml, .int cn])), (bt, .inl (cB, 16, .inl bs)), (o, .inr (4, [.int th, .ref bo, .ref po, .int ak', .int su', .int gt', .int lf', .int rf', .int kn'])), (bo, .inl (cI, 6, .inl h)), (po, .inl (cI, 2, .inl j)), (q, .inr (3, [.long n0, sv]))] := hD
  refine lv_aload_n FX.1 FX.2.1 dL_law_408 rfl (lv_at hl 3 rfl) ?_
  refine p_rd (k := 1) (v := r1) FX hX hbl hbA hS (lv_at hl 4 rfl) (lv_at hl 0 rfl) dL_law_409 dL_law_410 dL_law_412 dL_law_413 dL_law_414 rfl hin1 ey1 ?_
  refine p_rd (k := 2) (v := r2) FX hX hbl hbA hS (lv_at hl 4 rfl) (lv_at hl 0 rfl) dL_law_415 dL_law_416 dL_law_418 dL_law_419 dL_law_420 rfl hin2 ey2 ?_
  refine p_rd (k := 3) (v := r3) FX hX hbl hbA hS (lv_at hl 4 rfl) (lv_at hl 0 rfl) dL_law_421 dL_law_422 dL_law_424 dL_law_425 dL_law_426 rfl hin3 ey3 ?_
  refine p_rd (k := 4) (v := r4) FX hX hbl hbA hS (lv_at hl 4 rfl) (lv_at hl 0 rfl) dL_law_427 dL_law_428 dL_law_430 dL_law_431 dL_law_432 rfl hin4 ey4 ?_
  refine lv_aload_n FX.1 FX.2.1 dL_law_433 rfl (lv_at hl 1 rfl) ?_
  refine c_J (W0 := [(x, .inr (2, [.ref bx, .ref px, .ref t, .int ak, .int su, .int gt, .int lf, .int rf, .int kn])), (bx, .inl (cI, 6, .inl f)), (px, .inl (cI, 2, .inl g)), (q, .inr (3, [.long n0, sv]))]) (wr := [(t, .inr (1, [.ref bt, .int 0, .int ml, .int cn])), (bt, .inl (cB, 16, .inl bs)), (o, .inr (4, [.int th, .ref bo, .ref po, .int ak', .int su', .int gt', .int lf', .int rf', .int kn'])), (bo, .inl (cI, 6, .inl h)), (po, .inl (cI, 2, .inl j))]) (wsN := fun _ => [(x, .inr (2, [.ref bx, .ref px, .ref t, .int (hak_map r1 r2 r3 r4 f ak), .int su, .int gt, .int lf, .int rf, .int kn])), (bx, .inl (cI, 6, .inl (hf_map r1 r2 r3 r4 f))), (px, .inl (cI, 2, .inl g)), (t, .inr (1, [.ref bt, .int 0, .int ml, .int cn])), (bt, .inl (cB, 16, .inl bs)), (o, .inr (4, [.int th, .ref bo, .ref po, .int ak', .int su', .int gt', .int lf', .int rf', .int kn'])), (bo, .inl (cI, 6, .inl h)), (po, .inl (cI, 2, .inl j)), (q, .inr (3, [.long (hn_map r1 r2 r3 r4 f n0), sv]))]) (vx_runSW FX ((j_L_map l hl0 D cI cB x bx px t f g ak su gt lf rf kn q n0 sv r1 r2 r3 r4) H.size) (my_cwSW FX.2.2.2.2 mh_L_map ml_RL_173 (RMok.mk)) ⟨PJ.blind (zAnd_ok (zAnd_ok zz_ok zN_ok) zF_ok), fun U hU hW => ⟨rfl, my_preJ (zAnd_ok (zAnd_ok zz_ok zN_ok) zF_ok) ⟨hz.1.1, hz.1.2.1⟩ hS hA hK hP hD [0, 1, 2, 8] rfl rfl U hU hW⟩⟩ rfl rfl hl.1 rfl (lv_room (Nat.le_of_ble_eq_true rfl)) dL_law_434 ⟨by omega, by omega⟩) hP hD hS hA [0, 1, 2, 8] rfl [3, 4, 5, 6, 7] rfl (by decide) [5, 6, 7, 0, 1, 2, 3, 4, 8] (fun _ => rfl) rfl (fun u1 H locs hp_1 hP hD hS => ?_)
  have hP : va_P D KL [(x, .inr (2, [.ref bx, .ref px, .ref t, .int (hak_map r1 r2 r3 r4 f ak), .int su, .int gt, .int lf, .int rf, .int kn])), (bx, .inl (cI, 6, .inl (hf_map r1 r2 r3 r4 f))), (px, .inl (cI, 2, .inl g)), (t, .inr (1, [.ref bt, .int 0, .int ml, .int cn])), (bt, .inl (cB, 16, .inl bs)), (o, .inr (4, [.int th, .ref bo, .ref po, .int ak', .int su', .int gt', .int lf', .int rf', .int kn'])), (bo, .inl (cI, 6, .inl h)), (po, .inl (cI, 2, .inl j)), (q, .inr (3, [.long (hn_map r1 r2 r3 r4 f n0), sv]))] H := hP
  have hD : va_D (fun q => s.heap.size ≤ q) [(x, .inr (2, [.ref bx, .ref px, .ref t, .int (hak_map r1 r2 r3 r4 f ak), .int su, .int gt, .int lf, .int rf, .int kn])), (bx, .inl (cI, 6, .inl (hf_map r1 r2 r3 r4 f))), (px, .inl (cI, 2, .inl g)), (t, .inr (1, [.ref bt, .int 0, .int ml, .int cn])), (bt, .inl (cB, 16, .inl bs)), (o, .inr (4, [.int th, .ref bo, .ref po, .int ak', .int su', .int gt', .int lf', .int rf', .int kn'])), (bo, .inl (cI, 6, .inl h)), (po, .inl (cI, 2, .inl j)), (q, .inr (3, [.long (hn_map r1 r2 r3 r4 f n0), sv]))] := hD
  refine W.eq (g2 := F0 m 437 ls [.int (hk_map r1 r2 r3 r4)]) rfl ?_
  refine lv_istore (lv' := [(5, .int (hk_map r1 r2 r3 r4)), (4, .int (nI i)), (3, .ref q), (2, .ref o), (1, .ref x), (0, .ref b)]) FX.1 FX.2.1 dL_law_437 hl (by decide) rfl (fun ls hl => ?_)
  refine lv_aload_n FX.1 FX.2.1 dL_law_439 rfl (lv_at hl 3 rfl) ?_
  refine p_rd (k := 1) (v := r1) FX hX hbl hbA hS (lv_at hl 5 rfl) (lv_at hl 1 rfl) dL_law_440 dL_law_441 dL_law_443 dL_law_444 dL_law_445 rfl hin1 ey1 ?_
  refine p_rd (k := 2) (v := r2) FX hX hbl hbA hS (lv_at hl 5 rfl) (lv_at hl 1 rfl) dL_law_446 dL_law_447 dL_law_449 dL_law_450 dL_law_451 rfl hin2 ey2 ?_
  refine p_rd (k := 3) (v := r3) FX hX hbl hbA hS (lv_at hl 5 rfl) (lv_at hl 1 rfl) dL_law_452 dL_law_453 dL_law_455 dL_law_456 dL_law_457 rfl hin3 ey3 ?_
  refine p_rd (k := 4) (v := r4) FX hX hbl hbA hS (lv_at hl 5 rfl) (lv_at hl 1 rfl) dL_law_458 dL_law_459 dL_law_461 dL_law_462 dL_law_463 rfl hin4 ey4 ?_
  obtain ⟨eT, eA, hI2⟩ := st_map r1 r2 r3 r4 n0 hI
  refine c_WRV (wr := [(x, .inr (2, [.ref bx, .ref px, .ref t, .int (hak_map r1 r2 r3 r4 f ak), .int su, .int gt, .int lf, .int rf, .int kn])), (bx, .inl (cI, 6, .inl (hf_map r1 r2 r3 r4 f))), (px, .inl (cI, 2, .inl g)), (t, .inr (1, [.ref bt, .int 0, .int ml, .int cn])), (bt, .inl (cB, 16, .inl bs)), (q, .inr (3, [.long (hn_map r1 r2 r3 r4 f n0), sv]))]) (wsN := [(x, .inr (2, [.ref bx, .ref px, .ref t, .int (hak_map r1 r2 r3 r4 f ak), .int su, .int gt, .int lf, .int rf, .int kn])), (bx, .inl (cI, 6, .inl (hf_map r1 r2 r3 r4 f))), (px, .inl (cI, 2, .inl g)), (t, .inr (1, [.ref bt, .int 0, .int ml, .int cn])), (bt, .inl (cB, 16, .inl bs)), (o, .inr (4, [.int (wth_X2_map r1 r2 r3 r4), .ref bo, .ref po, .int (wak_X2_map r1 r2 r3 r4 h ak'), .int su', .int gt', .int lf', .int rf', .int kn'])), (bo, .inl (cI, 6, .inl (wf_X2_map r1 r2 r3 r4 h))), (po, .inl (cI, 2, .inl j)), (q, .inr (3, [.long (hn_map r1 r2 r3 r4 f n0), sv]))]) (i0 := 5) (ci := 4) FX (k_X2_map l D cI cB o bo po th h j ak' su' gt' lf' rf' kn' r1 r2 r3 r4) mi_X2_map rfl ml_RL_176 (RMok.mk) hl.1 rfl (Nat.le_of_ble_eq_true rfl) dL_law_464 ⟨by omega, by omega⟩ hK hP hD hS hA [5, 6, 7] rfl [0, 1, 2, 3, 4, 8] rfl rfl (by decide) [0, 1, 2, 3, 4, 6, 7, 8, 5] rfl rfl rfl rfl rfl (fun H locs hP hD hS => ?_)
  refine lv_istore (lv' := [(6, .int (v_X2_map r1 r2 r3 r4 h)), (5, .int (hk_map r1 r2 r3 r4)), (4, .int (nI i)), (3, .ref q), (2, .ref o), (1, .ref x), (0, .ref b)]) FX.1 FX.2.1 dL_law_467 hl (by decide) rfl (fun ls hl => ?_)
  refine lv_goto (tgt := 1830) FX.1 FX.2.1 dL_law_469 (by decide) ?_
  refine W.widen (k := cc + 33) (n := ss + 321) (by omega) (by omega) ?_
  exact kk H locs (hf_map r1 r2 r3 r4 f) g (hak_map r1 r2 r3 r4 f ak) su gt lf rf kn ml cn bs (wth_X2_map r1 r2 r3 r4) (wf_X2_map r1 r2 r3 r4 h) j (wak_X2_map r1 r2 r3 r4 h ak') su' gt' lf' rf' kn' (hn_map r1 r2 r3 r4 f n0) sv ls hI2 hb hc hP hD hS (lv_sub hl [2, 3, 4, 5, 6] rfl)
set_option maxRecDepth 100000 in
set_option maxHeartbeats 4000000 in
theorem case_5 {p : Program} {l : Launch} {e : Env} {s : State} {m : MethodId} {below : List Frame} {meth : Method} {c : Code} (hl0 : l.stackTraces = false) (D : va_G) (cI cB : ClassId) (b L : Nat) (xs : Nat → Int32) (x bx px t bt o bo po q : Nat) (to tt : Nat) (go gu : Nat → Int32) (na nv : Nat) (nf : Nat → Int32) (nb nw : Nat) (nh : Nat → Int32) (ea ew : Nat) (ef : Nat → Int32) (i cc ss : Nat) (hi : i + 6 ≤ L) (hcc : cc + 33 ≤ room_1.cells) (hss : ss + 321 ≤ room_1.slots) (hL : L ≤ 3072) (FX : CallFix p m c cL_law 7 s #[.ref b] bigW RL) (hK : va_K D KL (TY cI cB) s) (hX : va_X b L xs s s.heap) (hbl : b < s.heap.size) (hz : zLaw to tt go gu na nv nf nb nw nh ea ew ef (fun q => s.heap.size ≤ q) s s.heap) (hfn : sb_Fit nf) (hfe : sb_Fit ef) (hnn : TL 4 nf nh) (kk : LGo p l e s m below meth c D cI cB b x bx px t bt o bo po q i 1830 (cc + 33) (ss + 321)) : LGo p l e s m below meth c D cI cB b x bx px t bt o bo po q i 472 cc ss := by
  intro H locs f g ak su gt lf rf kn ml cn bs th h j ak' su' gt' lf' rf' kn' n0 sv ls hI hb hc hP hD hS hl
  have hA : ∀ q : Nat, s.heap.size ≤ q → s.heap.size ≤ q := fun _ h => h
  have hbA : ¬ (fun q : Nat => s.heap.size ≤ q) b := Nat.not_le.mpr hbl
  obtain ⟨r1, ey1⟩ : ∃ y, xs (i + 1) = y := ⟨_, rfl⟩
  have hin1 : i + 1 < L ∧ L < 2 ^ 31 := ⟨by omega, by omega⟩
  obtain ⟨r2, ey2⟩ : ∃ y, xs (i + 2) = y := ⟨_, rfl⟩
  have hin2 : i + 2 < L ∧ L < 2 ^ 31 := ⟨by omega, by omega⟩
  obtain ⟨r3, ey3⟩ : ∃ y, xs (i + 3) = y := ⟨_, rfl⟩
  have hin3 : i + 3 < L ∧ L < 2 ^ 31 := ⟨by omega, by omega⟩
  obtain ⟨r4, ey4⟩ : ∃ y, xs (i + 4) = y := ⟨_, rfl⟩
  have hin4 : i + 4 < L ∧ L < 2 ^ 31 := ⟨by omega, by omega⟩
  have hl : lv_has ls 7 [(4, .int (nI i)), (3, .ref q), (2, .ref o), (1, .ref x), (0, .ref b)] := hl
  have hP : va_P D KL [(x, .inr (2, [.ref bx, .ref px, .ref t, .int ak, .int su, .int gt, .int lf, .int rf, .int kn])), (bx, .inl (cI, 6, .inl f)), (px, .inl (cI, 2, .inl g)), (t, .inr (1, [.ref bt, .int 0, .int ml, .int cn])), (bt, .inl (cB, 16, .inl bs)), (o, .inr (4, [.int th, .ref bo, .ref po, .int ak', .int su', .int gt', .int lf', .int rf', .int kn'])), (bo, .inl (cI, 6, .inl h)), (po, .inl (cI, 2, .inl j)), (q, .inr (3, [.long n0, sv]))] H := hP
  have hD : va_D (fun q => s.heap.size ≤ q) [(x, .inr (2, [.ref bx, .ref px, .ref t, .int ak, .int su, .int gt, .int lf, .int rf, .int kn])), (bx, .inl (cI, 6, .inl f)), (px, .inl (cI, 2, .inl g)), (t, .inr (1, [.ref bt, .int 0, .int ml, .int cn])), (bt, .inl (cB, 16, .inl bs)), (o, .inr (4, [.int th, .ref bo, .ref po, .int ak', .int su', .int gt', .int lf', .int rf', .int kn'])), (bo, .inl (cI, 6, .inl h)), (po, .inl (cI, 2, .inl j)), (q, .inr (3, [.long n0, sv]))] := hD
  refine lv_aload_n FX.1 FX.2.1 dL_law_472 rfl (lv_at hl 3 rfl) ?_
  refine p_rd (k := 1) (v := r1) FX hX hbl hbA hS (lv_at hl 4 rfl) (lv_at hl 0 rfl) dL_law_473 dL_law_474 dL_law_476 dL_law_477 dL_law_478 rfl hin1 ey1 ?_
  refine p_rd (k := 2) (v := r2) FX hX hbl hbA hS (lv_at hl 4 rfl) (lv_at hl 0 rfl) dL_law_479 dL_law_480 dL_law_482 dL_law_483 dL_law_484 rfl hin2 ey2 ?_
  refine p_rd (k := 3) (v := r3) FX hX hbl hbA hS (lv_at hl 4 rfl) (lv_at hl 0 rfl) dL_law_485 dL_law_486 dL_law_488 dL_law_489 dL_law_490 rfl hin3 ey3 ?_
  refine p_rd (k := 4) (v := r4) FX hX hbl hbA hS (lv_at hl 4 rfl) (lv_at hl 0 rfl) dL_law_491 dL_law_492 dL_law_494 dL_law_495 dL_law_496 rfl hin4 ey4 ?_
  refine lv_aload_n FX.1 FX.2.1 dL_law_497 rfl (lv_at hl 1 rfl) ?_
  refine c_J (W0 := [(x, .inr (2, [.ref bx, .ref px, .ref t, .int ak, .int su, .int gt, .int lf, .int rf, .int kn])), (bx, .inl (cI, 6, .inl f)), (px, .inl (cI, 2, .inl g)), (q, .inr (3, [.long n0, sv]))]) (wr := [(t, .inr (1, [.ref bt, .int 0, .int ml, .int cn])), (bt, .inl (cB, 16, .inl bs)), (o, .inr (4, [.int th, .ref bo, .ref po, .int ak', .int su', .int gt', .int lf', .int rf', .int kn'])), (bo, .inl (cI, 6, .inl h)), (po, .inl (cI, 2, .inl j))]) (wsN := fun _ => [(x, .inr (2, [.ref bx, .ref px, .ref t, .int (hak_turn r1 r2 r3 r4 f ak), .int su, .int gt, .int lf, .int rf, .int kn])), (bx, .inl (cI, 6, .inl (hf_turn r1 r2 r3 r4 f))), (px, .inl (cI, 2, .inl g)), (t, .inr (1, [.ref bt, .int 0, .int ml, .int cn])), (bt, .inl (cB, 16, .inl bs)), (o, .inr (4, [.int th, .ref bo, .ref po, .int ak', .int su', .int gt', .int lf', .int rf', .int kn'])), (bo, .inl (cI, 6, .inl h)), (po, .inl (cI, 2, .inl j)), (q, .inr (3, [.long (hn_turn r1 r2 r3 r4 f n0), sv]))]) (vx_runSW FX ((j_L_turn l hl0 D cI cB x bx px t f g ak su gt lf rf kn q n0 sv r1 r2 r3 r4) H.size) (my_cwSW FX.2.2.2.2 mh_L_turn ml_RL_177 (RMok.mk)) ⟨PJ.blind (zAnd_ok (zAnd_ok zz_ok zN_ok) zF_ok), fun U hU hW => ⟨rfl, my_preJ (zAnd_ok (zAnd_ok zz_ok zN_ok) zF_ok) ⟨hz.1.1, hz.1.2.1⟩ hS hA hK hP hD [0, 1, 2, 8] rfl rfl U hU hW⟩⟩ rfl rfl hl.1 rfl (lv_room (Nat.le_of_ble_eq_true rfl)) dL_law_498 ⟨by omega, by omega⟩) hP hD hS hA [0, 1, 2, 8] rfl [3, 4, 5, 6, 7] rfl (by decide) [5, 6, 7, 0, 1, 2, 3, 4, 8] (fun _ => rfl) rfl (fun u1 H locs hp_1 hP hD hS => ?_)
  have hP : va_P D KL [(x, .inr (2, [.ref bx, .ref px, .ref t, .int (hak_turn r1 r2 r3 r4 f ak), .int su, .int gt, .int lf, .int rf, .int kn])), (bx, .inl (cI, 6, .inl (hf_turn r1 r2 r3 r4 f))), (px, .inl (cI, 2, .inl g)), (t, .inr (1, [.ref bt, .int 0, .int ml, .int cn])), (bt, .inl (cB, 16, .inl bs)), (o, .inr (4, [.int th, .ref bo, .ref po, .int ak', .int su', .int gt', .int lf', .int rf', .int kn'])), (bo, .inl (cI, 6, .inl h)), (po, .inl (cI, 2, .inl j)), (q, .inr (3, [.long (hn_turn r1 r2 r3 r4 f n0), sv]))] H := hP
  have hD : va_D (fun q => s.heap.size ≤ q) [(x, .inr (2, [.ref bx, .ref px, .ref t, .int (hak_turn r1 r2 r3 r4 f ak), .int su, .int gt, .int lf, .int rf, .int kn])), (bx, .inl (cI, 6, .inl (hf_turn r1 r2 r3 r4 f))), (px, .inl (cI, 2, .inl g)), (t, .inr (1, [.ref bt, .int 0, .int ml, .int cn])), (bt, .inl (cB, 16, .inl bs)), (o, .inr (4, [.int th, .ref bo, .ref po, .int ak', .int su', .int gt', .int lf', .int rf', .int kn'])), (bo, .inl (cI, 6, .inl h)), (po, .inl (cI, 2, .inl j)), (q, .inr (3, [.long (hn_turn r1 r2 r3 r4 f n0), sv]))] := hD
  refine W.eq (g2 := F0 m 501 ls [.int (hk_turn r1 r2 r3 r4)]) rfl ?_
  refine lv_istore (lv' := [(5, .int (hk_turn r1 r2 r3 r4)), (4, .int (nI i)), (3, .ref q), (2, .ref o), (1, .ref x), (0, .ref b)]) FX.1 FX.2.1 dL_law_501 hl (by decide) rfl (fun ls hl => ?_)
  refine lv_aload_n FX.1 FX.2.1 dL_law_503 rfl (lv_at hl 3 rfl) ?_
  refine p_rd (k := 1) (v := r1) FX hX hbl hbA hS (lv_at hl 5 rfl) (lv_at hl 1 rfl) dL_law_504 dL_law_505 dL_law_507 dL_law_508 dL_law_509 rfl hin1 ey1 ?_
  refine p_rd (k := 2) (v := r2) FX hX hbl hbA hS (lv_at hl 5 rfl) (lv_at hl 1 rfl) dL_law_510 dL_law_511 dL_law_513 dL_law_514 dL_law_515 rfl hin2 ey2 ?_
  refine p_rd (k := 3) (v := r3) FX hX hbl hbA hS (lv_at hl 5 rfl) (lv_at hl 1 rfl) dL_law_516 dL_law_517 dL_law_519 dL_law_520 dL_law_521 rfl hin3 ey3 ?_
  refine p_rd (k := 4) (v := r4) FX hX hbl hbA hS (lv_at hl 5 rfl) (lv_at hl 1 rfl) dL_law_522 dL_law_523 dL_law_525 dL_law_526 dL_law_527 rfl hin4 ey4 ?_
  obtain ⟨eT, eA, hI2⟩ := st_turn r1 r2 r3 r4 n0 hI
  refine c_WRV (wr := [(x, .inr (2, [.ref bx, .ref px, .ref t, .int (hak_turn r1 r2 r3 r4 f ak), .int su, .int gt, .int lf, .int rf, .int kn])), (bx, .inl (cI, 6, .inl (hf_turn r1 r2 r3 r4 f))), (px, .inl (cI, 2, .inl g)), (t, .inr (1, [.ref bt, .int 0, .int ml, .int cn])), (bt, .inl (cB, 16, .inl bs)), (q, .inr (3, [.long (hn_turn r1 r2 r3 r4 f n0), sv]))]) (wsN := [(x, .inr (2, [.ref bx, .ref px, .ref t, .int (hak_turn r1 r2 r3 r4 f ak), .int su, .int gt, .int lf, .int rf, .int kn])), (bx, .inl (cI, 6, .inl (hf_turn r1 r2 r3 r4 f))), (px, .inl (cI, 2, .inl g)), (t, .inr (1, [.ref bt, .int 0, .int ml, .int cn])), (bt, .inl (cB, 16, .inl bs)), (o, .inr (4, [.int (wth_X2_turn r1 r2 r3 r4), .ref bo, .ref po, .int (wak_X2_turn r1 r2 r3 r4 h ak'), .int su', .int gt', .int lf', .int rf', .int kn'])), (bo, .inl (cI, 6, .inl (wf_X2_turn r1 r2 r3 r4 h))), (po, .inl (cI, 2, .inl j)), (q, .inr (3, [.long (hn_turn r1 r2 r3 r4 f n0), sv]))]) (i0 := 5) (ci := 4) FX (k_X2_turn l D cI cB o bo po th h j ak' su' gt' lf' rf' kn' r1 r2 r3 r4) mi_X2_turn rfl ml_RL_179 (RMok.mk) hl.1 rfl (Nat.le_of_ble_eq_true rfl) dL_law_528 ⟨by omega, by omega⟩ hK hP hD hS hA [5, 6, 7] rfl [0, 1, 2, 3, 4, 8] rfl rfl (by decide) [0, 1, 2, 3, 4, 6, 7, 8, 5] rfl rfl rfl rfl rfl (fun H locs hP hD hS => ?_)
  refine lv_istore (lv' := [(6, .int (v_X2_turn r1 r2 r3 r4 h)), (5, .int (hk_turn r1 r2 r3 r4)), (4, .int (nI i)), (3, .ref q), (2, .ref o), (1, .ref x), (0, .ref b)]) FX.1 FX.2.1 dL_law_531 hl (by decide) rfl (fun ls hl => ?_)
  refine lv_goto (tgt := 1830) FX.1 FX.2.1 dL_law_533 (by decide) ?_
  refine W.widen (k := cc + 33) (n := ss + 321) (by omega) (by omega) ?_
  exact kk H locs (hf_turn r1 r2 r3 r4 f) g (hak_turn r1 r2 r3 r4 f ak) su gt lf rf kn ml cn bs (wth_X2_turn r1 r2 r3 r4) (wf_X2_turn r1 r2 r3 r4 h) j (wak_X2_turn r1 r2 r3 r4 h ak') su' gt' lf' rf' kn' (hn_turn r1 r2 r3 r4 f n0) sv ls hI2 hb hc hP hD hS (lv_sub hl [2, 3, 4, 5, 6] rfl)
set_option maxRecDepth 100000 in
set_option maxHeartbeats 4000000 in
theorem case_6 {p : Program} {l : Launch} {e : Env} {s : State} {m : MethodId} {below : List Frame} {meth : Method} {c : Code} (hl0 : l.stackTraces = false) (D : va_G) (cI cB : ClassId) (b L : Nat) (xs : Nat → Int32) (x bx px t bt o bo po q : Nat) (to tt : Nat) (go gu : Nat → Int32) (na nv : Nat) (nf : Nat → Int32) (nb nw : Nat) (nh : Nat → Int32) (ea ew : Nat) (ef : Nat → Int32) (i cc ss : Nat) (hi : i + 6 ≤ L) (hcc : cc + 33 ≤ room_1.cells) (hss : ss + 321 ≤ room_1.slots) (hL : L ≤ 3072) (FX : CallFix p m c cL_law 7 s #[.ref b] bigW RL) (hK : va_K D KL (TY cI cB) s) (hX : va_X b L xs s s.heap) (hbl : b < s.heap.size) (hz : zLaw to tt go gu na nv nf nb nw nh ea ew ef (fun q => s.heap.size ≤ q) s s.heap) (hfn : sb_Fit nf) (hfe : sb_Fit ef) (hnn : TL 4 nf nh) (kk : LGo p l e s m below meth c D cI cB b x bx px t bt o bo po q i 1830 (cc + 33) (ss + 321)) : LGo p l e s m below meth c D cI cB b x bx px t bt o bo po q i 536 cc ss := by
  intro H locs f g ak su gt lf rf kn ml cn bs th h j ak' su' gt' lf' rf' kn' n0 sv ls hI hb hc hP hD hS hl
  have hA : ∀ q : Nat, s.heap.size ≤ q → s.heap.size ≤ q := fun _ h => h
  have hbA : ¬ (fun q : Nat => s.heap.size ≤ q) b := Nat.not_le.mpr hbl
  obtain ⟨r1, ey1⟩ : ∃ y, xs (i + 1) = y := ⟨_, rfl⟩
  have hin1 : i + 1 < L ∧ L < 2 ^ 31 := ⟨by omega, by omega⟩
  obtain ⟨r2, ey2⟩ : ∃ y, xs (i + 2) = y := ⟨_, rfl⟩
  have hin2 : i + 2 < L ∧ L < 2 ^ 31 := ⟨by omega, by omega⟩
  obtain ⟨r3, ey3⟩ : ∃ y, xs (i + 3) = y := ⟨_, rfl⟩
  have hin3 : i + 3 < L ∧ L < 2 ^ 31 := ⟨by omega, by omega⟩
  obtain ⟨r4, ey4⟩ : ∃ y, xs (i + 4) = y := ⟨_, rfl⟩
  have hin4 : i + 4 < L ∧ L < 2 ^ 31 := ⟨by omega, by omega⟩
  have hl : lv_has ls 7 [(4, .int (nI i)), (3, .ref q), (2, .ref o), (1, .ref x), (0, .ref b)] := hl
  have hP : va_P D KL [(x, .inr (2, [.ref bx, .ref px, .ref t, .int ak, .int su, .int gt, .int lf, .int rf, .int kn])), (bx, .inl (cI, 6, .inl f)), (px, .inl (cI, 2, .inl g)), (t, .inr (1, [.ref bt, .int 0, .int ml, .int cn])), (bt, .inl (cB, 16, .inl bs)), (o, .inr (4, [.int th, .ref bo, .ref po, .int ak', .int su', .int gt', .int lf', .int rf', .int kn'])), (bo, .inl (cI, 6, .inl h)), (po, .inl (cI, 2, .inl j)), (q, .inr (3, [.long n0, sv]))] H := hP
  have hD : va_D (fun q => s.heap.size ≤ q) [(x, .inr (2, [.ref bx, .ref px, .ref t, .int ak, .int su, .int gt, .int lf, .int rf, .int kn])), (bx, .inl (cI, 6, .inl f)), (px, .inl (cI, 2, .inl g)), (t, .inr (1, [.ref bt, .int 0, .int ml, .int cn])), (bt, .inl (cB, 16, .inl bs)), (o, .inr (4, [.int th, .ref bo, .ref po, .int ak', .int su', .int gt', .int lf', .int rf', .int kn'])), (bo, .inl (cI, 6, .inl h)), (po, .inl (cI, 2, .inl j)), (q, .inr (3, [.long n0, sv]))] := hD
  refine lv_aload_n FX.1 FX.2.1 dL_law_536 rfl (lv_at hl 3 rfl) ?_
  refine p_rd (k := 1) (v := r1) FX hX hbl hbA hS (lv_at hl 4 rfl) (lv_at hl 0 rfl) dL_law_537 dL_law_538 dL_law_540 dL_law_541 dL_law_542 rfl hin1 ey1 ?_
  refine p_rd (k := 2) (v := r2) FX hX hbl hbA hS (lv_at hl 4 rfl) (lv_at hl 0 rfl) dL_law_543 dL_law_544 dL_law_546 dL_law_547 dL_law_548 rfl hin2 ey2 ?_
  refine p_rd (k := 3) (v := r3) FX hX hbl hbA hS (lv_at hl 4 rfl) (lv_at hl 0 rfl) dL_law_549 dL_law_550 dL_law_552 dL_law_553 dL_law_554 rfl hin3 ey3 ?_
  refine p_rd (k := 4) (v := r4) FX hX hbl hbA hS (lv_at hl 4 rfl) (lv_at hl 0 rfl) dL_law_555 dL_law_556 dL_law_558 dL_law_559 dL_law_560 rfl hin4 ey4 ?_
  refine lv_aload_n FX.1 FX.2.1 dL_law_561 rfl (lv_at hl 1 rfl) ?_
  refine c_J (W0 := [(x, .inr (2, [.ref bx, .ref px, .ref t, .int ak, .int su, .int gt, .int lf, .int rf, .int kn])), (bx, .inl (cI, 6, .inl f)), (px, .inl (cI, 2, .inl g)), (q, .inr (3, [.long n0, sv]))]) (wr := [(t, .inr (1, [.ref bt, .int 0, .int ml, .int cn])), (bt, .inl (cB, 16, .inl bs)), (o, .inr (4, [.int th, .ref bo, .ref po, .int ak', .int su', .int gt', .int lf', .int rf', .int kn'])), (bo, .inl (cI, 6, .inl h)), (po, .inl (cI, 2, .inl j))]) (wsN := fun _ => [(x, .inr (2, [.ref bx, .ref px, .ref t, .int (hak_filter r1 r2 r3 r4 f ak), .int su, .int gt, .int lf, .int rf, .int kn])), (bx, .inl (cI, 6, .inl (hf_filter r1 r2 r3 r4 f))), (px, .inl (cI, 2, .inl g)), (t, .inr (1, [.ref bt, .int 0, .int ml, .int cn])), (bt, .inl (cB, 16, .inl bs)), (o, .inr (4, [.int th, .ref bo, .ref po, .int ak', .int su', .int gt', .int lf', .int rf', .int kn'])), (bo, .inl (cI, 6, .inl h)), (po, .inl (cI, 2, .inl j)), (q, .inr (3, [.long (hn_filter r1 r2 r3 r4 f n0), sv]))]) (vx_runSW FX ((j_L_filter l hl0 D cI cB x bx px t f g ak su gt lf rf kn q n0 sv r1 r2 r3 r4) H.size) (my_cwSW FX.2.2.2.2 mh_L_filter ml_RL_180 (RMok.mk)) ⟨PJ.blind (zAnd_ok (zAnd_ok zz_ok zN_ok) zF_ok), fun U hU hW => ⟨rfl, my_preJ (zAnd_ok (zAnd_ok zz_ok zN_ok) zF_ok) ⟨hz.1.1, hz.1.2.1⟩ hS hA hK hP hD [0, 1, 2, 8] rfl rfl U hU hW⟩⟩ rfl rfl hl.1 rfl (lv_room (Nat.le_of_ble_eq_true rfl)) dL_law_562 ⟨by omega, by omega⟩) hP hD hS hA [0, 1, 2, 8] rfl [3, 4, 5, 6, 7] rfl (by decide) [5, 6, 7, 0, 1, 2, 3, 4, 8] (fun _ => rfl) rfl (fun u1 H locs hp_1 hP hD hS => ?_)
  have hP : va_P D KL [(x, .inr (2, [.ref bx, .ref px, .ref t, .int (hak_filter r1 r2 r3 r4 f ak), .int su, .int gt, .int lf, .int rf, .int kn])), (bx, .inl (cI, 6, .inl (hf_filter r1 r2 r3 r4 f))), (px, .inl (cI, 2, .inl g)), (t, .inr (1, [.ref bt, .int 0, .int ml, .int cn])), (bt, .inl (cB, 16, .inl bs)), (o, .inr (4, [.int th, .ref bo, .ref po, .int ak', .int su', .int gt', .int lf', .int rf', .int kn'])), (bo, .inl (cI, 6, .inl h)), (po, .inl (cI, 2, .inl j)), (q, .inr (3, [.long (hn_filter r1 r2 r3 r4 f n0), sv]))] H := hP
  have hD : va_D (fun q => s.heap.size ≤ q) [(x, .inr (2, [.ref bx, .ref px, .ref t, .int (hak_filter r1 r2 r3 r4 f ak), .int su, .int gt, .int lf, .int rf, .int kn])), (bx, .inl (cI, 6, .inl (hf_filter r1 r2 r3 r4 f))), (px, .inl (cI, 2, .inl g)), (t, .inr (1, [.ref bt, .int 0, .int ml, .int cn])), (bt, .inl (cB, 16, .inl bs)), (o, .inr (4, [.int th, .ref bo, .ref po, .int ak', .int su', .int gt', .int lf', .int rf', .int kn'])), (bo, .inl (cI, 6, .inl h)), (po, .inl (cI, 2, .inl j)), (q, .inr (3, [.long (hn_filter r1 r2 r3 r4 f n0), sv]))] := hD
  refine W.eq (g2 := F0 m 565 ls [.int (hk_filter r1 r2 r3 r4)]) rfl ?_
  refine lv_istore (lv' := [(5, .int (hk_filter r1 r2 r3 r4)), (4, .int (nI i)), (3, .ref q), (2, .ref o), (1, .ref x), (0, .ref b)]) FX.1 FX.2.1 dL_law_565 hl (by decide) rfl (fun ls hl => ?_)
  refine lv_aload_n FX.1 FX.2.1 dL_law_567 rfl (lv_at hl 3 rfl) ?_
  refine p_rd (k := 1) (v := r1) FX hX hbl hbA hS (lv_at hl 5 rfl) (lv_at hl 1 rfl) dL_law_568 dL_law_569 dL_law_571 dL_law_572 dL_law_573 rfl hin1 ey1 ?_
  refine p_rd (k := 2) (v := r2) FX hX hbl hbA hS (lv_at hl 5 rfl) (lv_at hl 1 rfl) dL_law_574 dL_law_575 dL_law_577 dL_law_578 dL_law_579 rfl hin2 ey2 ?_
  refine p_rd (k := 3) (v := r3) FX hX hbl hbA hS (lv_at hl 5 rfl) (lv_at hl 1 rfl) dL_law_580 dL_law_581 dL_law_583 dL_law_584 dL_law_585 rfl hin3 ey3 ?_
  refine p_rd (k := 4) (v := r4) FX hX hbl hbA hS (lv_at hl 5 rfl) (lv_at hl 1 rfl) dL_law_586 dL_law_587 dL_law_589 dL_law_590 dL_law_591 rfl hin4 ey4 ?_
  obtain ⟨eT, eA, hI2⟩ := st_filter r1 r2 r3 r4 n0 hI
  refine c_WRV (wr := [(x, .inr (2, [.ref bx, .ref px, .ref t, .int (hak_filter r1 r2 r3 r4 f ak), .int su, .int gt, .int lf, .int rf, .int kn])), (bx, .inl (cI, 6, .inl (hf_filter r1 r2 r3 r4 f))), (px, .inl (cI, 2, .inl g)), (t, .inr (1, [.ref bt, .int 0, .int ml, .int cn])), (bt, .inl (cB, 16, .inl bs)), (q, .inr (3, [.long (hn_filter r1 r2 r3 r4 f n0), sv]))]) (wsN := [(x, .inr (2, [.ref bx, .ref px, .ref t, .int (hak_filter r1 r2 r3 r4 f ak), .int su, .int gt, .int lf, .int rf, .int kn])), (bx, .inl (cI, 6, .inl (hf_filter r1 r2 r3 r4 f))), (px, .inl (cI, 2, .inl g)), (t, .inr (1, [.ref bt, .int 0, .int ml, .int cn])), (bt, .inl (cB, 16, .inl bs)), (o, .inr (4, [.int (wth_X2_filter r1 r2 r3 r4), .ref bo, .ref po, .int (wak_X2_filter r1 r2 r3 r4 h ak'), .int su', .int gt', .int lf', .int rf', .int kn'])), (bo, .inl (cI, 6, .inl (wf_X2_filter r1 r2 r3 r4 h))), (po, .inl (cI, 2, .inl j)), (q, .inr (3, [.long (hn_filter r1 r2 r3 r4 f n0), sv]))]) (i0 := 5) (ci := 4) FX (k_X2_filter l D cI cB o bo po th h j ak' su' gt' lf' rf' kn' r1 r2 r3 r4) mi_X2_filter rfl ml_RL_182 (RMok.mk) hl.1 rfl (Nat.le_of_ble_eq_true rfl) dL_law_592 ⟨by omega, by omega⟩ hK hP hD hS hA [5, 6, 7] rfl [0, 1, 2, 3, 4, 8] rfl rfl (by decide) [0, 1, 2, 3, 4, 6, 7, 8, 5] rfl rfl rfl rfl rfl (fun H locs hP hD hS => ?_)
  refine lv_istore (lv' := [(6, .int (v_X2_filter r1 r2 r3 r4 h)), (5, .int (hk_filter r1 r2 r3 r4)), (4, .int (nI i)), (3, .ref q), (2, .ref o), (1, .ref x), (0, .ref b)]) FX.1 FX.2.1 dL_law_595 hl (by decide) rfl (fun ls hl => ?_)
  refine lv_goto (tgt := 1830) FX.1 FX.2.1 dL_law_597 (by decide) ?_
  refine W.widen (k := cc + 33) (n := ss + 321) (by omega) (by omega) ?_
  exact kk H locs (hf_filter r1 r2 r3 r4 f) g (hak_filter r1 r2 r3 r4 f ak) su gt lf rf kn ml cn bs (wth_X2_filter r1 r2 r3 r4) (wf_X2_filter r1 r2 r3 r4 h) j (wak_X2_filter r1 r2 r3 r4 h ak') su' gt' lf' rf' kn' (hn_filter r1 r2 r3 r4 f n0) sv ls hI2 hb hc hP hD hS (lv_sub hl [2, 3, 4, 5, 6] rfl)
set_option maxRecDepth 100000 in
set_option maxHeartbeats 4000000 in
theorem case_7 {p : Program} {l : Launch} {e : Env} {s : State} {m : MethodId} {below : List Frame} {meth : Method} {c : Code} (hl0 : l.stackTraces = false) (D : va_G) (cI cB : ClassId) (b L : Nat) (xs : Nat → Int32) (x bx px t bt o bo po q : Nat) (to tt : Nat) (go gu : Nat → Int32) (na nv : Nat) (nf : Nat → Int32) (nb nw : Nat) (nh : Nat → Int32) (ea ew : Nat) (ef : Nat → Int32) (i cc ss : Nat) (hi : i + 6 ≤ L) (hcc : cc + 33 ≤ room_1.cells) (hss : ss + 321 ≤ room_1.slots) (hL : L ≤ 3072) (FX : CallFix p m c cL_law 7 s #[.ref b] bigW RL) (hK : va_K D KL (TY cI cB) s) (hX : va_X b L xs s s.heap) (hbl : b < s.heap.size) (hz : zLaw to tt go gu na nv nf nb nw nh ea ew ef (fun q => s.heap.size ≤ q) s s.heap) (hfn : sb_Fit nf) (hfe : sb_Fit ef) (hnn : TL 4 nf nh) (kk : LGo p l e s m below meth c D cI cB b x bx px t bt o bo po q i 1830 (cc + 33) (ss + 321)) : LGo p l e s m below meth c D cI cB b x bx px t bt o bo po q i 600 cc ss := by
  intro H locs f g ak su gt lf rf kn ml cn bs th h j ak' su' gt' lf' rf' kn' n0 sv ls hI hb hc hP hD hS hl
  have hA : ∀ q : Nat, s.heap.size ≤ q → s.heap.size ≤ q := fun _ h => h
  have hbA : ¬ (fun q : Nat => s.heap.size ≤ q) b := Nat.not_le.mpr hbl
  obtain ⟨r1, ey1⟩ : ∃ y, xs (i + 1) = y := ⟨_, rfl⟩
  have hin1 : i + 1 < L ∧ L < 2 ^ 31 := ⟨by omega, by omega⟩
  obtain ⟨r2, ey2⟩ : ∃ y, xs (i + 2) = y := ⟨_, rfl⟩
  have hin2 : i + 2 < L ∧ L < 2 ^ 31 := ⟨by omega, by omega⟩
  obtain ⟨r3, ey3⟩ : ∃ y, xs (i + 3) = y := ⟨_, rfl⟩
  have hin3 : i + 3 < L ∧ L < 2 ^ 31 := ⟨by omega, by omega⟩
  have hl : lv_has ls 7 [(4, .int (nI i)), (3, .ref q), (2, .ref o), (1, .ref x), (0, .ref b)] := hl
  have hP : va_P D KL [(x, .inr (2, [.ref bx, .ref px, .ref t, .int ak, .int su, .int gt, .int lf, .int rf, .int kn])), (bx, .inl (cI, 6, .inl f)), (px, .inl (cI, 2, .inl g)), (t, .inr (1, [.ref bt, .int 0, .int ml, .int cn])), (bt, .inl (cB, 16, .inl bs)), (o, .inr (4, [.int th, .ref bo, .ref po, .int ak', .int su', .int gt', .int lf', .int rf', .int kn'])), (bo, .inl (cI, 6, .inl h)), (po, .inl (cI, 2, .inl j)), (q, .inr (3, [.long n0, sv]))] H := hP
  have hD : va_D (fun q => s.heap.size ≤ q) [(x, .inr (2, [.ref bx, .ref px, .ref t, .int ak, .int su, .int gt, .int lf, .int rf, .int kn])), (bx, .inl (cI, 6, .inl f)), (px, .inl (cI, 2, .inl g)), (t, .inr (1, [.ref bt, .int 0, .int ml, .int cn])), (bt, .inl (cB, 16, .inl bs)), (o, .inr (4, [.int th, .ref bo, .ref po, .int ak', .int su', .int gt', .int lf', .int rf', .int kn'])), (bo, .inl (cI, 6, .inl h)), (po, .inl (cI, 2, .inl j)), (q, .inr (3, [.long n0, sv]))] := hD
  refine lv_aload_n FX.1 FX.2.1 dL_law_600 rfl (lv_at hl 3 rfl) ?_
  refine p_rd (k := 1) (v := r1) FX hX hbl hbA hS (lv_at hl 4 rfl) (lv_at hl 0 rfl) dL_law_601 dL_law_602 dL_law_604 dL_law_605 dL_law_606 rfl hin1 ey1 ?_
  refine p_rd (k := 2) (v := r2) FX hX hbl hbA hS (lv_at hl 4 rfl) (lv_at hl 0 rfl) dL_law_607 dL_law_608 dL_law_610 dL_law_611 dL_law_612 rfl hin2 ey2 ?_
  refine p_rd (k := 3) (v := r3) FX hX hbl hbA hS (lv_at hl 4 rfl) (lv_at hl 0 rfl) dL_law_613 dL_law_614 dL_law_616 dL_law_617 dL_law_618 rfl hin3 ey3 ?_
  refine lv_aload_n FX.1 FX.2.1 dL_law_619 rfl (lv_at hl 1 rfl) ?_
  refine c_J (W0 := [(x, .inr (2, [.ref bx, .ref px, .ref t, .int ak, .int su, .int gt, .int lf, .int rf, .int kn])), (bx, .inl (cI, 6, .inl f)), (px, .inl (cI, 2, .inl g)), (q, .inr (3, [.long n0, sv]))]) (wr := [(t, .inr (1, [.ref bt, .int 0, .int ml, .int cn])), (bt, .inl (cB, 16, .inl bs)), (o, .inr (4, [.int th, .ref bo, .ref po, .int ak', .int su', .int gt', .int lf', .int rf', .int kn'])), (bo, .inl (cI, 6, .inl h)), (po, .inl (cI, 2, .inl j))]) (wsN := fun _ => [(x, .inr (2, [.ref bx, .ref px, .ref t, .int (hak_or r1 r2 r3 f ak), .int su, .int gt, .int lf, .int rf, .int kn])), (bx, .inl (cI, 6, .inl (hf_or r1 r2 r3 f))), (px, .inl (cI, 2, .inl g)), (t, .inr (1, [.ref bt, .int 0, .int ml, .int cn])), (bt, .inl (cB, 16, .inl bs)), (o, .inr (4, [.int th, .ref bo, .ref po, .int ak', .int su', .int gt', .int lf', .int rf', .int kn'])), (bo, .inl (cI, 6, .inl h)), (po, .inl (cI, 2, .inl j)), (q, .inr (3, [.long (hn_or r1 r2 r3 f n0), sv]))]) (vx_runSW FX ((j_L_or l hl0 D cI cB x bx px t f g ak su gt lf rf kn q n0 sv r1 r2 r3) H.size) (my_cwSW FX.2.2.2.2 mh_L_or ml_RL_183 (RMok.mk)) ⟨PJ.blind (zAnd_ok (zAnd_ok zz_ok zN_ok) zF_ok), fun U hU hW => ⟨rfl, my_preJ (zAnd_ok (zAnd_ok zz_ok zN_ok) zF_ok) ⟨hz.1.1, hz.1.2.1⟩ hS hA hK hP hD [0, 1, 2, 8] rfl rfl U hU hW⟩⟩ rfl rfl hl.1 rfl (lv_room (Nat.le_of_ble_eq_true rfl)) dL_law_620 ⟨by omega, by omega⟩) hP hD hS hA [0, 1, 2, 8] rfl [3, 4, 5, 6, 7] rfl (by decide) [5, 6, 7, 0, 1, 2, 3, 4, 8] (fun _ => rfl) rfl (fun u1 H locs hp_1 hP hD hS => ?_)
  have hP : va_P D KL [(x, .inr (2, [.ref bx, .ref px, .ref t, .int (hak_or r1 r2 r3 f ak), .int su, .int gt, .int lf, .int rf, .int kn])), (bx, .inl (cI, 6, .inl (hf_or r1 r2 r3 f))), (px, .inl (cI, 2, .inl g)), (t, .inr (1, [.ref bt, .int 0, .int ml, .int cn])), (bt, .inl (cB, 16, .inl bs)), (o, .inr (4, [.int th, .ref bo, .ref po, .int ak', .int su', .int gt', .int lf', .int rf', .int kn'])), (bo, .inl (cI, 6, .inl h)), (po, .inl (cI, 2, .inl j)), (q, .inr (3, [.long (hn_or r1 r2 r3 f n0), sv]))] H := hP
  have hD : va_D (fun q => s.heap.size ≤ q) [(x, .inr (2, [.ref bx, .ref px, .ref t, .int (hak_or r1 r2 r3 f ak), .int su, .int gt, .int lf, .int rf, .int kn])), (bx, .inl (cI, 6, .inl (hf_or r1 r2 r3 f))), (px, .inl (cI, 2, .inl g)), (t, .inr (1, [.ref bt, .int 0, .int ml, .int cn])), (bt, .inl (cB, 16, .inl bs)), (o, .inr (4, [.int th, .ref bo, .ref po, .int ak', .int su', .int gt', .int lf', .int rf', .int kn'])), (bo, .inl (cI, 6, .inl h)), (po, .inl (cI, 2, .inl j)), (q, .inr (3, [.long (hn_or r1 r2 r3 f n0), sv]))] := hD
  refine W.eq (g2 := F0 m 623 ls [.int (hk_or r1 r2 r3)]) rfl ?_
  refine lv_istore (lv' := [(5, .int (hk_or r1 r2 r3)), (4, .int (nI i)), (3, .ref q), (2, .ref o), (1, .ref x), (0, .ref b)]) FX.1 FX.2.1 dL_law_623 hl (by decide) rfl (fun ls hl => ?_)
  refine lv_aload_n FX.1 FX.2.1 dL_law_625 rfl (lv_at hl 3 rfl) ?_
  refine p_rd (k := 1) (v := r1) FX hX hbl hbA hS (lv_at hl 5 rfl) (lv_at hl 1 rfl) dL_law_626 dL_law_627 dL_law_629 dL_law_630 dL_law_631 rfl hin1 ey1 ?_
  refine p_rd (k := 2) (v := r2) FX hX hbl hbA hS (lv_at hl 5 rfl) (lv_at hl 1 rfl) dL_law_632 dL_law_633 dL_law_635 dL_law_636 dL_law_637 rfl hin2 ey2 ?_
  refine p_rd (k := 3) (v := r3) FX hX hbl hbA hS (lv_at hl 5 rfl) (lv_at hl 1 rfl) dL_law_638 dL_law_639 dL_law_641 dL_law_642 dL_law_643 rfl hin3 ey3 ?_
  obtain ⟨eT, eA, hI2⟩ := st_or r1 r2 r3 n0 hI
  refine c_WRV (wr := [(x, .inr (2, [.ref bx, .ref px, .ref t, .int (hak_or r1 r2 r3 f ak), .int su, .int gt, .int lf, .int rf, .int kn])), (bx, .inl (cI, 6, .inl (hf_or r1 r2 r3 f))), (px, .inl (cI, 2, .inl g)), (t, .inr (1, [.ref bt, .int 0, .int ml, .int cn])), (bt, .inl (cB, 16, .inl bs)), (q, .inr (3, [.long (hn_or r1 r2 r3 f n0), sv]))]) (wsN := [(x, .inr (2, [.ref bx, .ref px, .ref t, .int (hak_or r1 r2 r3 f ak), .int su, .int gt, .int lf, .int rf, .int kn])), (bx, .inl (cI, 6, .inl (hf_or r1 r2 r3 f))), (px, .inl (cI, 2, .inl g)), (t, .inr (1, [.ref bt, .int 0, .int ml, .int cn])), (bt, .inl (cB, 16, .inl bs)), (o, .inr (4, [.int (wth_X2_or r1 r2 r3), .ref bo, .ref po, .int (wak_X2_or r1 r2 r3 h ak'), .int su', .int gt', .int lf', .int rf', .int kn'])), (bo, .inl (cI, 6, .inl (wf_X2_or r1 r2 r3 h))), (po, .inl (cI, 2, .inl j)), (q, .inr (3, [.long (hn_or r1 r2 r3 f n0), sv]))]) (i0 := 5) (ci := 4) FX (k_X2_or l D cI cB o bo po th h j ak' su' gt' lf' rf' kn' r1 r2 r3) mi_X2_or rfl ml_RL_186 (RMok.mk) hl.1 rfl (Nat.le_of_ble_eq_true rfl) dL_law_644 ⟨by omega, by omega⟩ hK hP hD hS hA [5, 6, 7] rfl [0, 1, 2, 3, 4, 8] rfl rfl (by decide) [0, 1, 2, 3, 4, 6, 7, 8, 5] rfl rfl rfl rfl rfl (fun H locs hP hD hS => ?_)
  refine lv_istore (lv' := [(6, .int (v_X2_or r1 r2 r3 h)), (5, .int (hk_or r1 r2 r3)), (4, .int (nI i)), (3, .ref q), (2, .ref o), (1, .ref x), (0, .ref b)]) FX.1 FX.2.1 dL_law_647 hl (by decide) rfl (fun ls hl => ?_)
  refine lv_goto (tgt := 1830) FX.1 FX.2.1 dL_law_649 (by decide) ?_
  refine W.widen (k := cc + 33) (n := ss + 321) (by omega) (by omega) ?_
  exact kk H locs (hf_or r1 r2 r3 f) g (hak_or r1 r2 r3 f ak) su gt lf rf kn ml cn bs (wth_X2_or r1 r2 r3) (wf_X2_or r1 r2 r3 h) j (wak_X2_or r1 r2 r3 h ak') su' gt' lf' rf' kn' (hn_or r1 r2 r3 f n0) sv ls hI2 hb hc hP hD hS (lv_sub hl [2, 3, 4, 5, 6] rfl)
set_option maxRecDepth 100000 in
set_option maxHeartbeats 4000000 in
theorem case_8 {p : Program} {l : Launch} {e : Env} {s : State} {m : MethodId} {below : List Frame} {meth : Method} {c : Code} (hl0 : l.stackTraces = false) (D : va_G) (cI cB : ClassId) (b L : Nat) (xs : Nat → Int32) (x bx px t bt o bo po q : Nat) (to tt : Nat) (go gu : Nat → Int32) (na nv : Nat) (nf : Nat → Int32) (nb nw : Nat) (nh : Nat → Int32) (ea ew : Nat) (ef : Nat → Int32) (i cc ss : Nat) (hi : i + 6 ≤ L) (hcc : cc + 33 ≤ room_1.cells) (hss : ss + 321 ≤ room_1.slots) (hL : L ≤ 3072) (FX : CallFix p m c cL_law 7 s #[.ref b] bigW RL) (hK : va_K D KL (TY cI cB) s) (hX : va_X b L xs s s.heap) (hbl : b < s.heap.size) (hz : zLaw to tt go gu na nv nf nb nw nh ea ew ef (fun q => s.heap.size ≤ q) s s.heap) (hfn : sb_Fit nf) (hfe : sb_Fit ef) (hnn : TL 4 nf nh) (kk : LGo p l e s m below meth c D cI cB b x bx px t bt o bo po q i 1830 (cc + 33) (ss + 321)) : LGo p l e s m below meth c D cI cB b x bx px t bt o bo po q i 652 cc ss := by
  intro H locs f g ak su gt lf rf kn ml cn bs th h j ak' su' gt' lf' rf' kn' n0 sv ls hI hb hc hP hD hS hl
  have hA : ∀ q : Nat, s.heap.size ≤ q → s.heap.size ≤ q := fun _ h => h
  have hbA : ¬ (fun q : Nat => s.heap.size ≤ q) b := Nat.not_le.mpr hbl
  obtain ⟨r1, ey1⟩ : ∃ y, xs (i + 1) = y := ⟨_, rfl⟩
  have hin1 : i + 1 < L ∧ L < 2 ^ 31 := ⟨by omega, by omega⟩
  obtain ⟨r2, ey2⟩ : ∃ y, xs (i + 2) = y := ⟨_, rfl⟩
  have hin2 : i + 2 < L ∧ L < 2 ^ 31 := ⟨by omega, by omega⟩
  have hl : lv_has ls 7 [(4, .int (nI i)), (3, .ref q), (2, .ref o), (1, .ref x), (0, .ref b)] := hl
  have hP : va_P D KL [(x, .inr (2, [.ref bx, .ref px, .ref t, .int ak, .int su, .int gt, .int lf, .int rf, .int kn])), (bx, .inl (cI, 6, .inl f)), (px, .inl (cI, 2, .inl g)), (t, .inr (1, [.ref bt, .int 0, .int ml, .int cn])), (bt, .inl (cB, 16, .inl bs)), (o, .inr (4, [.int th, .ref bo, .ref po, .int ak', .int su', .int gt', .int lf', .int rf', .int kn'])), (bo, .inl (cI, 6, .inl h)), (po, .inl (cI, 2, .inl j)), (q, .inr (3, [.long n0, sv]))] H := hP
  have hD : va_D (fun q => s.heap.size ≤ q) [(x, .inr (2, [.ref bx, .ref px, .ref t, .int ak, .int su, .int gt, .int lf, .int rf, .int kn])), (bx, .inl (cI, 6, .inl f)), (px, .inl (cI, 2, .inl g)), (t, .inr (1, [.ref bt, .int 0, .int ml, .int cn])), (bt, .inl (cB, 16, .inl bs)), (o, .inr (4, [.int th, .ref bo, .ref po, .int ak', .int su', .int gt', .int lf', .int rf', .int kn'])), (bo, .inl (cI, 6, .inl h)), (po, .inl (cI, 2, .inl j)), (q, .inr (3, [.long n0, sv]))] := hD
  refine lv_aload_n FX.1 FX.2.1 dL_law_652 rfl (lv_at hl 3 rfl) ?_
  refine p_rd (k := 1) (v := r1) FX hX hbl hbA hS (lv_at hl 4 rfl) (lv_at hl 0 rfl) dL_law_653 dL_law_654 dL_law_656 dL_law_657 dL_law_658 rfl hin1 ey1 ?_
  refine p_rd (k := 2) (v := r2) FX hX hbl hbA hS (lv_at hl 4 rfl) (lv_at hl 0 rfl) dL_law_659 dL_law_660 dL_law_662 dL_law_663 dL_law_664 rfl hin2 ey2 ?_
  refine lv_aload_n FX.1 FX.2.1 dL_law_665 rfl (lv_at hl 1 rfl) ?_
  refine c_J (W0 := [(x, .inr (2, [.ref bx, .ref px, .ref t, .int ak, .int su, .int gt, .int lf, .int rf, .int kn])), (bx, .inl (cI, 6, .inl f)), (px, .inl (cI, 2, .inl g)), (q, .inr (3, [.long n0, sv]))]) (wr := [(t, .inr (1, [.ref bt, .int 0, .int ml, .int cn])), (bt, .inl (cB, 16, .inl bs)), (o, .inr (4, [.int th, .ref bo, .ref po, .int ak', .int su', .int gt', .int lf', .int rf', .int kn'])), (bo, .inl (cI, 6, .inl h)), (po, .inl (cI, 2, .inl j))]) (wsN := fun _ => [(x, .inr (2, [.ref bx, .ref px, .ref t, .int ak, .int su, .int gt, .int lf, .int rf, .int kn])), (bx, .inl (cI, 6, .inl (hf_wrap r1 r2 f))), (px, .inl (cI, 2, .inl g)), (t, .inr (1, [.ref bt, .int 0, .int ml, .int cn])), (bt, .inl (cB, 16, .inl bs)), (o, .inr (4, [.int th, .ref bo, .ref po, .int ak', .int su', .int gt', .int lf', .int rf', .int kn'])), (bo, .inl (cI, 6, .inl h)), (po, .inl (cI, 2, .inl j)), (q, .inr (3, [.long (hn_wrap r1 r2 f n0), sv]))]) (vx_runSW FX ((j_L_wrap l hl0 D cI cB x bx px t f g ak su gt lf rf kn q n0 sv r1 r2) H.size) (my_cwSW FX.2.2.2.2 mh_L_wrap ml_RL_187 (RMok.mk)) ⟨PJ.blind (zAnd_ok (zAnd_ok zz_ok zN_ok) zF_ok), fun U hU hW => ⟨rfl, my_preJ (zAnd_ok (zAnd_ok zz_ok zN_ok) zF_ok) ⟨hz.1.1, hz.1.2.1⟩ hS hA hK hP hD [0, 1, 2, 8] rfl rfl U hU hW⟩⟩ rfl rfl hl.1 rfl (lv_room (Nat.le_of_ble_eq_true rfl)) dL_law_666 ⟨by omega, by omega⟩) hP hD hS hA [0, 1, 2, 8] rfl [3, 4, 5, 6, 7] rfl (by decide) [5, 6, 7, 0, 1, 2, 3, 4, 8] (fun _ => rfl) rfl (fun u1 H locs hp_1 hP hD hS => ?_)
  have hP : va_P D KL [(x, .inr (2, [.ref bx, .ref px, .ref t, .int ak, .int su, .int gt, .int lf, .int rf, .int kn])), (bx, .inl (cI, 6, .inl (hf_wrap r1 r2 f))), (px, .inl (cI, 2, .inl g)), (t, .inr (1, [.ref bt, .int 0, .int ml, .int cn])), (bt, .inl (cB, 16, .inl bs)), (o, .inr (4, [.int th, .ref bo, .ref po, .int ak', .int su', .int gt', .int lf', .int rf', .int kn'])), (bo, .inl (cI, 6, .inl h)), (po, .inl (cI, 2, .inl j)), (q, .inr (3, [.long (hn_wrap r1 r2 f n0), sv]))] H := hP
  have hD : va_D (fun q => s.heap.size ≤ q) [(x, .inr (2, [.ref bx, .ref px, .ref t, .int ak, .int su, .int gt, .int lf, .int rf, .int kn])), (bx, .inl (cI, 6, .inl (hf_wrap r1 r2 f))), (px, .inl (cI, 2, .inl g)), (t, .inr (1, [.ref bt, .int 0, .int ml, .int cn])), (bt, .inl (cB, 16, .inl bs)), (o, .inr (4, [.int th, .ref bo, .ref po, .int ak', .int su', .int gt', .int lf', .int rf', .int kn'])), (bo, .inl (cI, 6, .inl h)), (po, .inl (cI, 2, .inl j)), (q, .inr (3, [.long (hn_wrap r1 r2 f n0), sv]))] := hD
  refine W.eq (g2 := F0 m 669 ls [.int (hk_wrap r1 r2)]) rfl ?_
  refine lv_istore (lv' := [(5, .int (hk_wrap r1 r2)), (4, .int (nI i)), (3, .ref q), (2, .ref o), (1, .ref x), (0, .ref b)]) FX.1 FX.2.1 dL_law_669 hl (by decide) rfl (fun ls hl => ?_)
  refine lv_aload_n FX.1 FX.2.1 dL_law_671 rfl (lv_at hl 3 rfl) ?_
  refine p_rd (k := 1) (v := r1) FX hX hbl hbA hS (lv_at hl 5 rfl) (lv_at hl 1 rfl) dL_law_672 dL_law_673 dL_law_675 dL_law_676 dL_law_677 rfl hin1 ey1 ?_
  refine p_rd (k := 2) (v := r2) FX hX hbl hbA hS (lv_at hl 5 rfl) (lv_at hl 1 rfl) dL_law_678 dL_law_679 dL_law_681 dL_law_682 dL_law_683 rfl hin2 ey2 ?_
  obtain ⟨eT, eA, hI2⟩ := st_wrap r1 r2 n0 hI
  refine c_WRV (wr := [(x, .inr (2, [.ref bx, .ref px, .ref t, .int ak, .int su, .int gt, .int lf, .int rf, .int kn])), (bx, .inl (cI, 6, .inl (hf_wrap r1 r2 f))), (px, .inl (cI, 2, .inl g)), (t, .inr (1, [.ref bt, .int 0, .int ml, .int cn])), (bt, .inl (cB, 16, .inl bs)), (q, .inr (3, [.long (hn_wrap r1 r2 f n0), sv]))]) (wsN := [(x, .inr (2, [.ref bx, .ref px, .ref t, .int ak, .int su, .int gt, .int lf, .int rf, .int kn])), (bx, .inl (cI, 6, .inl (hf_wrap r1 r2 f))), (px, .inl (cI, 2, .inl g)), (t, .inr (1, [.ref bt, .int 0, .int ml, .int cn])), (bt, .inl (cB, 16, .inl bs)), (o, .inr (4, [.int (wth_X2_wrap r1 r2), .ref bo, .ref po, .int ak', .int su', .int gt', .int lf', .int rf', .int kn'])), (bo, .inl (cI, 6, .inl (wf_X2_wrap r1 r2 h))), (po, .inl (cI, 2, .inl j)), (q, .inr (3, [.long (hn_wrap r1 r2 f n0), sv]))]) (i0 := 5) (ci := 4) FX (k_X2_wrap l D cI cB o bo po th h j ak' su' gt' lf' rf' kn' r1 r2) mi_X2_wrap rfl ml_RL_189 (RMok.mk) hl.1 rfl (Nat.le_of_ble_eq_true rfl) dL_law_684 ⟨by omega, by omega⟩ hK hP hD hS hA [5, 6, 7] rfl [0, 1, 2, 3, 4, 8] rfl rfl (by decide) [0, 1, 2, 3, 4, 6, 7, 8, 5] rfl rfl rfl rfl rfl (fun H locs hP hD hS => ?_)
  refine lv_istore (lv' := [(6, .int (v_X2_wrap r1 r2 h)), (5, .int (hk_wrap r1 r2)), (4, .int (nI i)), (3, .ref q), (2, .ref o), (1, .ref x), (0, .ref b)]) FX.1 FX.2.1 dL_law_687 hl (by decide) rfl (fun ls hl => ?_)
  refine lv_goto (tgt := 1830) FX.1 FX.2.1 dL_law_689 (by decide) ?_
  refine W.widen (k := cc + 33) (n := ss + 321) (by omega) (by omega) ?_
  exact kk H locs (hf_wrap r1 r2 f) g ak su gt lf rf kn ml cn bs (wth_X2_wrap r1 r2) (wf_X2_wrap r1 r2 h) j ak' su' gt' lf' rf' kn' (hn_wrap r1 r2 f n0) sv ls hI2 hb hc hP hD hS (lv_sub hl [2, 3, 4, 5, 6] rfl)
set_option maxRecDepth 100000 in
set_option maxHeartbeats 4000000 in
theorem case_9 {p : Program} {l : Launch} {e : Env} {s : State} {m : MethodId} {below : List Frame} {meth : Method} {c : Code} (hl0 : l.stackTraces = false) (D : va_G) (cI cB : ClassId) (b L : Nat) (xs : Nat → Int32) (x bx px t bt o bo po q : Nat) (to tt : Nat) (go gu : Nat → Int32) (na nv : Nat) (nf : Nat → Int32) (nb nw : Nat) (nh : Nat → Int32) (ea ew : Nat) (ef : Nat → Int32) (i cc ss : Nat) (hi : i + 6 ≤ L) (hcc : cc + 33 ≤ room_1.cells) (hss : ss + 321 ≤ room_1.slots) (hL : L ≤ 3072) (FX : CallFix p m c cL_law 7 s #[.ref b] bigW RL) (hK : va_K D KL (TY cI cB) s) (hX : va_X b L xs s s.heap) (hbl : b < s.heap.size) (hz : zLaw to tt go gu na nv nf nb nw nh ea ew ef (fun q => s.heap.size ≤ q) s s.heap) (hfn : sb_Fit nf) (hfe : sb_Fit ef) (hnn : TL 4 nf nh) (kk : LGo p l e s m below meth c D cI cB b x bx px t bt o bo po q i 1830 (cc + 33) (ss + 321)) : LGo p l e s m below meth c D cI cB b x bx px t bt o bo po q i 692 cc ss := by
  intro H locs f g ak su gt lf rf kn ml cn bs th h j ak' su' gt' lf' rf' kn' n0 sv ls hI hb hc hP hD hS hl
  have hA : ∀ q : Nat, s.heap.size ≤ q → s.heap.size ≤ q := fun _ h => h
  have hbA : ¬ (fun q : Nat => s.heap.size ≤ q) b := Nat.not_le.mpr hbl
  obtain ⟨r1, ey1⟩ : ∃ y, xs (i + 1) = y := ⟨_, rfl⟩
  have hin1 : i + 1 < L ∧ L < 2 ^ 31 := ⟨by omega, by omega⟩
  obtain ⟨r2, ey2⟩ : ∃ y, xs (i + 2) = y := ⟨_, rfl⟩
  have hin2 : i + 2 < L ∧ L < 2 ^ 31 := ⟨by omega, by omega⟩
  obtain ⟨r3, ey3⟩ : ∃ y, xs (i + 3) = y := ⟨_, rfl⟩
  have hin3 : i + 3 < L ∧ L < 2 ^ 31 := ⟨by omega, by omega⟩
  obtain ⟨r4, ey4⟩ : ∃ y, xs (i + 4) = y := ⟨_, rfl⟩
  have hin4 : i + 4 < L ∧ L < 2 ^ 31 := ⟨by omega, by omega⟩
  obtain ⟨r5, ey5⟩ : ∃ y, xs (i + 5) = y := ⟨_, rfl⟩
  have hin5 : i + 5 < L ∧ L < 2 ^ 31 := ⟨by omega, by omega⟩
  have hl : lv_has ls 7 [(4, .int (nI i)), (3, .ref q), (2, .ref o), (1, .ref x), (0, .ref b)] := hl
  have hP : va_P D KL [(x, .inr (2, [.ref bx, .ref px, .ref t, .int ak, .int su, .int gt, .int lf, .int rf, .int kn])), (bx, .inl (cI, 6, .inl f)), (px, .inl (cI, 2, .inl g)), (t, .inr (1, [.ref bt, .int 0, .int ml, .int cn])), (bt, .inl (cB, 16, .inl bs)), (o, .inr (4, [.int th, .ref bo, .ref po, .int ak', .int su', .int gt', .int lf', .int rf', .int kn'])), (bo, .inl (cI, 6, .inl h)), (po, .inl (cI, 2, .inl j)), (q, .inr (3, [.long n0, sv]))] H := hP
  have hD : va_D (fun q => s.heap.size ≤ q) [(x, .inr (2, [.ref bx, .ref px, .ref t, .int ak, .int su, .int gt, .int lf, .int rf, .int kn])), (bx, .inl (cI, 6, .inl f)), (px, .inl (cI, 2, .inl g)), (t, .inr (1, [.ref bt, .int 0, .int ml, .int cn])), (bt, .inl (cB, 16, .inl bs)), (o, .inr (4, [.int th, .ref bo, .ref po, .int ak', .int su', .int gt', .int lf', .int rf', .int kn'])), (bo, .inl (cI, 6, .inl h)), (po, .inl (cI, 2, .inl j)), (q, .inr (3, [.long n0, sv]))] := hD
  refine lv_aload_n FX.1 FX.2.1 dL_law_692 rfl (lv_at hl 3 rfl) ?_
  refine p_rd (k := 1) (v := r1) FX hX hbl hbA hS (lv_at hl 4 rfl) (lv_at hl 0 rfl) dL_law_693 dL_law_694 dL_law_696 dL_law_697 dL_law_698 rfl hin1 ey1 ?_
  refine p_rd (k := 2) (v := r2) FX hX hbl hbA hS (lv_at hl 4 rfl) (lv_at hl 0 rfl) dL_law_699 dL_law_700 dL_law_702 dL_law_703 dL_law_704 rfl hin2 ey2 ?_
  refine p_rd (k := 3) (v := r3) FX hX hbl hbA hS (lv_at hl 4 rfl) (lv_at hl 0 rfl) dL_law_705 dL_law_706 dL_law_708 dL_law_709 dL_law_710 rfl hin3 ey3 ?_
  refine p_rd (k := 4) (v := r4) FX hX hbl hbA hS (lv_at hl 4 rfl) (lv_at hl 0 rfl) dL_law_711 dL_law_712 dL_law_714 dL_law_715 dL_law_716 rfl hin4 ey4 ?_
  refine p_rd (k := 5) (v := r5) FX hX hbl hbA hS (lv_at hl 4 rfl) (lv_at hl 0 rfl) dL_law_717 dL_law_718 dL_law_720 dL_law_721 dL_law_722 rfl hin5 ey5 ?_
  refine lv_aload_n FX.1 FX.2.1 dL_law_723 rfl (lv_at hl 1 rfl) ?_
  refine c_J (W0 := [(x, .inr (2, [.ref bx, .ref px, .ref t, .int ak, .int su, .int gt, .int lf, .int rf, .int kn])), (bx, .inl (cI, 6, .inl f)), (px, .inl (cI, 2, .inl g)), (q, .inr (3, [.long n0, sv]))]) (wr := [(t, .inr (1, [.ref bt, .int 0, .int ml, .int cn])), (bt, .inl (cB, 16, .inl bs)), (o, .inr (4, [.int th, .ref bo, .ref po, .int ak', .int su', .int gt', .int lf', .int rf', .int kn'])), (bo, .inl (cI, 6, .inl h)), (po, .inl (cI, 2, .inl j))]) (wsN := fun _ => [(x, .inr (2, [.ref bx, .ref px, .ref t, .int (hak_both r1 r2 r3 r4 r5 f ak), .int su, .int gt, .int lf, .int rf, .int kn])), (bx, .inl (cI, 6, .inl (hf_both r1 r2 r3 r4 r5 f))), (px, .inl (cI, 2, .inl g)), (t, .inr (1, [.ref bt, .int 0, .int ml, .int cn])), (bt, .inl (cB, 16, .inl bs)), (o, .inr (4, [.int th, .ref bo, .ref po, .int ak', .int su', .int gt', .int lf', .int rf', .int kn'])), (bo, .inl (cI, 6, .inl h)), (po, .inl (cI, 2, .inl j)), (q, .inr (3, [.long (hn_both r1 r2 r3 r4 r5 f n0), sv]))]) (vx_runSW FX ((j_L_both l hl0 D cI cB x bx px t f g ak su gt lf rf kn q n0 sv r1 r2 r3 r4 r5) H.size) (my_cwSW FX.2.2.2.2 mh_L_both ml_RL_190 (RMok.mk)) ⟨PJ.blind (zAnd_ok (zAnd_ok zz_ok zN_ok) zF_ok), fun U hU hW => ⟨rfl, my_preJ (zAnd_ok (zAnd_ok zz_ok zN_ok) zF_ok) ⟨hz.1.1, hz.1.2.1⟩ hS hA hK hP hD [0, 1, 2, 8] rfl rfl U hU hW⟩⟩ rfl rfl hl.1 rfl (lv_room (Nat.le_of_ble_eq_true rfl)) dL_law_724 ⟨by omega, by omega⟩) hP hD hS hA [0, 1, 2, 8] rfl [3, 4, 5, 6, 7] rfl (by decide) [5, 6, 7, 0, 1, 2, 3, 4, 8] (fun _ => rfl) rfl (fun u1 H locs hp_1 hP hD hS => ?_)
  have hP : va_P D KL [(x, .inr (2, [.ref bx, .ref px, .ref t, .int (hak_both r1 r2 r3 r4 r5 f ak), .int su, .int gt, .int lf, .int rf, .int kn])), (bx, .inl (cI, 6, .inl (hf_both r1 r2 r3 r4 r5 f))), (px, .inl (cI, 2, .inl g)), (t, .inr (1, [.ref bt, .int 0, .int ml, .int cn])), (bt, .inl (cB, 16, .inl bs)), (o, .inr (4, [.int th, .ref bo, .ref po, .int ak', .int su', .int gt', .int lf', .int rf', .int kn'])), (bo, .inl (cI, 6, .inl h)), (po, .inl (cI, 2, .inl j)), (q, .inr (3, [.long (hn_both r1 r2 r3 r4 r5 f n0), sv]))] H := hP
  have hD : va_D (fun q => s.heap.size ≤ q) [(x, .inr (2, [.ref bx, .ref px, .ref t, .int (hak_both r1 r2 r3 r4 r5 f ak), .int su, .int gt, .int lf, .int rf, .int kn])), (bx, .inl (cI, 6, .inl (hf_both r1 r2 r3 r4 r5 f))), (px, .inl (cI, 2, .inl g)), (t, .inr (1, [.ref bt, .int 0, .int ml, .int cn])), (bt, .inl (cB, 16, .inl bs)), (o, .inr (4, [.int th, .ref bo, .ref po, .int ak', .int su', .int gt', .int lf', .int rf', .int kn'])), (bo, .inl (cI, 6, .inl h)), (po, .inl (cI, 2, .inl j)), (q, .inr (3, [.long (hn_both r1 r2 r3 r4 r5 f n0), sv]))] := hD
  refine W.eq (g2 := F0 m 727 ls [.int (hk_both r1 r2 r3 r4 r5)]) rfl ?_
  refine lv_istore (lv' := [(5, .int (hk_both r1 r2 r3 r4 r5)), (4, .int (nI i)), (3, .ref q), (2, .ref o), (1, .ref x), (0, .ref b)]) FX.1 FX.2.1 dL_law_727 hl (by decide) rfl (fun ls hl => ?_)
  refine lv_aload_n FX.1 FX.2.1 dL_law_729 rfl (lv_at hl 3 rfl) ?_
  refine p_rd (k := 1) (v := r1) FX hX hbl hbA hS (lv_at hl 5 rfl) (lv_at hl 1 rfl) dL_law_730 dL_law_731 dL_law_733 dL_law_734 dL_law_735 rfl hin1 ey1 ?_
  refine p_rd (k := 2) (v := r2) FX hX hbl hbA hS (lv_at hl 5 rfl) (lv_at hl 1 rfl) dL_law_736 dL_law_737 dL_law_739 dL_law_740 dL_law_741 rfl hin2 ey2 ?_
  refine p_rd (k := 3) (v := r3) FX hX hbl hbA hS (lv_at hl 5 rfl) (lv_at hl 1 rfl) dL_law_742 dL_law_743 dL_law_745 dL_law_746 dL_law_747 rfl hin3 ey3 ?_
  refine p_rd (k := 4) (v := r4) FX hX hbl hbA hS (lv_at hl 5 rfl) (lv_at hl 1 rfl) dL_law_748 dL_law_749 dL_law_751 dL_law_752 dL_law_753 rfl hin4 ey4 ?_
  refine p_rd (k := 5) (v := r5) FX hX hbl hbA hS (lv_at hl 5 rfl) (lv_at hl 1 rfl) dL_law_754 dL_law_755 dL_law_757 dL_law_758 dL_law_759 rfl hin5 ey5 ?_
  obtain ⟨eT, eA, hI2⟩ := st_both r1 r2 r3 r4 r5 n0 hI
  refine c_WRV (wr := [(x, .inr (2, [.ref bx, .ref px, .ref t, .int (hak_both r1 r2 r3 r4 r5 f ak), .int su, .int gt, .int lf, .int rf, .int kn])), (bx, .inl (cI, 6, .inl (hf_both r1 r2 r3 r4 r5 f))), (px, .inl (cI, 2, .inl g)), (t, .inr (1, [.ref bt, .int 0, .int ml, .int cn])), (bt, .inl (cB, 16, .inl bs)), (q, .inr (3, [.long (hn_both r1 r2 r3 r4 r5 f n0), sv]))]) (wsN := [(x, .inr (2, [.ref bx, .ref px, .ref t, .int (hak_both r1 r2 r3 r4 r5 f ak), .int su, .int gt, .int lf, .int rf, .int kn])), (bx, .inl (cI, 6, .inl (hf_both r1 r2 r3 r4 r5 f))), (px, .inl (cI, 2, .inl g)), (t, .inr (1, [.ref bt, .int 0, .int ml, .int cn])), (bt, .inl (cB, 16, .inl bs)), (o, .inr (4, [.int (wth_X2_both r1 r2 r3 r4 r5), .ref bo, .ref po, .int (wak_X2_both r1 r2 r3 r4 r5 h ak'), .int su', .int gt', .int lf', .int rf', .int kn'])), (bo, .inl (cI, 6, .inl (wf_X2_both r1 r2 r3 r4 r5 h))), (po, .inl (cI, 2, .inl j)), (q, .inr (3, [.long (hn_both r1 r2 r3 r4 r5 f n0), sv]))]) (i0 := 5) (ci := 4) FX (k_X2_both l D cI cB o bo po th h j ak' su' gt' lf' rf' kn' r1 r2 r3 r4 r5) mi_X2_both rfl ml_RL_193 (RMok.mk) hl.1 rfl (Nat.le_of_ble_eq_true rfl) dL_law_760 ⟨by omega, by omega⟩ hK hP hD hS hA [5, 6, 7] rfl [0, 1, 2, 3, 4, 8] rfl rfl (by decide) [0, 1, 2, 3, 4, 6, 7, 8, 5] rfl rfl rfl rfl rfl (fun H locs hP hD hS => ?_)
  refine lv_istore (lv' := [(6, .int (v_X2_both r1 r2 r3 r4 r5 h)), (5, .int (hk_both r1 r2 r3 r4 r5)), (4, .int (nI i)), (3, .ref q), (2, .ref o), (1, .ref x), (0, .ref b)]) FX.1 FX.2.1 dL_law_763 hl (by decide) rfl (fun ls hl => ?_)
  refine lv_goto (tgt := 1830) FX.1 FX.2.1 dL_law_765 (by decide) ?_
  refine W.widen (k := cc + 33) (n := ss + 321) (by omega) (by omega) ?_
  exact kk H locs (hf_both r1 r2 r3 r4 r5 f) g (hak_both r1 r2 r3 r4 r5 f ak) su gt lf rf kn ml cn bs (wth_X2_both r1 r2 r3 r4 r5) (wf_X2_both r1 r2 r3 r4 r5 h) j (wak_X2_both r1 r2 r3 r4 r5 h ak') su' gt' lf' rf' kn' (hn_both r1 r2 r3 r4 r5 f n0) sv ls hI2 hb hc hP hD hS (lv_sub hl [2, 3, 4, 5, 6] rfl)
set_option maxRecDepth 100000 in
set_option maxHeartbeats 4000000 in
theorem case_10 {p : Program} {l : Launch} {e : Env} {s : State} {m : MethodId} {below : List Frame} {meth : Method} {c : Code} (hl0 : l.stackTraces = false) (D : va_G) (cI cB : ClassId) (b L : Nat) (xs : Nat → Int32) (x bx px t bt o bo po q : Nat) (to tt : Nat) (go gu : Nat → Int32) (na nv : Nat) (nf : Nat → Int32) (nb nw : Nat) (nh : Nat → Int32) (ea ew : Nat) (ef : Nat → Int32) (i cc ss : Nat) (hi : i + 6 ≤ L) (hcc : cc + 33 ≤ room_1.cells) (hss : ss + 321 ≤ room_1.slots) (hL : L ≤ 3072) (FX : CallFix p m c cL_law 7 s #[.ref b] bigW RL) (hK : va_K D KL (TY cI cB) s) (hX : va_X b L xs s s.heap) (hbl : b < s.heap.size) (hz : zLaw to tt go gu na nv nf nb nw nh ea ew ef (fun q => s.heap.size ≤ q) s s.heap) (hfn : sb_Fit nf) (hfe : sb_Fit ef) (hnn : TL 4 nf nh) (kk : LGo p l e s m below meth c D cI cB b x bx px t bt o bo po q i 1830 (cc + 33) (ss + 321)) : LGo p l e s m below meth c D cI cB b x bx px t bt o bo po q i 768 cc ss := by
  intro H locs f g ak su gt lf rf kn ml cn bs th h j ak' su' gt' lf' rf' kn' n0 sv ls hI hb hc hP hD hS hl
  have hA : ∀ q : Nat, s.heap.size ≤ q → s.heap.size ≤ q := fun _ h => h
  have hbA : ¬ (fun q : Nat => s.heap.size ≤ q) b := Nat.not_le.mpr hbl
  obtain ⟨r1, ey1⟩ : ∃ y, xs (i + 1) = y := ⟨_, rfl⟩
  have hin1 : i + 1 < L ∧ L < 2 ^ 31 := ⟨by omega, by omega⟩
  have hl : lv_has ls 7 [(4, .int (nI i)), (3, .ref q), (2, .ref o), (1, .ref x), (0, .ref b)] := hl
  have hP : va_P D KL [(x, .inr (2, [.ref bx, .ref px, .ref t, .int ak, .int su, .int gt, .int lf, .int rf, .int kn])), (bx, .inl (cI, 6, .inl f)), (px, .inl (cI, 2, .inl g)), (t, .inr (1, [.ref bt, .int 0, .int ml, .int cn])), (bt, .inl (cB, 16, .inl bs)), (o, .inr (4, [.int th, .ref bo, .ref po, .int ak', .int su', .int gt', .int lf', .int rf', .int kn'])), (bo, .inl (cI, 6, .inl h)), (po, .inl (cI, 2, .inl j)), (q, .inr (3, [.long n0, sv]))] H := hP
  have hD : va_D (fun q => s.heap.size ≤ q) [(x, .inr (2, [.ref bx, .ref px, .ref t, .int ak, .int su, .int gt, .int lf, .int rf, .int kn])), (bx, .inl (cI, 6, .inl f)), (px, .inl (cI, 2, .inl g)), (t, .inr (1, [.ref bt, .int 0, .int ml, .int cn])), (bt, .inl (cB, 16, .inl bs)), (o, .inr (4, [.int th, .ref bo, .ref po, .int ak', .int su', .int gt', .int lf', .int rf', .int kn'])), (bo, .inl (cI, 6, .inl h)), (po, .inl (cI, 2, .inl j)), (q, .inr (3, [.long n0, sv]))] := hD
  refine lv_aload_n FX.1 FX.2.1 dL_law_768 rfl (lv_at hl 3 rfl) ?_
  refine p_rd (k := 1) (v := r1) FX hX hbl hbA hS (lv_at hl 4 rfl) (lv_at hl 0 rfl) dL_law_769 dL_law_770 dL_law_772 dL_law_773 dL_law_774 rfl hin1 ey1 ?_
  refine lv_aload_n FX.1 FX.2.1 dL_law_775 rfl (lv_at hl 1 rfl) ?_
  refine c_J (W0 := [(x, .inr (2, [.ref bx, .ref px, .ref t, .int ak, .int su, .int gt, .int lf, .int rf, .int kn])), (bx, .inl (cI, 6, .inl f)), (px, .inl (cI, 2, .inl g)), (q, .inr (3, [.long n0, sv]))]) (wr := [(t, .inr (1, [.ref bt, .int 0, .int ml, .int cn])), (bt, .inl (cB, 16, .inl bs)), (o, .inr (4, [.int th, .ref bo, .ref po, .int ak', .int su', .int gt', .int lf', .int rf', .int kn'])), (bo, .inl (cI, 6, .inl h)), (po, .inl (cI, 2, .inl j))]) (wsN := fun _ => [(x, .inr (2, [.ref bx, .ref px, .ref t, .int (hak_take r1 f ak), .int (hsu_take r1 f su), .int (hgt_take r1 f gt), .int lf, .int rf, .int kn])), (bx, .inl (cI, 6, .inl f)), (px, .inl (cI, 2, .inl g)), (t, .inr (1, [.ref bt, .int 0, .int ml, .int cn])), (bt, .inl (cB, 16, .inl bs)), (o, .inr (4, [.int th, .ref bo, .ref po, .int ak', .int su', .int gt', .int lf', .int rf', .int kn'])), (bo, .inl (cI, 6, .inl h)), (po, .inl (cI, 2, .inl j)), (q, .inr (3, [.long (hn_take r1 f su n0), sv]))]) (vx_runSW FX ((j_L_take l hl0 D cI cB x bx px t f g ak su gt lf rf kn q n0 sv r1) H.size) (my_cwSW FX.2.2.2.2 mh_L_take ml_RL_194 (RMok.mk)) ⟨PJ.blind (zAnd_ok (zAnd_ok zz_ok zN_ok) zF_ok), fun U hU hW => ⟨rfl, my_preJ (zAnd_ok (zAnd_ok zz_ok zN_ok) zF_ok) ⟨hz.1.1, hz.1.2.1⟩ hS hA hK hP hD [0, 1, 2, 8] rfl rfl U hU hW⟩⟩ rfl rfl hl.1 rfl (lv_room (Nat.le_of_ble_eq_true rfl)) dL_law_776 ⟨by omega, by omega⟩) hP hD hS hA [0, 1, 2, 8] rfl [3, 4, 5, 6, 7] rfl (by decide) [5, 6, 7, 0, 1, 2, 3, 4, 8] (fun _ => rfl) rfl (fun u1 H locs hp_1 hP hD hS => ?_)
  have hP : va_P D KL [(x, .inr (2, [.ref bx, .ref px, .ref t, .int (hak_take r1 f ak), .int (hsu_take r1 f su), .int (hgt_take r1 f gt), .int lf, .int rf, .int kn])), (bx, .inl (cI, 6, .inl f)), (px, .inl (cI, 2, .inl g)), (t, .inr (1, [.ref bt, .int 0, .int ml, .int cn])), (bt, .inl (cB, 16, .inl bs)), (o, .inr (4, [.int th, .ref bo, .ref po, .int ak', .int su', .int gt', .int lf', .int rf', .int kn'])), (bo, .inl (cI, 6, .inl h)), (po, .inl (cI, 2, .inl j)), (q, .inr (3, [.long (hn_take r1 f su n0), sv]))] H := hP
  have hD : va_D (fun q => s.heap.size ≤ q) [(x, .inr (2, [.ref bx, .ref px, .ref t, .int (hak_take r1 f ak), .int (hsu_take r1 f su), .int (hgt_take r1 f gt), .int lf, .int rf, .int kn])), (bx, .inl (cI, 6, .inl f)), (px, .inl (cI, 2, .inl g)), (t, .inr (1, [.ref bt, .int 0, .int ml, .int cn])), (bt, .inl (cB, 16, .inl bs)), (o, .inr (4, [.int th, .ref bo, .ref po, .int ak', .int su', .int gt', .int lf', .int rf', .int kn'])), (bo, .inl (cI, 6, .inl h)), (po, .inl (cI, 2, .inl j)), (q, .inr (3, [.long (hn_take r1 f su n0), sv]))] := hD
  refine W.eq (g2 := F0 m 779 ls [.int (hk_take r1)]) rfl ?_
  refine lv_istore (lv' := [(5, .int (hk_take r1)), (4, .int (nI i)), (3, .ref q), (2, .ref o), (1, .ref x), (0, .ref b)]) FX.1 FX.2.1 dL_law_779 hl (by decide) rfl (fun ls hl => ?_)
  refine lv_aload_n FX.1 FX.2.1 dL_law_781 rfl (lv_at hl 3 rfl) ?_
  refine p_rd (k := 1) (v := r1) FX hX hbl hbA hS (lv_at hl 5 rfl) (lv_at hl 1 rfl) dL_law_782 dL_law_783 dL_law_785 dL_law_786 dL_law_787 rfl hin1 ey1 ?_
  obtain ⟨eT, eA, hI2⟩ := st_take r1 n0 hI
  refine c_WRV (wr := [(x, .inr (2, [.ref bx, .ref px, .ref t, .int (hak_take r1 f ak), .int (hsu_take r1 f su), .int (hgt_take r1 f gt), .int lf, .int rf, .int kn])), (bx, .inl (cI, 6, .inl f)), (px, .inl (cI, 2, .inl g)), (t, .inr (1, [.ref bt, .int 0, .int ml, .int cn])), (bt, .inl (cB, 16, .inl bs)), (q, .inr (3, [.long (hn_take r1 f su n0), sv]))]) (wsN := [(x, .inr (2, [.ref bx, .ref px, .ref t, .int (hak_take r1 f ak), .int (hsu_take r1 f su), .int (hgt_take r1 f gt), .int lf, .int rf, .int kn])), (bx, .inl (cI, 6, .inl f)), (px, .inl (cI, 2, .inl g)), (t, .inr (1, [.ref bt, .int 0, .int ml, .int cn])), (bt, .inl (cB, 16, .inl bs)), (o, .inr (4, [.int (wth_X2_take r1), .ref bo, .ref po, .int (wak_X2_take r1 h ak'), .int (wsu_X2_take r1 h su'), .int (wgt_X2_take r1 h gt'), .int lf', .int rf', .int kn'])), (bo, .inl (cI, 6, .inl h)), (po, .inl (cI, 2, .inl j)), (q, .inr (3, [.long (hn_take r1 f su n0), sv]))]) (i0 := 5) (ci := 4) FX (k_X2_take l D cI cB o bo po th h j ak' su' gt' lf' rf' kn' r1) mi_X2_take rfl ml_RL_196 (RMok.mk) hl.1 rfl (Nat.le_of_ble_eq_true rfl) dL_law_788 ⟨by omega, by omega⟩ hK hP hD hS hA [5, 6, 7] rfl [0, 1, 2, 3, 4, 8] rfl rfl (by decide) [0, 1, 2, 3, 4, 6, 7, 8, 5] rfl rfl rfl rfl rfl (fun H locs hP hD hS => ?_)
  refine lv_istore (lv' := [(6, .int (v_X2_take r1 h su')), (5, .int (hk_take r1)), (4, .int (nI i)), (3, .ref q), (2, .ref o), (1, .ref x), (0, .ref b)]) FX.1 FX.2.1 dL_law_791 hl (by decide) rfl (fun ls hl => ?_)
  refine lv_goto (tgt := 1830) FX.1 FX.2.1 dL_law_793 (by decide) ?_
  refine W.widen (k := cc + 33) (n := ss + 321) (by omega) (by omega) ?_
  exact kk H locs f g (hak_take r1 f ak) (hsu_take r1 f su) (hgt_take r1 f gt) lf rf kn ml cn bs (wth_X2_take r1) h j (wak_X2_take r1 h ak') (wsu_X2_take r1 h su') (wgt_X2_take r1 h gt') lf' rf' kn' (hn_take r1 f su n0) sv ls hI2 hb hc hP hD hS (lv_sub hl [2, 3, 4, 5, 6] rfl)
set_option maxRecDepth 100000 in
set_option maxHeartbeats 4000000 in
theorem case_11 {p : Program} {l : Launch} {e : Env} {s : State} {m : MethodId} {below : List Frame} {meth : Method} {c : Code} (hl0 : l.stackTraces = false) (D : va_G) (cI cB : ClassId) (b L : Nat) (xs : Nat → Int32) (x bx px t bt o bo po q : Nat) (to tt : Nat) (go gu : Nat → Int32) (na nv : Nat) (nf : Nat → Int32) (nb nw : Nat) (nh : Nat → Int32) (ea ew : Nat) (ef : Nat → Int32) (i cc ss : Nat) (hi : i + 6 ≤ L) (hcc : cc + 33 ≤ room_1.cells) (hss : ss + 321 ≤ room_1.slots) (hL : L ≤ 3072) (FX : CallFix p m c cL_law 7 s #[.ref b] bigW RL) (hK : va_K D KL (TY cI cB) s) (hX : va_X b L xs s s.heap) (hbl : b < s.heap.size) (hz : zLaw to tt go gu na nv nf nb nw nh ea ew ef (fun q => s.heap.size ≤ q) s s.heap) (hfn : sb_Fit nf) (hfe : sb_Fit ef) (hnn : TL 4 nf nh) (kk : LGo p l e s m below meth c D cI cB b x bx px t bt o bo po q i 1830 (cc + 33) (ss + 321)) : LGo p l e s m below meth c D cI cB b x bx px t bt o bo po q i 796 cc ss := by
  intro H locs f g ak su gt lf rf kn ml cn bs th h j ak' su' gt' lf' rf' kn' n0 sv ls hI hb hc hP hD hS hl
  have hA : ∀ q : Nat, s.heap.size ≤ q → s.heap.size ≤ q := fun _ h => h
  have hbA : ¬ (fun q : Nat => s.heap.size ≤ q) b := Nat.not_le.mpr hbl
  obtain ⟨r1, ey1⟩ : ∃ y, xs (i + 1) = y := ⟨_, rfl⟩
  have hin1 : i + 1 < L ∧ L < 2 ^ 31 := ⟨by omega, by omega⟩
  have hl : lv_has ls 7 [(4, .int (nI i)), (3, .ref q), (2, .ref o), (1, .ref x), (0, .ref b)] := hl
  have hP : va_P D KL [(x, .inr (2, [.ref bx, .ref px, .ref t, .int ak, .int su, .int gt, .int lf, .int rf, .int kn])), (bx, .inl (cI, 6, .inl f)), (px, .inl (cI, 2, .inl g)), (t, .inr (1, [.ref bt, .int 0, .int ml, .int cn])), (bt, .inl (cB, 16, .inl bs)), (o, .inr (4, [.int th, .ref bo, .ref po, .int ak', .int su', .int gt', .int lf', .int rf', .int kn'])), (bo, .inl (cI, 6, .inl h)), (po, .inl (cI, 2, .inl j)), (q, .inr (3, [.long n0, sv]))] H := hP
  have hD : va_D (fun q => s.heap.size ≤ q) [(x, .inr (2, [.ref bx, .ref px, .ref t, .int ak, .int su, .int gt, .int lf, .int rf, .int kn])), (bx, .inl (cI, 6, .inl f)), (px, .inl (cI, 2, .inl g)), (t, .inr (1, [.ref bt, .int 0, .int ml, .int cn])), (bt, .inl (cB, 16, .inl bs)), (o, .inr (4, [.int th, .ref bo, .ref po, .int ak', .int su', .int gt', .int lf', .int rf', .int kn'])), (bo, .inl (cI, 6, .inl h)), (po, .inl (cI, 2, .inl j)), (q, .inr (3, [.long n0, sv]))] := hD
  refine lv_aload_n FX.1 FX.2.1 dL_law_796 rfl (lv_at hl 3 rfl) ?_
  refine p_rd (k := 1) (v := r1) FX hX hbl hbA hS (lv_at hl 4 rfl) (lv_at hl 0 rfl) dL_law_797 dL_law_798 dL_law_800 dL_law_801 dL_law_802 rfl hin1 ey1 ?_
  refine lv_aload_n FX.1 FX.2.1 dL_law_803 rfl (lv_at hl 1 rfl) ?_
  refine c_J (W0 := [(x, .inr (2, [.ref bx, .ref px, .ref t, .int ak, .int su, .int gt, .int lf, .int rf, .int kn])), (bx, .inl (cI, 6, .inl f)), (px, .inl (cI, 2, .inl g)), (q, .inr (3, [.long n0, sv]))]) (wr := [(t, .inr (1, [.ref bt, .int 0, .int ml, .int cn])), (bt, .inl (cB, 16, .inl bs)), (o, .inr (4, [.int th, .ref bo, .ref po, .int ak', .int su', .int gt', .int lf', .int rf', .int kn'])), (bo, .inl (cI, 6, .inl h)), (po, .inl (cI, 2, .inl j))]) (wsN := fun _ => [(x, .inr (2, [.ref bx, .ref px, .ref t, .int (hak_takeOrLeave r1 f ak), .int (hsu_takeOrLeave r1 f su), .int (hgt_takeOrLeave r1 f gt), .int (hlf_takeOrLeave r1 f lf), .int rf, .int kn])), (bx, .inl (cI, 6, .inl f)), (px, .inl (cI, 2, .inl g)), (t, .inr (1, [.ref bt, .int 0, .int ml, .int cn])), (bt, .inl (cB, 16, .inl bs)), (o, .inr (4, [.int th, .ref bo, .ref po, .int ak', .int su', .int gt', .int lf', .int rf', .int kn'])), (bo, .inl (cI, 6, .inl h)), (po, .inl (cI, 2, .inl j)), (q, .inr (3, [.long (hn_takeOrLeave r1 f su n0), sv]))]) (vx_runSW FX ((j_L_takeOrLeave l hl0 D cI cB x bx px t f g ak su gt lf rf kn q n0 sv r1) H.size) (my_cwSW FX.2.2.2.2 mh_L_takeOrLeave ml_RL_197 (RMok.mk)) ⟨PJ.blind (zAnd_ok (zAnd_ok zz_ok zN_ok) zF_ok), fun U hU hW => ⟨rfl, my_preJ (zAnd_ok (zAnd_ok zz_ok zN_ok) zF_ok) ⟨hz.1.1, hz.1.2.1⟩ hS hA hK hP hD [0, 1, 2, 8] rfl rfl U hU hW⟩⟩ rfl rfl hl.1 rfl (lv_room (Nat.le_of_ble_eq_true rfl)) dL_law_804 ⟨by omega, by omega⟩) hP hD hS hA [0, 1, 2, 8] rfl [3, 4, 5, 6, 7] rfl (by decide) [5, 6, 7, 0, 1, 2, 3, 4, 8] (fun _ => rfl) rfl (fun u1 H locs hp_1 hP hD hS => ?_)
  have hP : va_P D KL [(x, .inr (2, [.ref bx, .ref px, .ref t, .int (hak_takeOrLeave r1 f ak), .int (hsu_takeOrLeave r1 f su), .int (hgt_takeOrLeave r1 f gt), .int (hlf_takeOrLeave r1 f lf), .int rf, .int kn])), (bx, .inl (cI, 6, .inl f)), (px, .inl (cI, 2, .inl g)), (t, .inr (1, [.ref bt, .int 0, .int ml, .int cn])), (bt, .inl (cB, 16, .inl bs)), (o, .inr (4, [.int th, .ref bo, .ref po, .int ak', .int su', .int gt', .int lf', .int rf', .int kn'])), (bo, .inl (cI, 6, .inl h)), (po, .inl (cI, 2, .inl j)), (q, .inr (3, [.long (hn_takeOrLeave r1 f su n0), sv]))] H := hP
  have hD : va_D (fun q => s.heap.size ≤ q) [(x, .inr (2, [.ref bx, .ref px, .ref t, .int (hak_takeOrLeave r1 f ak), .int (hsu_takeOrLeave r1 f su), .int (hgt_takeOrLeave r1 f gt), .int (hlf_takeOrLeave r1 f lf), .int rf, .int kn])), (bx, .inl (cI, 6, .inl f)), (px, .inl (cI, 2, .inl g)), (t, .inr (1, [.ref bt, .int 0, .int ml, .int cn])), (bt, .inl (cB, 16, .inl bs)), (o, .inr (4, [.int th, .ref bo, .ref po, .int ak', .int su', .int gt', .int lf', .int rf', .int kn'])), (bo, .inl (cI, 6, .inl h)), (po, .inl (cI, 2, .inl j)), (q, .inr (3, [.long (hn_takeOrLeave r1 f su n0), sv]))] := hD
  refine W.eq (g2 := F0 m 807 ls [.int (hk_takeOrLeave r1)]) rfl ?_
  refine lv_istore (lv' := [(5, .int (hk_takeOrLeave r1)), (4, .int (nI i)), (3, .ref q), (2, .ref o), (1, .ref x), (0, .ref b)]) FX.1 FX.2.1 dL_law_807 hl (by decide) rfl (fun ls hl => ?_)
  refine lv_aload_n FX.1 FX.2.1 dL_law_809 rfl (lv_at hl 3 rfl) ?_
  refine p_rd (k := 1) (v := r1) FX hX hbl hbA hS (lv_at hl 5 rfl) (lv_at hl 1 rfl) dL_law_810 dL_law_811 dL_law_813 dL_law_814 dL_law_815 rfl hin1 ey1 ?_
  obtain ⟨eT, eA, hI2⟩ := st_takeOrLeave r1 n0 hI
  refine c_WRV (wr := [(x, .inr (2, [.ref bx, .ref px, .ref t, .int (hak_takeOrLeave r1 f ak), .int (hsu_takeOrLeave r1 f su), .int (hgt_takeOrLeave r1 f gt), .int (hlf_takeOrLeave r1 f lf), .int rf, .int kn])), (bx, .inl (cI, 6, .inl f)), (px, .inl (cI, 2, .inl g)), (t, .inr (1, [.ref bt, .int 0, .int ml, .int cn])), (bt, .inl (cB, 16, .inl bs)), (q, .inr (3, [.long (hn_takeOrLeave r1 f su n0), sv]))]) (wsN := [(x, .inr (2, [.ref bx, .ref px, .ref t, .int (hak_takeOrLeave r1 f ak), .int (hsu_takeOrLeave r1 f su), .int (hgt_takeOrLeave r1 f gt), .int (hlf_takeOrLeave r1 f lf), .int rf, .int kn])), (bx, .inl (cI, 6, .inl f)), (px, .inl (cI, 2, .inl g)), (t, .inr (1, [.ref bt, .int 0, .int ml, .int cn])), (bt, .inl (cB, 16, .inl bs)), (o, .inr (4, [.int (wth_X2_takeOrLeave r1), .ref bo, .ref po, .int (wak_X2_takeOrLeave r1 h ak'), .int (wsu_X2_takeOrLeave r1 h su'), .int (wgt_X2_takeOrLeave r1 h gt'), .int (wlf_X2_takeOrLeave r1 h lf'), .int rf', .int kn'])), (bo, .inl (cI, 6, .inl h)), (po, .inl (cI, 2, .inl j)), (q, .inr (3, [.long (hn_takeOrLeave r1 f su n0), sv]))]) (i0 := 5) (ci := 4) FX (k_X2_takeOrLeave l D cI cB o bo po th h j ak' su' gt' lf' rf' kn' r1) mi_X2_takeOrLeave rfl ml_RL_199 (RMok.mk) hl.1 rfl (Nat.le_of_ble_eq_true rfl) dL_law_816 ⟨by omega, by omega⟩ hK hP hD hS hA [5, 6, 7] rfl [0, 1, 2, 3, 4, 8] rfl rfl (by decide) [0, 1, 2, 3, 4, 6, 7, 8, 5] rfl rfl rfl rfl rfl (fun H locs hP hD hS => ?_)
  refine lv_istore (lv' := [(6, .int (v_X2_takeOrLeave r1 h su')), (5, .int (hk_takeOrLeave r1)), (4, .int (nI i)), (3, .ref q), (2, .ref o), (1, .ref x), (0, .ref b)]) FX.1 FX.2.1 dL_law_819 hl (by decide) rfl (fun ls hl => ?_)
  refine lv_goto (tgt := 1830) FX.1 FX.2.1 dL_law_821 (by decide) ?_
  refine W.widen (k := cc + 33) (n := ss + 321) (by omega) (by omega) ?_
  exact kk H locs f g (hak_takeOrLeave r1 f ak) (hsu_takeOrLeave r1 f su) (hgt_takeOrLeave r1 f gt) (hlf_takeOrLeave r1 f lf) rf kn ml cn bs (wth_X2_takeOrLeave r1) h j (wak_X2_takeOrLeave r1 h ak') (wsu_X2_takeOrLeave r1 h su') (wgt_X2_takeOrLeave r1 h gt') (wlf_X2_takeOrLeave r1 h lf') rf' kn' (hn_takeOrLeave r1 f su n0) sv ls hI2 hb hc hP hD hS (lv_sub hl [2, 3, 4, 5, 6] rfl)
set_option maxRecDepth 100000 in
set_option maxHeartbeats 4000000 in
theorem case_12 {p : Program} {l : Launch} {e : Env} {s : State} {m : MethodId} {below : List Frame} {meth : Method} {c : Code} (hl0 : l.stackTraces = false) (D : va_G) (cI cB : ClassId) (b L : Nat) (xs : Nat → Int32) (x bx px t bt o bo po q : Nat) (to tt : Nat) (go gu : Nat → Int32) (na nv : Nat) (nf : Nat → Int32) (nb nw : Nat) (nh : Nat → Int32) (ea ew : Nat) (ef : Nat → Int32) (i cc ss : Nat) (hi : i + 6 ≤ L) (hcc : cc + 33 ≤ room_1.cells) (hss : ss + 321 ≤ room_1.slots) (hL : L ≤ 3072) (FX : CallFix p m c cL_law 7 s #[.ref b] bigW RL) (hK : va_K D KL (TY cI cB) s) (hX : va_X b L xs s s.heap) (hbl : b < s.heap.size) (hz : zLaw to tt go gu na nv nf nb nw nh ea ew ef (fun q => s.heap.size ≤ q) s s.heap) (hfn : sb_Fit nf) (hfe : sb_Fit ef) (hnn : TL 4 nf nh) (kk : LGo p l e s m below meth c D cI cB b x bx px t bt o bo po q i 1830 (cc + 33) (ss + 321)) : LGo p l e s m below meth c D cI cB b x bx px t bt o bo po q i 824 cc ss := by
  intro H locs f g ak su gt lf rf kn ml cn bs th h j ak' su' gt' lf' rf' kn' n0 sv ls hI hb hc hP hD hS hl
  have hA : ∀ q : Nat, s.heap.size ≤ q → s.heap.size ≤ q := fun _ h => h
  have hbA : ¬ (fun q : Nat => s.heap.size ≤ q) b := Nat.not_le.mpr hbl
  obtain ⟨r1, ey1⟩ : ∃ y, xs (i + 1) = y := ⟨_, rfl⟩
  have hin1 : i + 1 < L ∧ L < 2 ^ 31 := ⟨by omega, by omega⟩
  have hl : lv_has ls 7 [(4, .int (nI i)), (3, .ref q), (2, .ref o), (1, .ref x), (0, .ref b)] := hl
  have hP : va_P D KL [(x, .inr (2, [.ref bx, .ref px, .ref t, .int ak, .int su, .int gt, .int lf, .int rf, .int kn])), (bx, .inl (cI, 6, .inl f)), (px, .inl (cI, 2, .inl g)), (t, .inr (1, [.ref bt, .int 0, .int ml, .int cn])), (bt, .inl (cB, 16, .inl bs)), (o, .inr (4, [.int th, .ref bo, .ref po, .int ak', .int su', .int gt', .int lf', .int rf', .int kn'])), (bo, .inl (cI, 6, .inl h)), (po, .inl (cI, 2, .inl j)), (q, .inr (3, [.long n0, sv]))] H := hP
  have hD : va_D (fun q => s.heap.size ≤ q) [(x, .inr (2, [.ref bx, .ref px, .ref t, .int ak, .int su, .int gt, .int lf, .int rf, .int kn])), (bx, .inl (cI, 6, .inl f)), (px, .inl (cI, 2, .inl g)), (t, .inr (1, [.ref bt, .int 0, .int ml, .int cn])), (bt, .inl (cB, 16, .inl bs)), (o, .inr (4, [.int th, .ref bo, .ref po, .int ak', .int su', .int gt', .int lf', .int rf', .int kn'])), (bo, .inl (cI, 6, .inl h)), (po, .inl (cI, 2, .inl j)), (q, .inr (3, [.long n0, sv]))] := hD
  refine lv_aload_n FX.1 FX.2.1 dL_law_824 rfl (lv_at hl 3 rfl) ?_
  refine p_rd (k := 1) (v := r1) FX hX hbl hbA hS (lv_at hl 4 rfl) (lv_at hl 0 rfl) dL_law_825 dL_law_826 dL_law_828 dL_law_829 dL_law_830 rfl hin1 ey1 ?_
  refine lv_aload_n FX.1 FX.2.1 dL_law_831 rfl (lv_at hl 1 rfl) ?_
  refine c_J (W0 := [(x, .inr (2, [.ref bx, .ref px, .ref t, .int ak, .int su, .int gt, .int lf, .int rf, .int kn])), (bx, .inl (cI, 6, .inl f)), (px, .inl (cI, 2, .inl g)), (q, .inr (3, [.long n0, sv]))]) (wr := [(t, .inr (1, [.ref bt, .int 0, .int ml, .int cn])), (bt, .inl (cB, 16, .inl bs)), (o, .inr (4, [.int th, .ref bo, .ref po, .int ak', .int su', .int gt', .int lf', .int rf', .int kn'])), (bo, .inl (cI, 6, .inl h)), (po, .inl (cI, 2, .inl j))]) (wsN := fun _ => [(x, .inr (2, [.ref bx, .ref px, .ref t, .int ak, .int su, .int gt, .int lf, .int (hrf_get r1 f rf), .int kn])), (bx, .inl (cI, 6, .inl f)), (px, .inl (cI, 2, .inl g)), (t, .inr (1, [.ref bt, .int 0, .int ml, .int cn])), (bt, .inl (cB, 16, .inl bs)), (o, .inr (4, [.int th, .ref bo, .ref po, .int ak', .int su', .int gt', .int lf', .int rf', .int kn'])), (bo, .inl (cI, 6, .inl h)), (po, .inl (cI, 2, .inl j)), (q, .inr (3, [.long (hn_get r1 f n0), sv]))]) (vx_runSW FX ((j_L_get l hl0 D cI cB x bx px t f g ak su gt lf rf kn q n0 sv r1) H.size) (my_cwSW FX.2.2.2.2 mh_L_get ml_RL_200 (RMok.mk)) ⟨PJ.blind (zAnd_ok (zAnd_ok zz_ok zN_ok) zF_ok), fun U hU hW => ⟨rfl, my_preJ (zAnd_ok (zAnd_ok zz_ok zN_ok) zF_ok) ⟨hz.1.1, hz.1.2.1⟩ hS hA hK hP hD [0, 1, 2, 8] rfl rfl U hU hW⟩⟩ rfl rfl hl.1 rfl (lv_room (Nat.le_of_ble_eq_true rfl)) dL_law_832 ⟨by omega, by omega⟩) hP hD hS hA [0, 1, 2, 8] rfl [3, 4, 5, 6, 7] rfl (by decide) [5, 6, 7, 0, 1, 2, 3, 4, 8] (fun _ => rfl) rfl (fun u1 H locs hp_1 hP hD hS => ?_)
  have hP : va_P D KL [(x, .inr (2, [.ref bx, .ref px, .ref t, .int ak, .int su, .int gt, .int lf, .int (hrf_get r1 f rf), .int kn])), (bx, .inl (cI, 6, .inl f)), (px, .inl (cI, 2, .inl g)), (t, .inr (1, [.ref bt, .int 0, .int ml, .int cn])), (bt, .inl (cB, 16, .inl bs)), (o, .inr (4, [.int th, .ref bo, .ref po, .int ak', .int su', .int gt', .int lf', .int rf', .int kn'])), (bo, .inl (cI, 6, .inl h)), (po, .inl (cI, 2, .inl j)), (q, .inr (3, [.long (hn_get r1 f n0), sv]))] H := hP
  have hD : va_D (fun q => s.heap.size ≤ q) [(x, .inr (2, [.ref bx, .ref px, .ref t, .int ak, .int su, .int gt, .int lf, .int (hrf_get r1 f rf), .int kn])), (bx, .inl (cI, 6, .inl f)), (px, .inl (cI, 2, .inl g)), (t, .inr (1, [.ref bt, .int 0, .int ml, .int cn])), (bt, .inl (cB, 16, .inl bs)), (o, .inr (4, [.int th, .ref bo, .ref po, .int ak', .int su', .int gt', .int lf', .int rf', .int kn'])), (bo, .inl (cI, 6, .inl h)), (po, .inl (cI, 2, .inl j)), (q, .inr (3, [.long (hn_get r1 f n0), sv]))] := hD
  refine W.eq (g2 := F0 m 835 ls [.int (hk_get r1)]) rfl ?_
  refine lv_istore (lv' := [(5, .int (hk_get r1)), (4, .int (nI i)), (3, .ref q), (2, .ref o), (1, .ref x), (0, .ref b)]) FX.1 FX.2.1 dL_law_835 hl (by decide) rfl (fun ls hl => ?_)
  refine lv_aload_n FX.1 FX.2.1 dL_law_837 rfl (lv_at hl 3 rfl) ?_
  refine p_rd (k := 1) (v := r1) FX hX hbl hbA hS (lv_at hl 5 rfl) (lv_at hl 1 rfl) dL_law_838 dL_law_839 dL_law_841 dL_law_842 dL_law_843 rfl hin1 ey1 ?_
  obtain ⟨eT, eA, hI2⟩ := st_get r1 n0 hI
  refine c_WRV (wr := [(x, .inr (2, [.ref bx, .ref px, .ref t, .int ak, .int su, .int gt, .int lf, .int (hrf_get r1 f rf), .int kn])), (bx, .inl (cI, 6, .inl f)), (px, .inl (cI, 2, .inl g)), (t, .inr (1, [.ref bt, .int 0, .int ml, .int cn])), (bt, .inl (cB, 16, .inl bs)), (q, .inr (3, [.long (hn_get r1 f n0), sv]))]) (wsN := [(x, .inr (2, [.ref bx, .ref px, .ref t, .int ak, .int su, .int gt, .int lf, .int (hrf_get r1 f rf), .int kn])), (bx, .inl (cI, 6, .inl f)), (px, .inl (cI, 2, .inl g)), (t, .inr (1, [.ref bt, .int 0, .int ml, .int cn])), (bt, .inl (cB, 16, .inl bs)), (o, .inr (4, [.int (wth_X2_get r1), .ref bo, .ref po, .int ak', .int su', .int gt', .int lf', .int (wrf_X2_get r1 h rf'), .int kn'])), (bo, .inl (cI, 6, .inl h)), (po, .inl (cI, 2, .inl j)), (q, .inr (3, [.long (hn_get r1 f n0), sv]))]) (i0 := 5) (ci := 4) FX (k_X2_get l D cI cB o bo po th h j ak' su' gt' lf' rf' kn' r1) mi_X2_get rfl ml_RL_202 (RMok.mk) hl.1 rfl (Nat.le_of_ble_eq_true rfl) dL_law_844 ⟨by omega, by omega⟩ hK hP hD hS hA [5, 6, 7] rfl [0, 1, 2, 3, 4, 8] rfl rfl (by decide) [0, 1, 2, 3, 4, 6, 7, 8, 5] rfl rfl rfl rfl rfl (fun H locs hP hD hS => ?_)
  refine lv_istore (lv' := [(6, .int (v_X2_get r1 h)), (5, .int (hk_get r1)), (4, .int (nI i)), (3, .ref q), (2, .ref o), (1, .ref x), (0, .ref b)]) FX.1 FX.2.1 dL_law_847 hl (by decide) rfl (fun ls hl => ?_)
  refine lv_goto (tgt := 1830) FX.1 FX.2.1 dL_law_849 (by decide) ?_
  refine W.widen (k := cc + 33) (n := ss + 321) (by omega) (by omega) ?_
  exact kk H locs f g ak su gt lf (hrf_get r1 f rf) kn ml cn bs (wth_X2_get r1) h j ak' su' gt' lf' (wrf_X2_get r1 h rf') kn' (hn_get r1 f n0) sv ls hI2 hb hc hP hD hS (lv_sub hl [2, 3, 4, 5, 6] rfl)
set_option maxRecDepth 100000 in
set_option maxHeartbeats 4000000 in
theorem case_13 {p : Program} {l : Launch} {e : Env} {s : State} {m : MethodId} {below : List Frame} {meth : Method} {c : Code} (hl0 : l.stackTraces = false) (D : va_G) (cI cB : ClassId) (b L : Nat) (xs : Nat → Int32) (x bx px t bt o bo po q : Nat) (to tt : Nat) (go gu : Nat → Int32) (na nv : Nat) (nf : Nat → Int32) (nb nw : Nat) (nh : Nat → Int32) (ea ew : Nat) (ef : Nat → Int32) (i cc ss : Nat) (hi : i + 6 ≤ L) (hcc : cc + 33 ≤ room_1.cells) (hss : ss + 321 ≤ room_1.slots) (hL : L ≤ 3072) (FX : CallFix p m c cL_law 7 s #[.ref b] bigW RL) (hK : va_K D KL (TY cI cB) s) (hX : va_X b L xs s s.heap) (hbl : b < s.heap.size) (hz : zLaw to tt go gu na nv nf nb nw nh ea ew ef (fun q => s.heap.size ≤ q) s s.heap) (hfn : sb_Fit nf) (hfe : sb_Fit ef) (hnn : TL 4 nf nh) (kk : LGo p l e s m below meth c D cI cB b x bx px t bt o bo po q i 1830 (cc + 33) (ss + 321)) : LGo p l e s m below meth c D cI cB b x bx px t bt o bo po q i 852 cc ss := by
  intro H locs f g ak su gt lf rf kn ml cn bs th h j ak' su' gt' lf' rf' kn' n0 sv ls hI hb hc hP hD hS hl
  have hA : ∀ q : Nat, s.heap.size ≤ q → s.heap.size ≤ q := fun _ h => h
  have hbA : ¬ (fun q : Nat => s.heap.size ≤ q) b := Nat.not_le.mpr hbl
  obtain ⟨r1, ey1⟩ : ∃ y, xs (i + 1) = y := ⟨_, rfl⟩
  have hin1 : i + 1 < L ∧ L < 2 ^ 31 := ⟨by omega, by omega⟩
  obtain ⟨r2, ey2⟩ : ∃ y, xs (i + 2) = y := ⟨_, rfl⟩
  have hin2 : i + 2 < L ∧ L < 2 ^ 31 := ⟨by omega, by omega⟩
  have hl : lv_has ls 7 [(4, .int (nI i)), (3, .ref q), (2, .ref o), (1, .ref x), (0, .ref b)] := hl
  have hP : va_P D KL [(x, .inr (2, [.ref bx, .ref px, .ref t, .int ak, .int su, .int gt, .int lf, .int rf, .int kn])), (bx, .inl (cI, 6, .inl f)), (px, .inl (cI, 2, .inl g)), (t, .inr (1, [.ref bt, .int 0, .int ml, .int cn])), (bt, .inl (cB, 16, .inl bs)), (o, .inr (4, [.int th, .ref bo, .ref po, .int ak', .int su', .int gt', .int lf', .int rf', .int kn'])), (bo, .inl (cI, 6, .inl h)), (po, .inl (cI, 2, .inl j)), (q, .inr (3, [.long n0, sv]))] H := hP
  have hD : va_D (fun q => s.heap.size ≤ q) [(x, .inr (2, [.ref bx, .ref px, .ref t, .int ak, .int su, .int gt, .int lf, .int rf, .int kn])), (bx, .inl (cI, 6, .inl f)), (px, .inl (cI, 2, .inl g)), (t, .inr (1, [.ref bt, .int 0, .int ml, .int cn])), (bt, .inl (cB, 16, .inl bs)), (o, .inr (4, [.int th, .ref bo, .ref po, .int ak', .int su', .int gt', .int lf', .int rf', .int kn'])), (bo, .inl (cI, 6, .inl h)), (po, .inl (cI, 2, .inl j)), (q, .inr (3, [.long n0, sv]))] := hD
  refine lv_aload_n FX.1 FX.2.1 dL_law_852 rfl (lv_at hl 3 rfl) ?_
  refine p_rd (k := 1) (v := r1) FX hX hbl hbA hS (lv_at hl 4 rfl) (lv_at hl 0 rfl) dL_law_853 dL_law_854 dL_law_856 dL_law_857 dL_law_858 rfl hin1 ey1 ?_
  refine p_rd (k := 2) (v := r2) FX hX hbl hbA hS (lv_at hl 4 rfl) (lv_at hl 0 rfl) dL_law_859 dL_law_860 dL_law_862 dL_law_863 dL_law_864 rfl hin2 ey2 ?_
  refine lv_aload_n FX.1 FX.2.1 dL_law_865 rfl (lv_at hl 1 rfl) ?_
  refine c_J (W0 := [(x, .inr (2, [.ref bx, .ref px, .ref t, .int ak, .int su, .int gt, .int lf, .int rf, .int kn])), (bx, .inl (cI, 6, .inl f)), (px, .inl (cI, 2, .inl g)), (q, .inr (3, [.long n0, sv]))]) (wr := [(t, .inr (1, [.ref bt, .int 0, .int ml, .int cn])), (bt, .inl (cB, 16, .inl bs)), (o, .inr (4, [.int th, .ref bo, .ref po, .int ak', .int su', .int gt', .int lf', .int rf', .int kn'])), (bo, .inl (cI, 6, .inl h)), (po, .inl (cI, 2, .inl j))]) (wsN := fun _ => [(x, .inr (2, [.ref bx, .ref px, .ref t, .int ak, .int su, .int gt, .int lf, .int rf, .int kn])), (bx, .inl (cI, 6, .inl f)), (px, .inl (cI, 2, .inl g)), (t, .inr (1, [.ref bt, .int 0, .int ml, .int cn])), (bt, .inl (cB, 16, .inl bs)), (o, .inr (4, [.int th, .ref bo, .ref po, .int ak', .int su', .int gt', .int lf', .int rf', .int kn'])), (bo, .inl (cI, 6, .inl h)), (po, .inl (cI, 2, .inl j)), (q, .inr (3, [.long (hn_orElse r1 r2 f n0), sv]))]) (vx_runSW FX ((j_L_orElse l hl0 D cI cB x bx px t f g ak su gt lf rf kn q n0 sv r1 r2) H.size) (my_cwSW FX.2.2.2.2 mh_L_orElse ml_RL_203 (RMok.mk)) ⟨PJ.blind (zAnd_ok (zAnd_ok zz_ok zN_ok) zF_ok), fun U hU hW => ⟨rfl, my_preJ (zAnd_ok (zAnd_ok zz_ok zN_ok) zF_ok) ⟨hz.1.1, hz.1.2.1⟩ hS hA hK hP hD [0, 1, 2, 8] rfl rfl U hU hW⟩⟩ rfl rfl hl.1 rfl (lv_room (Nat.le_of_ble_eq_true rfl)) dL_law_866 ⟨by omega, by omega⟩) hP hD hS hA [0, 1, 2, 8] rfl [3, 4, 5, 6, 7] rfl (by decide) [5, 6, 7, 0, 1, 2, 3, 4, 8] (fun _ => rfl) rfl (fun u1 H locs hp_1 hP hD hS => ?_)
  have hP : va_P D KL [(x, .inr (2, [.ref bx, .ref px, .ref t, .int ak, .int su, .int gt, .int lf, .int rf, .int kn])), (bx, .inl (cI, 6, .inl f)), (px, .inl (cI, 2, .inl g)), (t, .inr (1, [.ref bt, .int 0, .int ml, .int cn])), (bt, .inl (cB, 16, .inl bs)), (o, .inr (4, [.int th, .ref bo, .ref po, .int ak', .int su', .int gt', .int lf', .int rf', .int kn'])), (bo, .inl (cI, 6, .inl h)), (po, .inl (cI, 2, .inl j)), (q, .inr (3, [.long (hn_orElse r1 r2 f n0), sv]))] H := hP
  have hD : va_D (fun q => s.heap.size ≤ q) [(x, .inr (2, [.ref bx, .ref px, .ref t, .int ak, .int su, .int gt, .int lf, .int rf, .int kn])), (bx, .inl (cI, 6, .inl f)), (px, .inl (cI, 2, .inl g)), (t, .inr (1, [.ref bt, .int 0, .int ml, .int cn])), (bt, .inl (cB, 16, .inl bs)), (o, .inr (4, [.int th, .ref bo, .ref po, .int ak', .int su', .int gt', .int lf', .int rf', .int kn'])), (bo, .inl (cI, 6, .inl h)), (po, .inl (cI, 2, .inl j)), (q, .inr (3, [.long (hn_orElse r1 r2 f n0), sv]))] := hD
  refine W.eq (g2 := F0 m 869 ls [.int (hk_orElse r1 r2)]) rfl ?_
  refine lv_istore (lv' := [(5, .int (hk_orElse r1 r2)), (4, .int (nI i)), (3, .ref q), (2, .ref o), (1, .ref x), (0, .ref b)]) FX.1 FX.2.1 dL_law_869 hl (by decide) rfl (fun ls hl => ?_)
  refine lv_aload_n FX.1 FX.2.1 dL_law_871 rfl (lv_at hl 3 rfl) ?_
  refine p_rd (k := 1) (v := r1) FX hX hbl hbA hS (lv_at hl 5 rfl) (lv_at hl 1 rfl) dL_law_872 dL_law_873 dL_law_875 dL_law_876 dL_law_877 rfl hin1 ey1 ?_
  refine p_rd (k := 2) (v := r2) FX hX hbl hbA hS (lv_at hl 5 rfl) (lv_at hl 1 rfl) dL_law_878 dL_law_879 dL_law_881 dL_law_882 dL_law_883 rfl hin2 ey2 ?_
  obtain ⟨eT, eA, hI2⟩ := st_orElse r1 r2 n0 hI
  refine c_WRV (wr := [(x, .inr (2, [.ref bx, .ref px, .ref t, .int ak, .int su, .int gt, .int lf, .int rf, .int kn])), (bx, .inl (cI, 6, .inl f)), (px, .inl (cI, 2, .inl g)), (t, .inr (1, [.ref bt, .int 0, .int ml, .int cn])), (bt, .inl (cB, 16, .inl bs)), (q, .inr (3, [.long (hn_orElse r1 r2 f n0), sv]))]) (wsN := [(x, .inr (2, [.ref bx, .ref px, .ref t, .int ak, .int su, .int gt, .int lf, .int rf, .int kn])), (bx, .inl (cI, 6, .inl f)), (px, .inl (cI, 2, .inl g)), (t, .inr (1, [.ref bt, .int 0, .int ml, .int cn])), (bt, .inl (cB, 16, .inl bs)), (o, .inr (4, [.int (wth_X2_orElse r1 r2), .ref bo, .ref po, .int ak', .int su', .int gt', .int lf', .int rf', .int kn'])), (bo, .inl (cI, 6, .inl h)), (po, .inl (cI, 2, .inl j)), (q, .inr (3, [.long (hn_orElse r1 r2 f n0), sv]))]) (i0 := 5) (ci := 4) FX (k_X2_orElse l D cI cB o bo po th h j ak' su' gt' lf' rf' kn' r1 r2) mi_X2_orElse rfl ml_RL_205 (RMok.mk) hl.1 rfl (Nat.le_of_ble_eq_true rfl) dL_law_884 ⟨by omega, by omega⟩ hK hP hD hS hA [5, 6, 7] rfl [0, 1, 2, 3, 4, 8] rfl rfl (by decide) [0, 1, 2, 3, 4, 6, 7, 8, 5] rfl rfl rfl rfl rfl (fun H locs hP hD hS => ?_)
  refine lv_istore (lv' := [(6, .int (v_X2_orElse r1 r2 h)), (5, .int (hk_orElse r1 r2)), (4, .int (nI i)), (3, .ref q), (2, .ref o), (1, .ref x), (0, .ref b)]) FX.1 FX.2.1 dL_law_887 hl (by decide) rfl (fun ls hl => ?_)
  refine lv_goto (tgt := 1830) FX.1 FX.2.1 dL_law_889 (by decide) ?_
  refine W.widen (k := cc + 33) (n := ss + 321) (by omega) (by omega) ?_
  exact kk H locs f g ak su gt lf rf kn ml cn bs (wth_X2_orElse r1 r2) h j ak' su' gt' lf' rf' kn' (hn_orElse r1 r2 f n0) sv ls hI2 hb hc hP hD hS (lv_sub hl [2, 3, 4, 5, 6] rfl)
set_option maxRecDepth 100000 in
set_option maxHeartbeats 4000000 in
theorem case_14 {p : Program} {l : Launch} {e : Env} {s : State} {m : MethodId} {below : List Frame} {meth : Method} {c : Code} (hl0 : l.stackTraces = false) (D : va_G) (cI cB : ClassId) (b L : Nat) (xs : Nat → Int32) (x bx px t bt o bo po q : Nat) (to tt : Nat) (go gu : Nat → Int32) (na nv : Nat) (nf : Nat → Int32) (nb nw : Nat) (nh : Nat → Int32) (ea ew : Nat) (ef : Nat → Int32) (i cc ss : Nat) (hi : i + 6 ≤ L) (hcc : cc + 33 ≤ room_1.cells) (hss : ss + 321 ≤ room_1.slots) (hL : L ≤ 3072) (FX : CallFix p m c cL_law 7 s #[.ref b] bigW RL) (hK : va_K D KL (TY cI cB) s) (hX : va_X b L xs s s.heap) (hbl : b < s.heap.size) (hz : zLaw to tt go gu na nv nf nb nw nh ea ew ef (fun q => s.heap.size ≤ q) s s.heap) (hfn : sb_Fit nf) (hfe : sb_Fit ef) (hnn : TL 4 nf nh) (kk : LGo p l e s m below meth c D cI cB b x bx px t bt o bo po q i 1830 (cc + 33) (ss + 321)) : LGo p l e s m below meth c D cI cB b x bx px t bt o bo po q i 892 cc ss := by
  intro H locs f g ak su gt lf rf kn ml cn bs th h j ak' su' gt' lf' rf' kn' n0 sv ls hI hb hc hP hD hS hl
  have hA : ∀ q : Nat, s.heap.size ≤ q → s.heap.size ≤ q := fun _ h => h
  have hbA : ¬ (fun q : Nat => s.heap.size ≤ q) b := Nat.not_le.mpr hbl
  obtain ⟨r1, ey1⟩ : ∃ y, xs (i + 1) = y := ⟨_, rfl⟩
  have hin1 : i + 1 < L ∧ L < 2 ^ 31 := ⟨by omega, by omega⟩
  obtain ⟨r2, ey2⟩ : ∃ y, xs (i + 2) = y := ⟨_, rfl⟩
  have hin2 : i + 2 < L ∧ L < 2 ^ 31 := ⟨by omega, by omega⟩
  have hl : lv_has ls 7 [(4, .int (nI i)), (3, .ref q), (2, .ref o), (1, .ref x), (0, .ref b)] := hl
  have hP : va_P D KL [(x, .inr (2, [.ref bx, .ref px, .ref t, .int ak, .int su, .int gt, .int lf, .int rf, .int kn])), (bx, .inl (cI, 6, .inl f)), (px, .inl (cI, 2, .inl g)), (t, .inr (1, [.ref bt, .int 0, .int ml, .int cn])), (bt, .inl (cB, 16, .inl bs)), (o, .inr (4, [.int th, .ref bo, .ref po, .int ak', .int su', .int gt', .int lf', .int rf', .int kn'])), (bo, .inl (cI, 6, .inl h)), (po, .inl (cI, 2, .inl j)), (q, .inr (3, [.long n0, sv]))] H := hP
  have hD : va_D (fun q => s.heap.size ≤ q) [(x, .inr (2, [.ref bx, .ref px, .ref t, .int ak, .int su, .int gt, .int lf, .int rf, .int kn])), (bx, .inl (cI, 6, .inl f)), (px, .inl (cI, 2, .inl g)), (t, .inr (1, [.ref bt, .int 0, .int ml, .int cn])), (bt, .inl (cB, 16, .inl bs)), (o, .inr (4, [.int th, .ref bo, .ref po, .int ak', .int su', .int gt', .int lf', .int rf', .int kn'])), (bo, .inl (cI, 6, .inl h)), (po, .inl (cI, 2, .inl j)), (q, .inr (3, [.long n0, sv]))] := hD
  refine lv_aload_n FX.1 FX.2.1 dL_law_892 rfl (lv_at hl 3 rfl) ?_
  refine p_rd (k := 1) (v := r1) FX hX hbl hbA hS (lv_at hl 4 rfl) (lv_at hl 0 rfl) dL_law_893 dL_law_894 dL_law_896 dL_law_897 dL_law_898 rfl hin1 ey1 ?_
  refine p_rd (k := 2) (v := r2) FX hX hbl hbA hS (lv_at hl 4 rfl) (lv_at hl 0 rfl) dL_law_899 dL_law_900 dL_law_902 dL_law_903 dL_law_904 rfl hin2 ey2 ?_
  refine lv_aload_n FX.1 FX.2.1 dL_law_905 rfl (lv_at hl 1 rfl) ?_
  refine c_J (W0 := [(x, .inr (2, [.ref bx, .ref px, .ref t, .int ak, .int su, .int gt, .int lf, .int rf, .int kn])), (bx, .inl (cI, 6, .inl f)), (px, .inl (cI, 2, .inl g)), (q, .inr (3, [.long n0, sv]))]) (wr := [(t, .inr (1, [.ref bt, .int 0, .int ml, .int cn])), (bt, .inl (cB, 16, .inl bs)), (o, .inr (4, [.int th, .ref bo, .ref po, .int ak', .int su', .int gt', .int lf', .int rf', .int kn'])), (bo, .inl (cI, 6, .inl h)), (po, .inl (cI, 2, .inl j))]) (wsN := fun _ => [(x, .inr (2, [.ref bx, .ref px, .ref t, .int (hak_orElseGet r1 r2 f ak), .int su, .int gt, .int lf, .int rf, .int kn])), (bx, .inl (cI, 6, .inl f)), (px, .inl (cI, 2, .inl g)), (t, .inr (1, [.ref bt, .int 0, .int ml, .int cn])), (bt, .inl (cB, 16, .inl bs)), (o, .inr (4, [.int th, .ref bo, .ref po, .int ak', .int su', .int gt', .int lf', .int rf', .int kn'])), (bo, .inl (cI, 6, .inl h)), (po, .inl (cI, 2, .inl j)), (q, .inr (3, [.long (hn_orElseGet r1 r2 f ak n0), sv]))]) (vx_runSW FX ((j_L_orElseGet l hl0 D cI cB x bx px t f g ak su gt lf rf kn q n0 sv r1 r2) H.size) (my_cwSW FX.2.2.2.2 mh_L_orElseGet ml_RL_206 (RMok.mk)) ⟨PJ.blind (zAnd_ok (zAnd_ok zz_ok zN_ok) zF_ok), fun U hU hW => ⟨rfl, my_preJ (zAnd_ok (zAnd_ok zz_ok zN_ok) zF_ok) ⟨hz.1.1, hz.1.2.1⟩ hS hA hK hP hD [0, 1, 2, 8] rfl rfl U hU hW⟩⟩ rfl rfl hl.1 rfl (lv_room (Nat.le_of_ble_eq_true rfl)) dL_law_906 ⟨by omega, by omega⟩) hP hD hS hA [0, 1, 2, 8] rfl [3, 4, 5, 6, 7] rfl (by decide) [5, 6, 7, 0, 1, 2, 3, 4, 8] (fun _ => rfl) rfl (fun u1 H locs hp_1 hP hD hS => ?_)
  have hP : va_P D KL [(x, .inr (2, [.ref bx, .ref px, .ref t, .int (hak_orElseGet r1 r2 f ak), .int su, .int gt, .int lf, .int rf, .int kn])), (bx, .inl (cI, 6, .inl f)), (px, .inl (cI, 2, .inl g)), (t, .inr (1, [.ref bt, .int 0, .int ml, .int cn])), (bt, .inl (cB, 16, .inl bs)), (o, .inr (4, [.int th, .ref bo, .ref po, .int ak', .int su', .int gt', .int lf', .int rf', .int kn'])), (bo, .inl (cI, 6, .inl h)), (po, .inl (cI, 2, .inl j)), (q, .inr (3, [.long (hn_orElseGet r1 r2 f ak n0), sv]))] H := hP
  have hD : va_D (fun q => s.heap.size ≤ q) [(x, .inr (2, [.ref bx, .ref px, .ref t, .int (hak_orElseGet r1 r2 f ak), .int su, .int gt, .int lf, .int rf, .int kn])), (bx, .inl (cI, 6, .inl f)), (px, .inl (cI, 2, .inl g)), (t, .inr (1, [.ref bt, .int 0, .int ml, .int cn])), (bt, .inl (cB, 16, .inl bs)), (o, .inr (4, [.int th, .ref bo, .ref po, .int ak', .int su', .int gt', .int lf', .int rf', .int kn'])), (bo, .inl (cI, 6, .inl h)), (po, .inl (cI, 2, .inl j)), (q, .inr (3, [.long (hn_orElseGet r1 r2 f ak n0), sv]))] := hD
  refine W.eq (g2 := F0 m 909 ls [.int (hk_orElseGet r1 r2)]) rfl ?_
  refine lv_istore (lv' := [(5, .int (hk_orElseGet r1 r2)), (4, .int (nI i)), (3, .ref q), (2, .ref o), (1, .ref x), (0, .ref b)]) FX.1 FX.2.1 dL_law_909 hl (by decide) rfl (fun ls hl => ?_)
  refine lv_aload_n FX.1 FX.2.1 dL_law_911 rfl (lv_at hl 3 rfl) ?_
  refine p_rd (k := 1) (v := r1) FX hX hbl hbA hS (lv_at hl 5 rfl) (lv_at hl 1 rfl) dL_law_912 dL_law_913 dL_law_915 dL_law_916 dL_law_917 rfl hin1 ey1 ?_
  refine p_rd (k := 2) (v := r2) FX hX hbl hbA hS (lv_at hl 5 rfl) (lv_at hl 1 rfl) dL_law_918 dL_law_919 dL_law_921 dL_law_922 dL_law_923 rfl hin2 ey2 ?_
  obtain ⟨eT, eA, hI2⟩ := st_orElseGet r1 r2 n0 hI
  refine c_WRV (wr := [(x, .inr (2, [.ref bx, .ref px, .ref t, .int (hak_orElseGet r1 r2 f ak), .int su, .int gt, .int lf, .int rf, .int kn])), (bx, .inl (cI, 6, .inl f)), (px, .inl (cI, 2, .inl g)), (t, .inr (1, [.ref bt, .int 0, .int ml, .int cn])), (bt, .inl (cB, 16, .inl bs)), (q, .inr (3, [.long (hn_orElseGet r1 r2 f ak n0), sv]))]) (wsN := [(x, .inr (2, [.ref bx, .ref px, .ref t, .int (hak_orElseGet r1 r2 f ak), .int su, .int gt, .int lf, .int rf, .int kn])), (bx, .inl (cI, 6, .inl f)), (px, .inl (cI, 2, .inl g)), (t, .inr (1, [.ref bt, .int 0, .int ml, .int cn])), (bt, .inl (cB, 16, .inl bs)), (o, .inr (4, [.int (wth_X2_orElseGet r1 r2), .ref bo, .ref po, .int (wak_X2_orElseGet r1 r2 h ak'), .int su', .int gt', .int lf', .int rf', .int kn'])), (bo, .inl (cI, 6, .inl h)), (po, .inl (cI, 2, .inl j)), (q, .inr (3, [.long (hn_orElseGet r1 r2 f ak n0), sv]))]) (i0 := 5) (ci := 4) FX (k_X2_orElseGet l D cI cB o bo po th h j ak' su' gt' lf' rf' kn' r1 r2) mi_X2_orElseGet rfl ml_RL_208 (RMok.mk) hl.1 rfl (Nat.le_of_ble_eq_true rfl) dL_law_924 ⟨by omega, by omega⟩ hK hP hD hS hA [5, 6, 7] rfl [0, 1, 2, 3, 4, 8] rfl rfl (by decide) [0, 1, 2, 3, 4, 6, 7, 8, 5] rfl rfl rfl rfl rfl (fun H locs hP hD hS => ?_)
  refine lv_istore (lv' := [(6, .int (v_X2_orElseGet r1 r2 h ak')), (5, .int (hk_orElseGet r1 r2)), (4, .int (nI i)), (3, .ref q), (2, .ref o), (1, .ref x), (0, .ref b)]) FX.1 FX.2.1 dL_law_927 hl (by decide) rfl (fun ls hl => ?_)
  refine lv_goto (tgt := 1830) FX.1 FX.2.1 dL_law_929 (by decide) ?_
  refine W.widen (k := cc + 33) (n := ss + 321) (by omega) (by omega) ?_
  exact kk H locs f g (hak_orElseGet r1 r2 f ak) su gt lf rf kn ml cn bs (wth_X2_orElseGet r1 r2) h j (wak_X2_orElseGet r1 r2 h ak') su' gt' lf' rf' kn' (hn_orElseGet r1 r2 f ak n0) sv ls hI2 hb hc hP hD hS (lv_sub hl [2, 3, 4, 5, 6] rfl)
set_option maxRecDepth 100000 in
set_option maxHeartbeats 4000000 in
theorem case_15 {p : Program} {l : Launch} {e : Env} {s : State} {m : MethodId} {below : List Frame} {meth : Method} {c : Code} (hl0 : l.stackTraces = false) (D : va_G) (cI cB : ClassId) (b L : Nat) (xs : Nat → Int32) (x bx px t bt o bo po q : Nat) (to tt : Nat) (go gu : Nat → Int32) (na nv : Nat) (nf : Nat → Int32) (nb nw : Nat) (nh : Nat → Int32) (ea ew : Nat) (ef : Nat → Int32) (i cc ss : Nat) (hi : i + 6 ≤ L) (hcc : cc + 33 ≤ room_1.cells) (hss : ss + 321 ≤ room_1.slots) (hL : L ≤ 3072) (FX : CallFix p m c cL_law 7 s #[.ref b] bigW RL) (hK : va_K D KL (TY cI cB) s) (hX : va_X b L xs s s.heap) (hbl : b < s.heap.size) (hz : zLaw to tt go gu na nv nf nb nw nh ea ew ef (fun q => s.heap.size ≤ q) s s.heap) (hfn : sb_Fit nf) (hfe : sb_Fit ef) (hnn : TL 4 nf nh) (kk : LGo p l e s m below meth c D cI cB b x bx px t bt o bo po q i 1830 (cc + 33) (ss + 321)) : LGo p l e s m below meth c D cI cB b x bx px t bt o bo po q i 932 cc ss := by
  intro H locs f g ak su gt lf rf kn ml cn bs th h j ak' su' gt' lf' rf' kn' n0 sv ls hI hb hc hP hD hS hl
  have hA : ∀ q : Nat, s.heap.size ≤ q → s.heap.size ≤ q := fun _ h => h
  have hbA : ¬ (fun q : Nat => s.heap.size ≤ q) b := Nat.not_le.mpr hbl
  obtain ⟨r1, ey1⟩ : ∃ y, xs (i + 1) = y := ⟨_, rfl⟩
  have hin1 : i + 1 < L ∧ L < 2 ^ 31 := ⟨by omega, by omega⟩
  have hl : lv_has ls 7 [(4, .int (nI i)), (3, .ref q), (2, .ref o), (1, .ref x), (0, .ref b)] := hl
  have hP : va_P D KL [(x, .inr (2, [.ref bx, .ref px, .ref t, .int ak, .int su, .int gt, .int lf, .int rf, .int kn])), (bx, .inl (cI, 6, .inl f)), (px, .inl (cI, 2, .inl g)), (t, .inr (1, [.ref bt, .int 0, .int ml, .int cn])), (bt, .inl (cB, 16, .inl bs)), (o, .inr (4, [.int th, .ref bo, .ref po, .int ak', .int su', .int gt', .int lf', .int rf', .int kn'])), (bo, .inl (cI, 6, .inl h)), (po, .inl (cI, 2, .inl j)), (q, .inr (3, [.long n0, sv]))] H := hP
  have hD : va_D (fun q => s.heap.size ≤ q) [(x, .inr (2, [.ref bx, .ref px, .ref t, .int ak, .int su, .int gt, .int lf, .int rf, .int kn])), (bx, .inl (cI, 6, .inl f)), (px, .inl (cI, 2, .inl g)), (t, .inr (1, [.ref bt, .int 0, .int ml, .int cn])), (bt, .inl (cB, 16, .inl bs)), (o, .inr (4, [.int th, .ref bo, .ref po, .int ak', .int su', .int gt', .int lf', .int rf', .int kn'])), (bo, .inl (cI, 6, .inl h)), (po, .inl (cI, 2, .inl j)), (q, .inr (3, [.long n0, sv]))] := hD
  refine lv_aload_n FX.1 FX.2.1 dL_law_932 rfl (lv_at hl 3 rfl) ?_
  refine p_rd (k := 1) (v := r1) FX hX hbl hbA hS (lv_at hl 4 rfl) (lv_at hl 0 rfl) dL_law_933 dL_law_934 dL_law_936 dL_law_937 dL_law_938 rfl hin1 ey1 ?_
  refine lv_aload_n FX.1 FX.2.1 dL_law_939 rfl (lv_at hl 1 rfl) ?_
  refine c_J (W0 := [(x, .inr (2, [.ref bx, .ref px, .ref t, .int ak, .int su, .int gt, .int lf, .int rf, .int kn])), (bx, .inl (cI, 6, .inl f)), (px, .inl (cI, 2, .inl g)), (q, .inr (3, [.long n0, sv]))]) (wr := [(t, .inr (1, [.ref bt, .int 0, .int ml, .int cn])), (bt, .inl (cB, 16, .inl bs)), (o, .inr (4, [.int th, .ref bo, .ref po, .int ak', .int su', .int gt', .int lf', .int rf', .int kn'])), (bo, .inl (cI, 6, .inl h)), (po, .inl (cI, 2, .inl j))]) (wsN := fun _ => [(x, .inr (2, [.ref bx, .ref px, .ref t, .int ak, .int su, .int gt, .int lf, .int rf, .int kn])), (bx, .inl (cI, 6, .inl f)), (px, .inl (cI, 2, .inl g)), (t, .inr (1, [.ref bt, .int 0, .int ml, .int cn])), (bt, .inl (cB, 16, .inl bs)), (o, .inr (4, [.int th, .ref bo, .ref po, .int ak', .int su', .int gt', .int lf', .int rf', .int kn'])), (bo, .inl (cI, 6, .inl h)), (po, .inl (cI, 2, .inl j)), (q, .inr (3, [.long (hn_orElseThrow r1 f n0), sv]))]) (vx_runSW FX ((j_L_orElseThrow l hl0 D cI cB x bx px t f g ak su gt lf rf kn q n0 sv r1) H.size) (my_cwSW FX.2.2.2.2 mh_L_orElseThrow ml_RL_209 (RMok.mk)) ⟨PJ.blind (zAnd_ok (zAnd_ok zz_ok zN_ok) zF_ok), fun U hU hW => ⟨rfl, my_preJ (zAnd_ok (zAnd_ok zz_ok zN_ok) zF_ok) ⟨hz.1.1, hz.1.2.1⟩ hS hA hK hP hD [0, 1, 2, 8] rfl rfl U hU hW⟩⟩ rfl rfl hl.1 rfl (lv_room (Nat.le_of_ble_eq_true rfl)) dL_law_940 ⟨by omega, by omega⟩) hP hD hS hA [0, 1, 2, 8] rfl [3, 4, 5, 6, 7] rfl (by decide) [5, 6, 7, 0, 1, 2, 3, 4, 8] (fun _ => rfl) rfl (fun u1 H locs hp_1 hP hD hS => ?_)
  have hP : va_P D KL [(x, .inr (2, [.ref bx, .ref px, .ref t, .int ak, .int su, .int gt, .int lf, .int rf, .int kn])), (bx, .inl (cI, 6, .inl f)), (px, .inl (cI, 2, .inl g)), (t, .inr (1, [.ref bt, .int 0, .int ml, .int cn])), (bt, .inl (cB, 16, .inl bs)), (o, .inr (4, [.int th, .ref bo, .ref po, .int ak', .int su', .int gt', .int lf', .int rf', .int kn'])), (bo, .inl (cI, 6, .inl h)), (po, .inl (cI, 2, .inl j)), (q, .inr (3, [.long (hn_orElseThrow r1 f n0), sv]))] H := hP
  have hD : va_D (fun q => s.heap.size ≤ q) [(x, .inr (2, [.ref bx, .ref px, .ref t, .int ak, .int su, .int gt, .int lf, .int rf, .int kn])), (bx, .inl (cI, 6, .inl f)), (px, .inl (cI, 2, .inl g)), (t, .inr (1, [.ref bt, .int 0, .int ml, .int cn])), (bt, .inl (cB, 16, .inl bs)), (o, .inr (4, [.int th, .ref bo, .ref po, .int ak', .int su', .int gt', .int lf', .int rf', .int kn'])), (bo, .inl (cI, 6, .inl h)), (po, .inl (cI, 2, .inl j)), (q, .inr (3, [.long (hn_orElseThrow r1 f n0), sv]))] := hD
  refine W.eq (g2 := F0 m 943 ls [.int (hk_orElseThrow r1 f)]) rfl ?_
  refine lv_istore (lv' := [(5, .int (hk_orElseThrow r1 f)), (4, .int (nI i)), (3, .ref q), (2, .ref o), (1, .ref x), (0, .ref b)]) FX.1 FX.2.1 dL_law_943 hl (by decide) rfl (fun ls hl => ?_)
  refine lv_aload_n FX.1 FX.2.1 dL_law_945 rfl (lv_at hl 3 rfl) ?_
  refine p_rd (k := 1) (v := r1) FX hX hbl hbA hS (lv_at hl 5 rfl) (lv_at hl 1 rfl) dL_law_946 dL_law_947 dL_law_949 dL_law_950 dL_law_951 rfl hin1 ey1 ?_
  obtain ⟨eT, eA, hI2⟩ := st_orElseThrow r1 n0 hI
  refine c_WRV (wr := [(x, .inr (2, [.ref bx, .ref px, .ref t, .int ak, .int su, .int gt, .int lf, .int rf, .int kn])), (bx, .inl (cI, 6, .inl f)), (px, .inl (cI, 2, .inl g)), (t, .inr (1, [.ref bt, .int 0, .int ml, .int cn])), (bt, .inl (cB, 16, .inl bs)), (q, .inr (3, [.long (hn_orElseThrow r1 f n0), sv]))]) (wsN := [(x, .inr (2, [.ref bx, .ref px, .ref t, .int ak, .int su, .int gt, .int lf, .int rf, .int kn])), (bx, .inl (cI, 6, .inl f)), (px, .inl (cI, 2, .inl g)), (t, .inr (1, [.ref bt, .int 0, .int ml, .int cn])), (bt, .inl (cB, 16, .inl bs)), (o, .inr (4, [.int (wth_X2_orElseThrow r1 h), .ref bo, .ref po, .int ak', .int su', .int gt', .int lf', .int rf', .int kn'])), (bo, .inl (cI, 6, .inl h)), (po, .inl (cI, 2, .inl j)), (q, .inr (3, [.long (hn_orElseThrow r1 f n0), sv]))]) (i0 := 5) (ci := 4) FX (k_X2_orElseThrow l D cI cB o bo po th h j ak' su' gt' lf' rf' kn' r1) mi_X2_orElseThrow rfl ml_RL_211 (RMok.mk) hl.1 rfl (Nat.le_of_ble_eq_true rfl) dL_law_952 ⟨by omega, by omega⟩ hK hP hD hS hA [5, 6, 7] rfl [0, 1, 2, 3, 4, 8] rfl rfl (by decide) [0, 1, 2, 3, 4, 6, 7, 8, 5] rfl rfl rfl rfl rfl (fun H locs hP hD hS => ?_)
  refine lv_istore (lv' := [(6, .int (v_X2_orElseThrow r1 h)), (5, .int (hk_orElseThrow r1 f)), (4, .int (nI i)), (3, .ref q), (2, .ref o), (1, .ref x), (0, .ref b)]) FX.1 FX.2.1 dL_law_955 hl (by decide) rfl (fun ls hl => ?_)
  refine lv_goto (tgt := 1830) FX.1 FX.2.1 dL_law_957 (by decide) ?_
  refine W.widen (k := cc + 33) (n := ss + 321) (by omega) (by omega) ?_
  exact kk H locs f g ak su gt lf rf kn ml cn bs (wth_X2_orElseThrow r1 h) h j ak' su' gt' lf' rf' kn' (hn_orElseThrow r1 f n0) sv ls hI2 hb hc hP hD hS (lv_sub hl [2, 3, 4, 5, 6] rfl)
set_option maxRecDepth 100000 in
set_option maxHeartbeats 4000000 in
theorem case_16 {p : Program} {l : Launch} {e : Env} {s : State} {m : MethodId} {below : List Frame} {meth : Method} {c : Code} (hl0 : l.stackTraces = false) (D : va_G) (cI cB : ClassId) (b L : Nat) (xs : Nat → Int32) (x bx px t bt o bo po q : Nat) (to tt : Nat) (go gu : Nat → Int32) (na nv : Nat) (nf : Nat → Int32) (nb nw : Nat) (nh : Nat → Int32) (ea ew : Nat) (ef : Nat → Int32) (i cc ss : Nat) (hi : i + 6 ≤ L) (hcc : cc + 33 ≤ room_1.cells) (hss : ss + 321 ≤ room_1.slots) (hL : L ≤ 3072) (FX : CallFix p m c cL_law 7 s #[.ref b] bigW RL) (hK : va_K D KL (TY cI cB) s) (hX : va_X b L xs s s.heap) (hbl : b < s.heap.size) (hz : zLaw to tt go gu na nv nf nb nw nh ea ew ef (fun q => s.heap.size ≤ q) s s.heap) (hfn : sb_Fit nf) (hfe : sb_Fit ef) (hnn : TL 4 nf nh) (kk : LGo p l e s m below meth c D cI cB b x bx px t bt o bo po q i 1830 (cc + 33) (ss + 321)) : LGo p l e s m below meth c D cI cB b x bx px t bt o bo po q i 960 cc ss := by
  intro H locs f g ak su gt lf rf kn ml cn bs th h j ak' su' gt' lf' rf' kn' n0 sv ls hI hb hc hP hD hS hl
  have hA : ∀ q : Nat, s.heap.size ≤ q → s.heap.size ≤ q := fun _ h => h
  have hbA : ¬ (fun q : Nat => s.heap.size ≤ q) b := Nat.not_le.mpr hbl
  obtain ⟨r1, ey1⟩ : ∃ y, xs (i + 1) = y := ⟨_, rfl⟩
  have hin1 : i + 1 < L ∧ L < 2 ^ 31 := ⟨by omega, by omega⟩
  have hl : lv_has ls 7 [(4, .int (nI i)), (3, .ref q), (2, .ref o), (1, .ref x), (0, .ref b)] := hl
  have hP : va_P D KL [(x, .inr (2, [.ref bx, .ref px, .ref t, .int ak, .int su, .int gt, .int lf, .int rf, .int kn])), (bx, .inl (cI, 6, .inl f)), (px, .inl (cI, 2, .inl g)), (t, .inr (1, [.ref bt, .int 0, .int ml, .int cn])), (bt, .inl (cB, 16, .inl bs)), (o, .inr (4, [.int th, .ref bo, .ref po, .int ak', .int su', .int gt', .int lf', .int rf', .int kn'])), (bo, .inl (cI, 6, .inl h)), (po, .inl (cI, 2, .inl j)), (q, .inr (3, [.long n0, sv]))] H := hP
  have hD : va_D (fun q => s.heap.size ≤ q) [(x, .inr (2, [.ref bx, .ref px, .ref t, .int ak, .int su, .int gt, .int lf, .int rf, .int kn])), (bx, .inl (cI, 6, .inl f)), (px, .inl (cI, 2, .inl g)), (t, .inr (1, [.ref bt, .int 0, .int ml, .int cn])), (bt, .inl (cB, 16, .inl bs)), (o, .inr (4, [.int th, .ref bo, .ref po, .int ak', .int su', .int gt', .int lf', .int rf', .int kn'])), (bo, .inl (cI, 6, .inl h)), (po, .inl (cI, 2, .inl j)), (q, .inr (3, [.long n0, sv]))] := hD
  refine lv_aload_n FX.1 FX.2.1 dL_law_960 rfl (lv_at hl 3 rfl) ?_
  refine p_rd (k := 1) (v := r1) FX hX hbl hbA hS (lv_at hl 4 rfl) (lv_at hl 0 rfl) dL_law_961 dL_law_962 dL_law_964 dL_law_965 dL_law_966 rfl hin1 ey1 ?_
  refine lv_aload_n FX.1 FX.2.1 dL_law_967 rfl (lv_at hl 1 rfl) ?_
  refine c_J (W0 := [(x, .inr (2, [.ref bx, .ref px, .ref t, .int ak, .int su, .int gt, .int lf, .int rf, .int kn])), (bx, .inl (cI, 6, .inl f)), (px, .inl (cI, 2, .inl g)), (q, .inr (3, [.long n0, sv]))]) (wr := [(t, .inr (1, [.ref bt, .int 0, .int ml, .int cn])), (bt, .inl (cB, 16, .inl bs)), (o, .inr (4, [.int th, .ref bo, .ref po, .int ak', .int su', .int gt', .int lf', .int rf', .int kn'])), (bo, .inl (cI, 6, .inl h)), (po, .inl (cI, 2, .inl j))]) (wsN := fun _ => [(x, .inr (2, [.ref bx, .ref px, .ref t, .int ak, .int su, .int gt, .int lf, .int rf, .int kn])), (bx, .inl (cI, 6, .inl f)), (px, .inl (cI, 2, .inl g)), (t, .inr (1, [.ref bt, .int 0, .int ml, .int cn])), (bt, .inl (cB, 16, .inl bs)), (o, .inr (4, [.int th, .ref bo, .ref po, .int ak', .int su', .int gt', .int lf', .int rf', .int kn'])), (bo, .inl (cI, 6, .inl h)), (po, .inl (cI, 2, .inl j)), (q, .inr (3, [.long (hn_isFull r1 f n0), sv]))]) (vx_runSW FX ((j_L_isFull l hl0 D cI cB x bx px t f g ak su gt lf rf kn q n0 sv r1) H.size) (my_cwSW FX.2.2.2.2 mh_L_isFull ml_RL_212 (RMok.mk)) ⟨PJ.blind (zAnd_ok (zAnd_ok zz_ok zN_ok) zF_ok), fun U hU hW => ⟨rfl, my_preJ (zAnd_ok (zAnd_ok zz_ok zN_ok) zF_ok) ⟨hz.1.1, hz.1.2.1⟩ hS hA hK hP hD [0, 1, 2, 8] rfl rfl U hU hW⟩⟩ rfl rfl hl.1 rfl (lv_room (Nat.le_of_ble_eq_true rfl)) dL_law_968 ⟨by omega, by omega⟩) hP hD hS hA [0, 1, 2, 8] rfl [3, 4, 5, 6, 7] rfl (by decide) [5, 6, 7, 0, 1, 2, 3, 4, 8] (fun _ => rfl) rfl (fun u1 H locs hp_1 hP hD hS => ?_)
  have hP : va_P D KL [(x, .inr (2, [.ref bx, .ref px, .ref t, .int ak, .int su, .int gt, .int lf, .int rf, .int kn])), (bx, .inl (cI, 6, .inl f)), (px, .inl (cI, 2, .inl g)), (t, .inr (1, [.ref bt, .int 0, .int ml, .int cn])), (bt, .inl (cB, 16, .inl bs)), (o, .inr (4, [.int th, .ref bo, .ref po, .int ak', .int su', .int gt', .int lf', .int rf', .int kn'])), (bo, .inl (cI, 6, .inl h)), (po, .inl (cI, 2, .inl j)), (q, .inr (3, [.long (hn_isFull r1 f n0), sv]))] H := hP
  have hD : va_D (fun q => s.heap.size ≤ q) [(x, .inr (2, [.ref bx, .ref px, .ref t, .int ak, .int su, .int gt, .int lf, .int rf, .int kn])), (bx, .inl (cI, 6, .inl f)), (px, .inl (cI, 2, .inl g)), (t, .inr (1, [.ref bt, .int 0, .int ml, .int cn])), (bt, .inl (cB, 16, .inl bs)), (o, .inr (4, [.int th, .ref bo, .ref po, .int ak', .int su', .int gt', .int lf', .int rf', .int kn'])), (bo, .inl (cI, 6, .inl h)), (po, .inl (cI, 2, .inl j)), (q, .inr (3, [.long (hn_isFull r1 f n0), sv]))] := hD
  refine W.eq (g2 := F0 m 971 ls [.int (hk_isFull r1)]) rfl ?_
  refine lv_istore (lv' := [(5, .int (hk_isFull r1)), (4, .int (nI i)), (3, .ref q), (2, .ref o), (1, .ref x), (0, .ref b)]) FX.1 FX.2.1 dL_law_971 hl (by decide) rfl (fun ls hl => ?_)
  refine lv_aload_n FX.1 FX.2.1 dL_law_973 rfl (lv_at hl 3 rfl) ?_
  refine p_rd (k := 1) (v := r1) FX hX hbl hbA hS (lv_at hl 5 rfl) (lv_at hl 1 rfl) dL_law_974 dL_law_975 dL_law_977 dL_law_978 dL_law_979 rfl hin1 ey1 ?_
  obtain ⟨eT, eA, hI2⟩ := st_isFull r1 n0 hI
  refine c_WRV (wr := [(x, .inr (2, [.ref bx, .ref px, .ref t, .int ak, .int su, .int gt, .int lf, .int rf, .int kn])), (bx, .inl (cI, 6, .inl f)), (px, .inl (cI, 2, .inl g)), (t, .inr (1, [.ref bt, .int 0, .int ml, .int cn])), (bt, .inl (cB, 16, .inl bs)), (q, .inr (3, [.long (hn_isFull r1 f n0), sv]))]) (wsN := [(x, .inr (2, [.ref bx, .ref px, .ref t, .int ak, .int su, .int gt, .int lf, .int rf, .int kn])), (bx, .inl (cI, 6, .inl f)), (px, .inl (cI, 2, .inl g)), (t, .inr (1, [.ref bt, .int 0, .int ml, .int cn])), (bt, .inl (cB, 16, .inl bs)), (o, .inr (4, [.int (wth_X2_isFull r1), .ref bo, .ref po, .int ak', .int su', .int gt', .int lf', .int rf', .int kn'])), (bo, .inl (cI, 6, .inl h)), (po, .inl (cI, 2, .inl j)), (q, .inr (3, [.long (hn_isFull r1 f n0), sv]))]) (i0 := 5) (ci := 4) FX (k_X2_isFull l D cI cB o bo po th h j ak' su' gt' lf' rf' kn' r1) mi_X2_isFull rfl ml_RL_214 (RMok.mk) hl.1 rfl (Nat.le_of_ble_eq_true rfl) dL_law_980 ⟨by omega, by omega⟩ hK hP hD hS hA [5, 6, 7] rfl [0, 1, 2, 3, 4, 8] rfl rfl (by decide) [0, 1, 2, 3, 4, 6, 7, 8, 5] rfl rfl rfl rfl rfl (fun H locs hP hD hS => ?_)
  refine lv_istore (lv' := [(6, .int (v_X2_isFull r1 h)), (5, .int (hk_isFull r1)), (4, .int (nI i)), (3, .ref q), (2, .ref o), (1, .ref x), (0, .ref b)]) FX.1 FX.2.1 dL_law_983 hl (by decide) rfl (fun ls hl => ?_)
  refine lv_goto (tgt := 1830) FX.1 FX.2.1 dL_law_985 (by decide) ?_
  refine W.widen (k := cc + 33) (n := ss + 321) (by omega) (by omega) ?_
  exact kk H locs f g ak su gt lf rf kn ml cn bs (wth_X2_isFull r1) h j ak' su' gt' lf' rf' kn' (hn_isFull r1 f n0) sv ls hI2 hb hc hP hD hS (lv_sub hl [2, 3, 4, 5, 6] rfl)
set_option maxRecDepth 100000 in
set_option maxHeartbeats 4000000 in
theorem case_17 {p : Program} {l : Launch} {e : Env} {s : State} {m : MethodId} {below : List Frame} {meth : Method} {c : Code} (hl0 : l.stackTraces = false) (D : va_G) (cI cB : ClassId) (b L : Nat) (xs : Nat → Int32) (x bx px t bt o bo po q : Nat) (to tt : Nat) (go gu : Nat → Int32) (na nv : Nat) (nf : Nat → Int32) (nb nw : Nat) (nh : Nat → Int32) (ea ew : Nat) (ef : Nat → Int32) (i cc ss : Nat) (hi : i + 6 ≤ L) (hcc : cc + 33 ≤ room_1.cells) (hss : ss + 321 ≤ room_1.slots) (hL : L ≤ 3072) (FX : CallFix p m c cL_law 7 s #[.ref b] bigW RL) (hK : va_K D KL (TY cI cB) s) (hX : va_X b L xs s s.heap) (hbl : b < s.heap.size) (hz : zLaw to tt go gu na nv nf nb nw nh ea ew ef (fun q => s.heap.size ≤ q) s s.heap) (hfn : sb_Fit nf) (hfe : sb_Fit ef) (hnn : TL 4 nf nh) (kk : LGo p l e s m below meth c D cI cB b x bx px t bt o bo po q i 1830 (cc + 33) (ss + 321)) : LGo p l e s m below meth c D cI cB b x bx px t bt o bo po q i 988 cc ss := by
  intro H locs f g ak su gt lf rf kn ml cn bs th h j ak' su' gt' lf' rf' kn' n0 sv ls hI hb hc hP hD hS hl
  have hA : ∀ q : Nat, s.heap.size ≤ q → s.heap.size ≤ q := fun _ h => h
  have hbA : ¬ (fun q : Nat => s.heap.size ≤ q) b := Nat.not_le.mpr hbl
  obtain ⟨r1, ey1⟩ : ∃ y, xs (i + 1) = y := ⟨_, rfl⟩
  have hin1 : i + 1 < L ∧ L < 2 ^ 31 := ⟨by omega, by omega⟩
  have hl : lv_has ls 7 [(4, .int (nI i)), (3, .ref q), (2, .ref o), (1, .ref x), (0, .ref b)] := hl
  have hP : va_P D KL [(x, .inr (2, [.ref bx, .ref px, .ref t, .int ak, .int su, .int gt, .int lf, .int rf, .int kn])), (bx, .inl (cI, 6, .inl f)), (px, .inl (cI, 2, .inl g)), (t, .inr (1, [.ref bt, .int 0, .int ml, .int cn])), (bt, .inl (cB, 16, .inl bs)), (o, .inr (4, [.int th, .ref bo, .ref po, .int ak', .int su', .int gt', .int lf', .int rf', .int kn'])), (bo, .inl (cI, 6, .inl h)), (po, .inl (cI, 2, .inl j)), (q, .inr (3, [.long n0, sv]))] H := hP
  have hD : va_D (fun q => s.heap.size ≤ q) [(x, .inr (2, [.ref bx, .ref px, .ref t, .int ak, .int su, .int gt, .int lf, .int rf, .int kn])), (bx, .inl (cI, 6, .inl f)), (px, .inl (cI, 2, .inl g)), (t, .inr (1, [.ref bt, .int 0, .int ml, .int cn])), (bt, .inl (cB, 16, .inl bs)), (o, .inr (4, [.int th, .ref bo, .ref po, .int ak', .int su', .int gt', .int lf', .int rf', .int kn'])), (bo, .inl (cI, 6, .inl h)), (po, .inl (cI, 2, .inl j)), (q, .inr (3, [.long n0, sv]))] := hD
  refine lv_aload_n FX.1 FX.2.1 dL_law_988 rfl (lv_at hl 3 rfl) ?_
  refine p_rd (k := 1) (v := r1) FX hX hbl hbA hS (lv_at hl 4 rfl) (lv_at hl 0 rfl) dL_law_989 dL_law_990 dL_law_992 dL_law_993 dL_law_994 rfl hin1 ey1 ?_
  refine lv_aload_n FX.1 FX.2.1 dL_law_995 rfl (lv_at hl 1 rfl) ?_
  refine c_J (W0 := [(x, .inr (2, [.ref bx, .ref px, .ref t, .int ak, .int su, .int gt, .int lf, .int rf, .int kn])), (bx, .inl (cI, 6, .inl f)), (px, .inl (cI, 2, .inl g)), (q, .inr (3, [.long n0, sv]))]) (wr := [(t, .inr (1, [.ref bt, .int 0, .int ml, .int cn])), (bt, .inl (cB, 16, .inl bs)), (o, .inr (4, [.int th, .ref bo, .ref po, .int ak', .int su', .int gt', .int lf', .int rf', .int kn'])), (bo, .inl (cI, 6, .inl h)), (po, .inl (cI, 2, .inl j))]) (wsN := fun _ => [(x, .inr (2, [.ref bx, .ref px, .ref t, .int ak, .int su, .int gt, .int lf, .int rf, .int kn])), (bx, .inl (cI, 6, .inl f)), (px, .inl (cI, 2, .inl g)), (t, .inr (1, [.ref bt, .int 0, .int ml, .int cn])), (bt, .inl (cB, 16, .inl bs)), (o, .inr (4, [.int th, .ref bo, .ref po, .int ak', .int su', .int gt', .int lf', .int rf', .int kn'])), (bo, .inl (cI, 6, .inl h)), (po, .inl (cI, 2, .inl j)), (q, .inr (3, [.long (hn_isEmpty r1 f n0), sv]))]) (vx_runSW FX ((j_L_isEmpty l hl0 D cI cB x bx px t f g ak su gt lf rf kn q n0 sv r1) H.size) (my_cwSW FX.2.2.2.2 mh_L_isEmpty ml_RL_215 (RMok.mk)) ⟨PJ.blind (zAnd_ok (zAnd_ok zz_ok zN_ok) zF_ok), fun U hU hW => ⟨rfl, my_preJ (zAnd_ok (zAnd_ok zz_ok zN_ok) zF_ok) ⟨hz.1.1, hz.1.2.1⟩ hS hA hK hP hD [0, 1, 2, 8] rfl rfl U hU hW⟩⟩ rfl rfl hl.1 rfl (lv_room (Nat.le_of_ble_eq_true rfl)) dL_law_996 ⟨by omega, by omega⟩) hP hD hS hA [0, 1, 2, 8] rfl [3, 4, 5, 6, 7] rfl (by decide) [5, 6, 7, 0, 1, 2, 3, 4, 8] (fun _ => rfl) rfl (fun u1 H locs hp_1 hP hD hS => ?_)
  have hP : va_P D KL [(x, .inr (2, [.ref bx, .ref px, .ref t, .int ak, .int su, .int gt, .int lf, .int rf, .int kn])), (bx, .inl (cI, 6, .inl f)), (px, .inl (cI, 2, .inl g)), (t, .inr (1, [.ref bt, .int 0, .int ml, .int cn])), (bt, .inl (cB, 16, .inl bs)), (o, .inr (4, [.int th, .ref bo, .ref po, .int ak', .int su', .int gt', .int lf', .int rf', .int kn'])), (bo, .inl (cI, 6, .inl h)), (po, .inl (cI, 2, .inl j)), (q, .inr (3, [.long (hn_isEmpty r1 f n0), sv]))] H := hP
  have hD : va_D (fun q => s.heap.size ≤ q) [(x, .inr (2, [.ref bx, .ref px, .ref t, .int ak, .int su, .int gt, .int lf, .int rf, .int kn])), (bx, .inl (cI, 6, .inl f)), (px, .inl (cI, 2, .inl g)), (t, .inr (1, [.ref bt, .int 0, .int ml, .int cn])), (bt, .inl (cB, 16, .inl bs)), (o, .inr (4, [.int th, .ref bo, .ref po, .int ak', .int su', .int gt', .int lf', .int rf', .int kn'])), (bo, .inl (cI, 6, .inl h)), (po, .inl (cI, 2, .inl j)), (q, .inr (3, [.long (hn_isEmpty r1 f n0), sv]))] := hD
  refine W.eq (g2 := F0 m 999 ls [.int (hk_isEmpty r1)]) rfl ?_
  refine lv_istore (lv' := [(5, .int (hk_isEmpty r1)), (4, .int (nI i)), (3, .ref q), (2, .ref o), (1, .ref x), (0, .ref b)]) FX.1 FX.2.1 dL_law_999 hl (by decide) rfl (fun ls hl => ?_)
  refine lv_aload_n FX.1 FX.2.1 dL_law_1001 rfl (lv_at hl 3 rfl) ?_
  refine p_rd (k := 1) (v := r1) FX hX hbl hbA hS (lv_at hl 5 rfl) (lv_at hl 1 rfl) dL_law_1002 dL_law_1003 dL_law_1005 dL_law_1006 dL_law_1007 rfl hin1 ey1 ?_
  obtain ⟨eT, eA, hI2⟩ := st_isEmpty r1 n0 hI
  refine c_WRV (wr := [(x, .inr (2, [.ref bx, .ref px, .ref t, .int ak, .int su, .int gt, .int lf, .int rf, .int kn])), (bx, .inl (cI, 6, .inl f)), (px, .inl (cI, 2, .inl g)), (t, .inr (1, [.ref bt, .int 0, .int ml, .int cn])), (bt, .inl (cB, 16, .inl bs)), (q, .inr (3, [.long (hn_isEmpty r1 f n0), sv]))]) (wsN := [(x, .inr (2, [.ref bx, .ref px, .ref t, .int ak, .int su, .int gt, .int lf, .int rf, .int kn])), (bx, .inl (cI, 6, .inl f)), (px, .inl (cI, 2, .inl g)), (t, .inr (1, [.ref bt, .int 0, .int ml, .int cn])), (bt, .inl (cB, 16, .inl bs)), (o, .inr (4, [.int (wth_X2_isEmpty r1), .ref bo, .ref po, .int ak', .int su', .int gt', .int lf', .int rf', .int kn'])), (bo, .inl (cI, 6, .inl h)), (po, .inl (cI, 2, .inl j)), (q, .inr (3, [.long (hn_isEmpty r1 f n0), sv]))]) (i0 := 5) (ci := 4) FX (k_X2_isEmpty l D cI cB o bo po th h j ak' su' gt' lf' rf' kn' r1) mi_X2_isEmpty rfl ml_RL_217 (RMok.mk) hl.1 rfl (Nat.le_of_ble_eq_true rfl) dL_law_1008 ⟨by omega, by omega⟩ hK hP hD hS hA [5, 6, 7] rfl [0, 1, 2, 3, 4, 8] rfl rfl (by decide) [0, 1, 2, 3, 4, 6, 7, 8, 5] rfl rfl rfl rfl rfl (fun H locs hP hD hS => ?_)
  refine lv_istore (lv' := [(6, .int (v_X2_isEmpty r1 h)), (5, .int (hk_isEmpty r1)), (4, .int (nI i)), (3, .ref q), (2, .ref o), (1, .ref x), (0, .ref b)]) FX.1 FX.2.1 dL_law_1011 hl (by decide) rfl (fun ls hl => ?_)
  refine lv_goto (tgt := 1830) FX.1 FX.2.1 dL_law_1013 (by decide) ?_
  refine W.widen (k := cc + 33) (n := ss + 321) (by omega) (by omega) ?_
  exact kk H locs f g ak su gt lf rf kn ml cn bs (wth_X2_isEmpty r1) h j ak' su' gt' lf' rf' kn' (hn_isEmpty r1 f n0) sv ls hI2 hb hc hP hD hS (lv_sub hl [2, 3, 4, 5, 6] rfl)
set_option maxRecDepth 100000 in
set_option maxHeartbeats 4000000 in
theorem case_18 {p : Program} {l : Launch} {e : Env} {s : State} {m : MethodId} {below : List Frame} {meth : Method} {c : Code} (hl0 : l.stackTraces = false) (D : va_G) (cI cB : ClassId) (b L : Nat) (xs : Nat → Int32) (x bx px t bt o bo po q : Nat) (to tt : Nat) (go gu : Nat → Int32) (na nv : Nat) (nf : Nat → Int32) (nb nw : Nat) (nh : Nat → Int32) (ea ew : Nat) (ef : Nat → Int32) (i cc ss : Nat) (hi : i + 6 ≤ L) (hcc : cc + 33 ≤ room_1.cells) (hss : ss + 321 ≤ room_1.slots) (hL : L ≤ 3072) (FX : CallFix p m c cL_law 7 s #[.ref b] bigW RL) (hK : va_K D KL (TY cI cB) s) (hX : va_X b L xs s s.heap) (hbl : b < s.heap.size) (hz : zLaw to tt go gu na nv nf nb nw nh ea ew ef (fun q => s.heap.size ≤ q) s s.heap) (hfn : sb_Fit nf) (hfe : sb_Fit ef) (hnn : TL 4 nf nh) (kk : LGo p l e s m below meth c D cI cB b x bx px t bt o bo po q i 1830 (cc + 33) (ss + 321)) : LGo p l e s m below meth c D cI cB b x bx px t bt o bo po q i 1016 cc ss := by
  intro H locs f g ak su gt lf rf kn ml cn bs th h j ak' su' gt' lf' rf' kn' n0 sv ls hI hb hc hP hD hS hl
  have hA : ∀ q : Nat, s.heap.size ≤ q → s.heap.size ≤ q := fun _ h => h
  have hbA : ¬ (fun q : Nat => s.heap.size ≤ q) b := Nat.not_le.mpr hbl
  obtain ⟨r1, ey1⟩ : ∃ y, xs (i + 1) = y := ⟨_, rfl⟩
  have hin1 : i + 1 < L ∧ L < 2 ^ 31 := ⟨by omega, by omega⟩
  obtain ⟨r2, ey2⟩ : ∃ y, xs (i + 2) = y := ⟨_, rfl⟩
  have hin2 : i + 2 < L ∧ L < 2 ^ 31 := ⟨by omega, by omega⟩
  have hl : lv_has ls 7 [(4, .int (nI i)), (3, .ref q), (2, .ref o), (1, .ref x), (0, .ref b)] := hl
  have hP : va_P D KL [(x, .inr (2, [.ref bx, .ref px, .ref t, .int ak, .int su, .int gt, .int lf, .int rf, .int kn])), (bx, .inl (cI, 6, .inl f)), (px, .inl (cI, 2, .inl g)), (t, .inr (1, [.ref bt, .int 0, .int ml, .int cn])), (bt, .inl (cB, 16, .inl bs)), (o, .inr (4, [.int th, .ref bo, .ref po, .int ak', .int su', .int gt', .int lf', .int rf', .int kn'])), (bo, .inl (cI, 6, .inl h)), (po, .inl (cI, 2, .inl j)), (q, .inr (3, [.long n0, sv]))] H := hP
  have hD : va_D (fun q => s.heap.size ≤ q) [(x, .inr (2, [.ref bx, .ref px, .ref t, .int ak, .int su, .int gt, .int lf, .int rf, .int kn])), (bx, .inl (cI, 6, .inl f)), (px, .inl (cI, 2, .inl g)), (t, .inr (1, [.ref bt, .int 0, .int ml, .int cn])), (bt, .inl (cB, 16, .inl bs)), (o, .inr (4, [.int th, .ref bo, .ref po, .int ak', .int su', .int gt', .int lf', .int rf', .int kn'])), (bo, .inl (cI, 6, .inl h)), (po, .inl (cI, 2, .inl j)), (q, .inr (3, [.long n0, sv]))] := hD
  refine lv_aload_n FX.1 FX.2.1 dL_law_1016 rfl (lv_at hl 3 rfl) ?_
  refine p_rd (k := 1) (v := r1) FX hX hbl hbA hS (lv_at hl 4 rfl) (lv_at hl 0 rfl) dL_law_1017 dL_law_1018 dL_law_1020 dL_law_1021 dL_law_1022 rfl hin1 ey1 ?_
  refine p_rd (k := 2) (v := r2) FX hX hbl hbA hS (lv_at hl 4 rfl) (lv_at hl 0 rfl) dL_law_1023 dL_law_1024 dL_law_1026 dL_law_1027 dL_law_1028 rfl hin2 ey2 ?_
  refine lv_aload_n FX.1 FX.2.1 dL_law_1029 rfl (lv_at hl 1 rfl) ?_
  refine c_J (W0 := [(x, .inr (2, [.ref bx, .ref px, .ref t, .int ak, .int su, .int gt, .int lf, .int rf, .int kn])), (bx, .inl (cI, 6, .inl f)), (px, .inl (cI, 2, .inl g)), (q, .inr (3, [.long n0, sv]))]) (wr := [(t, .inr (1, [.ref bt, .int 0, .int ml, .int cn])), (bt, .inl (cB, 16, .inl bs)), (o, .inr (4, [.int th, .ref bo, .ref po, .int ak', .int su', .int gt', .int lf', .int rf', .int kn'])), (bo, .inl (cI, 6, .inl h)), (po, .inl (cI, 2, .inl j))]) (wsN := fun _ => [(x, .inr (2, [.ref bx, .ref px, .ref t, .int ak, .int su, .int gt, .int lf, .int rf, .int kn])), (bx, .inl (cI, 6, .inl f)), (px, .inl (cI, 2, .inl g)), (t, .inr (1, [.ref bt, .int 0, .int ml, .int cn])), (bt, .inl (cB, 16, .inl bs)), (o, .inr (4, [.int th, .ref bo, .ref po, .int ak', .int su', .int gt', .int lf', .int rf', .int kn'])), (bo, .inl (cI, 6, .inl h)), (po, .inl (cI, 2, .inl j)), (q, .inr (3, [.long (hn_isLike r1 r2 f n0), sv]))]) (vx_runSW FX ((j_L_isLike l hl0 D cI cB x bx px t f g ak su gt lf rf kn q n0 sv r1 r2) H.size) (my_cwSW FX.2.2.2.2 mh_L_isLike ml_RL_218 (RMok.mk)) ⟨PJ.blind (zAnd_ok (zAnd_ok zz_ok zN_ok) zF_ok), fun U hU hW => ⟨rfl, my_preJ (zAnd_ok (zAnd_ok zz_ok zN_ok) zF_ok) ⟨hz.1.1, hz.1.2.1⟩ hS hA hK hP hD [0, 1, 2, 8] rfl rfl U hU hW⟩⟩ rfl rfl hl.1 rfl (lv_room (Nat.le_of_ble_eq_true rfl)) dL_law_1030 ⟨by omega, by omega⟩) hP hD hS hA [0, 1, 2, 8] rfl [3, 4, 5, 6, 7] rfl (by decide) [5, 6, 7, 0, 1, 2, 3, 4, 8] (fun _ => rfl) rfl (fun u1 H locs hp_1 hP hD hS => ?_)
  have hP : va_P D KL [(x, .inr (2, [.ref bx, .ref px, .ref t, .int ak, .int su, .int gt, .int lf, .int rf, .int kn])), (bx, .inl (cI, 6, .inl f)), (px, .inl (cI, 2, .inl g)), (t, .inr (1, [.ref bt, .int 0, .int ml, .int cn])), (bt, .inl (cB, 16, .inl bs)), (o, .inr (4, [.int th, .ref bo, .ref po, .int ak', .int su', .int gt', .int lf', .int rf', .int kn'])), (bo, .inl (cI, 6, .inl h)), (po, .inl (cI, 2, .inl j)), (q, .inr (3, [.long (hn_isLike r1 r2 f n0), sv]))] H := hP
  have hD : va_D (fun q => s.heap.size ≤ q) [(x, .inr (2, [.ref bx, .ref px, .ref t, .int ak, .int su, .int gt, .int lf, .int rf, .int kn])), (bx, .inl (cI, 6, .inl f)), (px, .inl (cI, 2, .inl g)), (t, .inr (1, [.ref bt, .int 0, .int ml, .int cn])), (bt, .inl (cB, 16, .inl bs)), (o, .inr (4, [.int th, .ref bo, .ref po, .int ak', .int su', .int gt', .int lf', .int rf', .int kn'])), (bo, .inl (cI, 6, .inl h)), (po, .inl (cI, 2, .inl j)), (q, .inr (3, [.long (hn_isLike r1 r2 f n0), sv]))] := hD
  refine W.eq (g2 := F0 m 1033 ls [.int (hk_isLike r1 r2)]) rfl ?_
  refine lv_istore (lv' := [(5, .int (hk_isLike r1 r2)), (4, .int (nI i)), (3, .ref q), (2, .ref o), (1, .ref x), (0, .ref b)]) FX.1 FX.2.1 dL_law_1033 hl (by decide) rfl (fun ls hl => ?_)
  refine lv_aload_n FX.1 FX.2.1 dL_law_1035 rfl (lv_at hl 3 rfl) ?_
  refine p_rd (k := 1) (v := r1) FX hX hbl hbA hS (lv_at hl 5 rfl) (lv_at hl 1 rfl) dL_law_1036 dL_law_1037 dL_law_1039 dL_law_1040 dL_law_1041 rfl hin1 ey1 ?_
  refine p_rd (k := 2) (v := r2) FX hX hbl hbA hS (lv_at hl 5 rfl) (lv_at hl 1 rfl) dL_law_1042 dL_law_1043 dL_law_1045 dL_law_1046 dL_law_1047 rfl hin2 ey2 ?_
  obtain ⟨eT, eA, hI2⟩ := st_isLike r1 r2 n0 hI
  refine c_WRV (wr := [(x, .inr (2, [.ref bx, .ref px, .ref t, .int ak, .int su, .int gt, .int lf, .int rf, .int kn])), (bx, .inl (cI, 6, .inl f)), (px, .inl (cI, 2, .inl g)), (t, .inr (1, [.ref bt, .int 0, .int ml, .int cn])), (bt, .inl (cB, 16, .inl bs)), (q, .inr (3, [.long (hn_isLike r1 r2 f n0), sv]))]) (wsN := [(x, .inr (2, [.ref bx, .ref px, .ref t, .int ak, .int su, .int gt, .int lf, .int rf, .int kn])), (bx, .inl (cI, 6, .inl f)), (px, .inl (cI, 2, .inl g)), (t, .inr (1, [.ref bt, .int 0, .int ml, .int cn])), (bt, .inl (cB, 16, .inl bs)), (o, .inr (4, [.int (wth_X2_isLike r1 r2), .ref bo, .ref po, .int ak', .int su', .int gt', .int lf', .int rf', .int kn'])), (bo, .inl (cI, 6, .inl h)), (po, .inl (cI, 2, .inl j)), (q, .inr (3, [.long (hn_isLike r1 r2 f n0), sv]))]) (i0 := 5) (ci := 4) FX (k_X2_isLike l D cI cB o bo po th h j ak' su' gt' lf' rf' kn' r1 r2) mi_X2_isLike rfl ml_RL_220 (RMok.mk) hl.1 rfl (Nat.le_of_ble_eq_true rfl) dL_law_1048 ⟨by omega, by omega⟩ hK hP hD hS hA [5, 6, 7] rfl [0, 1, 2, 3, 4, 8] rfl rfl (by decide) [0, 1, 2, 3, 4, 6, 7, 8, 5] rfl rfl rfl rfl rfl (fun H locs hP hD hS => ?_)
  refine lv_istore (lv' := [(6, .int (v_X2_isLike r1 r2 h)), (5, .int (hk_isLike r1 r2)), (4, .int (nI i)), (3, .ref q), (2, .ref o), (1, .ref x), (0, .ref b)]) FX.1 FX.2.1 dL_law_1051 hl (by decide) rfl (fun ls hl => ?_)
  refine lv_goto (tgt := 1830) FX.1 FX.2.1 dL_law_1053 (by decide) ?_
  refine W.widen (k := cc + 33) (n := ss + 321) (by omega) (by omega) ?_
  exact kk H locs f g ak su gt lf rf kn ml cn bs (wth_X2_isLike r1 r2) h j ak' su' gt' lf' rf' kn' (hn_isLike r1 r2 f n0) sv ls hI2 hb hc hP hD hS (lv_sub hl [2, 3, 4, 5, 6] rfl)
set_option maxRecDepth 100000 in
set_option maxHeartbeats 4000000 in
theorem case_19 {p : Program} {l : Launch} {e : Env} {s : State} {m : MethodId} {below : List Frame} {meth : Method} {c : Code} (hl0 : l.stackTraces = false) (D : va_G) (cI cB : ClassId) (b L : Nat) (xs : Nat → Int32) (x bx px t bt o bo po q : Nat) (to tt : Nat) (go gu : Nat → Int32) (na nv : Nat) (nf : Nat → Int32) (nb nw : Nat) (nh : Nat → Int32) (ea ew : Nat) (ef : Nat → Int32) (i cc ss : Nat) (hi : i + 6 ≤ L) (hcc : cc + 33 ≤ room_1.cells) (hss : ss + 321 ≤ room_1.slots) (hL : L ≤ 3072) (FX : CallFix p m c cL_law 7 s #[.ref b] bigW RL) (hK : va_K D KL (TY cI cB) s) (hX : va_X b L xs s s.heap) (hbl : b < s.heap.size) (hz : zLaw to tt go gu na nv nf nb nw nh ea ew ef (fun q => s.heap.size ≤ q) s s.heap) (hfn : sb_Fit nf) (hfe : sb_Fit ef) (hnn : TL 4 nf nh) (kk : LGo p l e s m below meth c D cI cB b x bx px t bt o bo po q i 1830 (cc + 33) (ss + 321)) : LGo p l e s m below meth c D cI cB b x bx px t bt o bo po q i 1056 cc ss := by
  intro H locs f g ak su gt lf rf kn ml cn bs th h j ak' su' gt' lf' rf' kn' n0 sv ls hI hb hc hP hD hS hl
  have hA : ∀ q : Nat, s.heap.size ≤ q → s.heap.size ≤ q := fun _ h => h
  have hbA : ¬ (fun q : Nat => s.heap.size ≤ q) b := Nat.not_le.mpr hbl
  obtain ⟨r1, ey1⟩ : ∃ y, xs (i + 1) = y := ⟨_, rfl⟩
  have hin1 : i + 1 < L ∧ L < 2 ^ 31 := ⟨by omega, by omega⟩
  have hl : lv_has ls 7 [(4, .int (nI i)), (3, .ref q), (2, .ref o), (1, .ref x), (0, .ref b)] := hl
  have hP : va_P D KL [(x, .inr (2, [.ref bx, .ref px, .ref t, .int ak, .int su, .int gt, .int lf, .int rf, .int kn])), (bx, .inl (cI, 6, .inl f)), (px, .inl (cI, 2, .inl g)), (t, .inr (1, [.ref bt, .int 0, .int ml, .int cn])), (bt, .inl (cB, 16, .inl bs)), (o, .inr (4, [.int th, .ref bo, .ref po, .int ak', .int su', .int gt', .int lf', .int rf', .int kn'])), (bo, .inl (cI, 6, .inl h)), (po, .inl (cI, 2, .inl j)), (q, .inr (3, [.long n0, sv]))] H := hP
  have hD : va_D (fun q => s.heap.size ≤ q) [(x, .inr (2, [.ref bx, .ref px, .ref t, .int ak, .int su, .int gt, .int lf, .int rf, .int kn])), (bx, .inl (cI, 6, .inl f)), (px, .inl (cI, 2, .inl g)), (t, .inr (1, [.ref bt, .int 0, .int ml, .int cn])), (bt, .inl (cB, 16, .inl bs)), (o, .inr (4, [.int th, .ref bo, .ref po, .int ak', .int su', .int gt', .int lf', .int rf', .int kn'])), (bo, .inl (cI, 6, .inl h)), (po, .inl (cI, 2, .inl j)), (q, .inr (3, [.long n0, sv]))] := hD
  refine lv_aload_n FX.1 FX.2.1 dL_law_1056 rfl (lv_at hl 3 rfl) ?_
  refine p_rd (k := 1) (v := r1) FX hX hbl hbA hS (lv_at hl 4 rfl) (lv_at hl 0 rfl) dL_law_1057 dL_law_1058 dL_law_1060 dL_law_1061 dL_law_1062 rfl hin1 ey1 ?_
  refine lv_aload_n FX.1 FX.2.1 dL_law_1063 rfl (lv_at hl 1 rfl) ?_
  refine c_J (W0 := [(x, .inr (2, [.ref bx, .ref px, .ref t, .int ak, .int su, .int gt, .int lf, .int rf, .int kn])), (bx, .inl (cI, 6, .inl f)), (px, .inl (cI, 2, .inl g)), (q, .inr (3, [.long n0, sv]))]) (wr := [(t, .inr (1, [.ref bt, .int 0, .int ml, .int cn])), (bt, .inl (cB, 16, .inl bs)), (o, .inr (4, [.int th, .ref bo, .ref po, .int ak', .int su', .int gt', .int lf', .int rf', .int kn'])), (bo, .inl (cI, 6, .inl h)), (po, .inl (cI, 2, .inl j))]) (wsN := fun _ => [(x, .inr (2, [.ref bx, .ref px, .ref t, .int ak, .int su, .int gt, .int lf, .int rf, .int kn])), (bx, .inl (cI, 6, .inl f)), (px, .inl (cI, 2, .inl g)), (t, .inr (1, [.ref bt, .int 0, .int ml, .int cn])), (bt, .inl (cB, 16, .inl bs)), (o, .inr (4, [.int th, .ref bo, .ref po, .int ak', .int su', .int gt', .int lf', .int rf', .int kn'])), (bo, .inl (cI, 6, .inl h)), (po, .inl (cI, 2, .inl j)), (q, .inr (3, [.long (hn_code r1 f n0), sv]))]) (vx_runSW FX ((j_L_code l hl0 D cI cB x bx px t f g ak su gt lf rf kn q n0 sv r1) H.size) (my_cwSW FX.2.2.2.2 mh_L_code ml_RL_221 (RMok.mk)) ⟨PJ.blind (zAnd_ok (zAnd_ok zz_ok zN_ok) zF_ok), fun U hU hW => ⟨rfl, my_preJ (zAnd_ok (zAnd_ok zz_ok zN_ok) zF_ok) ⟨hz.1.1, hz.1.2.1⟩ hS hA hK hP hD [0, 1, 2, 8] rfl rfl U hU hW⟩⟩ rfl rfl hl.1 rfl (lv_room (Nat.le_of_ble_eq_true rfl)) dL_law_1064 ⟨by omega, by omega⟩) hP hD hS hA [0, 1, 2, 8] rfl [3, 4, 5, 6, 7] rfl (by decide) [5, 6, 7, 0, 1, 2, 3, 4, 8] (fun _ => rfl) rfl (fun u1 H locs hp_1 hP hD hS => ?_)
  have hP : va_P D KL [(x, .inr (2, [.ref bx, .ref px, .ref t, .int ak, .int su, .int gt, .int lf, .int rf, .int kn])), (bx, .inl (cI, 6, .inl f)), (px, .inl (cI, 2, .inl g)), (t, .inr (1, [.ref bt, .int 0, .int ml, .int cn])), (bt, .inl (cB, 16, .inl bs)), (o, .inr (4, [.int th, .ref bo, .ref po, .int ak', .int su', .int gt', .int lf', .int rf', .int kn'])), (bo, .inl (cI, 6, .inl h)), (po, .inl (cI, 2, .inl j)), (q, .inr (3, [.long (hn_code r1 f n0), sv]))] H := hP
  have hD : va_D (fun q => s.heap.size ≤ q) [(x, .inr (2, [.ref bx, .ref px, .ref t, .int ak, .int su, .int gt, .int lf, .int rf, .int kn])), (bx, .inl (cI, 6, .inl f)), (px, .inl (cI, 2, .inl g)), (t, .inr (1, [.ref bt, .int 0, .int ml, .int cn])), (bt, .inl (cB, 16, .inl bs)), (o, .inr (4, [.int th, .ref bo, .ref po, .int ak', .int su', .int gt', .int lf', .int rf', .int kn'])), (bo, .inl (cI, 6, .inl h)), (po, .inl (cI, 2, .inl j)), (q, .inr (3, [.long (hn_code r1 f n0), sv]))] := hD
  refine W.eq (g2 := F0 m 1067 ls [.int (hk_code r1)]) rfl ?_
  refine lv_istore (lv' := [(5, .int (hk_code r1)), (4, .int (nI i)), (3, .ref q), (2, .ref o), (1, .ref x), (0, .ref b)]) FX.1 FX.2.1 dL_law_1067 hl (by decide) rfl (fun ls hl => ?_)
  refine lv_aload_n FX.1 FX.2.1 dL_law_1069 rfl (lv_at hl 3 rfl) ?_
  refine p_rd (k := 1) (v := r1) FX hX hbl hbA hS (lv_at hl 5 rfl) (lv_at hl 1 rfl) dL_law_1070 dL_law_1071 dL_law_1073 dL_law_1074 dL_law_1075 rfl hin1 ey1 ?_
  obtain ⟨eT, eA, hI2⟩ := st_code r1 n0 hI
  refine c_WRV (wr := [(x, .inr (2, [.ref bx, .ref px, .ref t, .int ak, .int su, .int gt, .int lf, .int rf, .int kn])), (bx, .inl (cI, 6, .inl f)), (px, .inl (cI, 2, .inl g)), (t, .inr (1, [.ref bt, .int 0, .int ml, .int cn])), (bt, .inl (cB, 16, .inl bs)), (q, .inr (3, [.long (hn_code r1 f n0), sv]))]) (wsN := [(x, .inr (2, [.ref bx, .ref px, .ref t, .int ak, .int su, .int gt, .int lf, .int rf, .int kn])), (bx, .inl (cI, 6, .inl f)), (px, .inl (cI, 2, .inl g)), (t, .inr (1, [.ref bt, .int 0, .int ml, .int cn])), (bt, .inl (cB, 16, .inl bs)), (o, .inr (4, [.int (wth_X2_code r1), .ref bo, .ref po, .int ak', .int su', .int gt', .int lf', .int rf', .int kn'])), (bo, .inl (cI, 6, .inl h)), (po, .inl (cI, 2, .inl j)), (q, .inr (3, [.long (hn_code r1 f n0), sv]))]) (i0 := 5) (ci := 4) FX (k_X2_code l D cI cB o bo po th h j ak' su' gt' lf' rf' kn' r1) mi_X2_code rfl ml_RL_223 (RMok.mk) hl.1 rfl (Nat.le_of_ble_eq_true rfl) dL_law_1076 ⟨by omega, by omega⟩ hK hP hD hS hA [5, 6, 7] rfl [0, 1, 2, 3, 4, 8] rfl rfl (by decide) [0, 1, 2, 3, 4, 6, 7, 8, 5] rfl rfl rfl rfl rfl (fun H locs hP hD hS => ?_)
  refine lv_istore (lv' := [(6, .int (v_X2_code r1 h)), (5, .int (hk_code r1)), (4, .int (nI i)), (3, .ref q), (2, .ref o), (1, .ref x), (0, .ref b)]) FX.1 FX.2.1 dL_law_1079 hl (by decide) rfl (fun ls hl => ?_)
  refine lv_goto (tgt := 1830) FX.1 FX.2.1 dL_law_1081 (by decide) ?_
  refine W.widen (k := cc + 33) (n := ss + 321) (by omega) (by omega) ?_
  exact kk H locs f g ak su gt lf rf kn ml cn bs (wth_X2_code r1) h j ak' su' gt' lf' rf' kn' (hn_code r1 f n0) sv ls hI2 hb hc hP hD hS (lv_sub hl [2, 3, 4, 5, 6] rfl)
set_option maxRecDepth 100000 in
set_option maxHeartbeats 4000000 in
theorem case_20 {p : Program} {l : Launch} {e : Env} {s : State} {m : MethodId} {below : List Frame} {meth : Method} {c : Code} (hl0 : l.stackTraces = false) (D : va_G) (cI cB : ClassId) (b L : Nat) (xs : Nat → Int32) (x bx px t bt o bo po q : Nat) (to tt : Nat) (go gu : Nat → Int32) (na nv : Nat) (nf : Nat → Int32) (nb nw : Nat) (nh : Nat → Int32) (ea ew : Nat) (ef : Nat → Int32) (i cc ss : Nat) (hi : i + 6 ≤ L) (hcc : cc + 33 ≤ room_1.cells) (hss : ss + 321 ≤ room_1.slots) (hL : L ≤ 3072) (FX : CallFix p m c cL_law 7 s #[.ref b] bigW RL) (hK : va_K D KL (TY cI cB) s) (hX : va_X b L xs s s.heap) (hbl : b < s.heap.size) (hz : zLaw to tt go gu na nv nf nb nw nh ea ew ef (fun q => s.heap.size ≤ q) s s.heap) (hfn : sb_Fit nf) (hfe : sb_Fit ef) (hnn : TL 4 nf nh) (kk : LGo p l e s m below meth c D cI cB b x bx px t bt o bo po q i 1830 (cc + 33) (ss + 321)) : LGo p l e s m below meth c D cI cB b x bx px t bt o bo po q i 1084 cc ss := by
  intro H locs f g ak su gt lf rf kn ml cn bs th h j ak' su' gt' lf' rf' kn' n0 sv ls hI hb hc hP hD hS hl
  have hA : ∀ q : Nat, s.heap.size ≤ q → s.heap.size ≤ q := fun _ h => h
  have hbA : ¬ (fun q : Nat => s.heap.size ≤ q) b := Nat.not_le.mpr hbl
  obtain ⟨r1, ey1⟩ : ∃ y, xs (i + 1) = y := ⟨_, rfl⟩
  have hin1 : i + 1 < L ∧ L < 2 ^ 31 := ⟨by omega, by omega⟩
  obtain ⟨r2, ey2⟩ : ∃ y, xs (i + 2) = y := ⟨_, rfl⟩
  have hin2 : i + 2 < L ∧ L < 2 ^ 31 := ⟨by omega, by omega⟩
  have hl : lv_has ls 7 [(4, .int (nI i)), (3, .ref q), (2, .ref o), (1, .ref x), (0, .ref b)] := hl
  have hP : va_P D KL [(x, .inr (2, [.ref bx, .ref px, .ref t, .int ak, .int su, .int gt, .int lf, .int rf, .int kn])), (bx, .inl (cI, 6, .inl f)), (px, .inl (cI, 2, .inl g)), (t, .inr (1, [.ref bt, .int 0, .int ml, .int cn])), (bt, .inl (cB, 16, .inl bs)), (o, .inr (4, [.int th, .ref bo, .ref po, .int ak', .int su', .int gt', .int lf', .int rf', .int kn'])), (bo, .inl (cI, 6, .inl h)), (po, .inl (cI, 2, .inl j)), (q, .inr (3, [.long n0, sv]))] H := hP
  have hD : va_D (fun q => s.heap.size ≤ q) [(x, .inr (2, [.ref bx, .ref px, .ref t, .int ak, .int su, .int gt, .int lf, .int rf, .int kn])), (bx, .inl (cI, 6, .inl f)), (px, .inl (cI, 2, .inl g)), (t, .inr (1, [.ref bt, .int 0, .int ml, .int cn])), (bt, .inl (cB, 16, .inl bs)), (o, .inr (4, [.int th, .ref bo, .ref po, .int ak', .int su', .int gt', .int lf', .int rf', .int kn'])), (bo, .inl (cI, 6, .inl h)), (po, .inl (cI, 2, .inl j)), (q, .inr (3, [.long n0, sv]))] := hD
  refine lv_aload_n FX.1 FX.2.1 dL_law_1084 rfl (lv_at hl 3 rfl) ?_
  refine p_rd (k := 1) (v := r1) FX hX hbl hbA hS (lv_at hl 4 rfl) (lv_at hl 0 rfl) dL_law_1085 dL_law_1086 dL_law_1088 dL_law_1089 dL_law_1090 rfl hin1 ey1 ?_
  refine p_rd (k := 2) (v := r2) FX hX hbl hbA hS (lv_at hl 4 rfl) (lv_at hl 0 rfl) dL_law_1091 dL_law_1092 dL_law_1094 dL_law_1095 dL_law_1096 rfl hin2 ey2 ?_
  refine lv_aload_n FX.1 FX.2.1 dL_law_1097 rfl (lv_at hl 1 rfl) ?_
  refine c_J (W0 := [(x, .inr (2, [.ref bx, .ref px, .ref t, .int ak, .int su, .int gt, .int lf, .int rf, .int kn])), (bx, .inl (cI, 6, .inl f)), (px, .inl (cI, 2, .inl g)), (q, .inr (3, [.long n0, sv]))]) (wr := [(t, .inr (1, [.ref bt, .int 0, .int ml, .int cn])), (bt, .inl (cB, 16, .inl bs)), (o, .inr (4, [.int th, .ref bo, .ref po, .int ak', .int su', .int gt', .int lf', .int rf', .int kn'])), (bo, .inl (cI, 6, .inl h)), (po, .inl (cI, 2, .inl j))]) (wsN := fun _ => [(x, .inr (2, [.ref bx, .ref px, .ref t, .int ak, .int su, .int gt, .int lf, .int rf, .int kn])), (bx, .inl (cI, 6, .inl f)), (px, .inl (cI, 2, .inl (hg_fillPlain r1 r2 g))), (t, .inr (1, [.ref bt, .int 0, .int ml, .int cn])), (bt, .inl (cB, 16, .inl bs)), (o, .inr (4, [.int th, .ref bo, .ref po, .int ak', .int su', .int gt', .int lf', .int rf', .int kn'])), (bo, .inl (cI, 6, .inl h)), (po, .inl (cI, 2, .inl j)), (q, .inr (3, [.long (hn_fillPlain r1 r2 g n0), sv]))]) (vx_runSW FX ((j_L_fillPlain l hl0 D cI cB x bx px t f g ak su gt lf rf kn q n0 sv r1 r2) H.size) (my_cwSW FX.2.2.2.2 mh_L_fillPlain ml_RL_224 (RMok.mk)) ⟨PJ.blind (zAnd_ok (zAnd_ok zz_ok zN_ok) zF_ok), fun U hU hW => ⟨rfl, my_preJ (zAnd_ok (zAnd_ok zz_ok zN_ok) zF_ok) ⟨hz.1.1, hz.1.2.1⟩ hS hA hK hP hD [0, 1, 2, 8] rfl rfl U hU hW⟩⟩ rfl rfl hl.1 rfl (lv_room (Nat.le_of_ble_eq_true rfl)) dL_law_1098 ⟨by omega, by omega⟩) hP hD hS hA [0, 1, 2, 8] rfl [3, 4, 5, 6, 7] rfl (by decide) [5, 6, 7, 0, 1, 2, 3, 4, 8] (fun _ => rfl) rfl (fun u1 H locs hp_1 hP hD hS => ?_)
  have hP : va_P D KL [(x, .inr (2, [.ref bx, .ref px, .ref t, .int ak, .int su, .int gt, .int lf, .int rf, .int kn])), (bx, .inl (cI, 6, .inl f)), (px, .inl (cI, 2, .inl (hg_fillPlain r1 r2 g))), (t, .inr (1, [.ref bt, .int 0, .int ml, .int cn])), (bt, .inl (cB, 16, .inl bs)), (o, .inr (4, [.int th, .ref bo, .ref po, .int ak', .int su', .int gt', .int lf', .int rf', .int kn'])), (bo, .inl (cI, 6, .inl h)), (po, .inl (cI, 2, .inl j)), (q, .inr (3, [.long (hn_fillPlain r1 r2 g n0), sv]))] H := hP
  have hD : va_D (fun q => s.heap.size ≤ q) [(x, .inr (2, [.ref bx, .ref px, .ref t, .int ak, .int su, .int gt, .int lf, .int rf, .int kn])), (bx, .inl (cI, 6, .inl f)), (px, .inl (cI, 2, .inl (hg_fillPlain r1 r2 g))), (t, .inr (1, [.ref bt, .int 0, .int ml, .int cn])), (bt, .inl (cB, 16, .inl bs)), (o, .inr (4, [.int th, .ref bo, .ref po, .int ak', .int su', .int gt', .int lf', .int rf', .int kn'])), (bo, .inl (cI, 6, .inl h)), (po, .inl (cI, 2, .inl j)), (q, .inr (3, [.long (hn_fillPlain r1 r2 g n0), sv]))] := hD
  refine W.eq (g2 := F0 m 1101 ls [.int (hk_fillPlain r1 r2)]) rfl ?_
  refine lv_istore (lv' := [(5, .int (hk_fillPlain r1 r2)), (4, .int (nI i)), (3, .ref q), (2, .ref o), (1, .ref x), (0, .ref b)]) FX.1 FX.2.1 dL_law_1101 hl (by decide) rfl (fun ls hl => ?_)
  refine lv_aload_n FX.1 FX.2.1 dL_law_1103 rfl (lv_at hl 3 rfl) ?_
  refine p_rd (k := 1) (v := r1) FX hX hbl hbA hS (lv_at hl 5 rfl) (lv_at hl 1 rfl) dL_law_1104 dL_law_1105 dL_law_1107 dL_law_1108 dL_law_1109 rfl hin1 ey1 ?_
  refine p_rd (k := 2) (v := r2) FX hX hbl hbA hS (lv_at hl 5 rfl) (lv_at hl 1 rfl) dL_law_1110 dL_law_1111 dL_law_1113 dL_law_1114 dL_law_1115 rfl hin2 ey2 ?_
  obtain ⟨eT, eA, hI2⟩ := st_fillPlain r1 r2 n0 hI
  refine c_WRV (wr := [(x, .inr (2, [.ref bx, .ref px, .ref t, .int ak, .int su, .int gt, .int lf, .int rf, .int kn])), (bx, .inl (cI, 6, .inl f)), (px, .inl (cI, 2, .inl (hg_fillPlain r1 r2 g))), (t, .inr (1, [.ref bt, .int 0, .int ml, .int cn])), (bt, .inl (cB, 16, .inl bs)), (q, .inr (3, [.long (hn_fillPlain r1 r2 g n0), sv]))]) (wsN := [(x, .inr (2, [.ref bx, .ref px, .ref t, .int ak, .int su, .int gt, .int lf, .int rf, .int kn])), (bx, .inl (cI, 6, .inl f)), (px, .inl (cI, 2, .inl (hg_fillPlain r1 r2 g))), (t, .inr (1, [.ref bt, .int 0, .int ml, .int cn])), (bt, .inl (cB, 16, .inl bs)), (o, .inr (4, [.int (wth_X2_fillPlain r1 r2), .ref bo, .ref po, .int ak', .int su', .int gt', .int lf', .int rf', .int kn'])), (bo, .inl (cI, 6, .inl h)), (po, .inl (cI, 2, .inl (wg_X2_fillPlain r1 r2 j))), (q, .inr (3, [.long (hn_fillPlain r1 r2 g n0), sv]))]) (i0 := 5) (ci := 4) FX (k_X2_fillPlain l D cI cB o bo po th h j ak' su' gt' lf' rf' kn' r1 r2) mi_X2_fillPlain rfl ml_RL_226 (RMok.mk) hl.1 rfl (Nat.le_of_ble_eq_true rfl) dL_law_1116 ⟨by omega, by omega⟩ hK hP hD hS hA [5, 6, 7] rfl [0, 1, 2, 3, 4, 8] rfl rfl (by decide) [0, 1, 2, 3, 4, 6, 7, 8, 5] rfl rfl rfl rfl rfl (fun H locs hP hD hS => ?_)
  refine lv_istore (lv' := [(6, .int (v_X2_fillPlain r1 r2 j)), (5, .int (hk_fillPlain r1 r2)), (4, .int (nI i)), (3, .ref q), (2, .ref o), (1, .ref x), (0, .ref b)]) FX.1 FX.2.1 dL_law_1119 hl (by decide) rfl (fun ls hl => ?_)
  refine lv_goto (tgt := 1830) FX.1 FX.2.1 dL_law_1121 (by decide) ?_
  refine W.widen (k := cc + 33) (n := ss + 321) (by omega) (by omega) ?_
  exact kk H locs f (hg_fillPlain r1 r2 g) ak su gt lf rf kn ml cn bs (wth_X2_fillPlain r1 r2) h (wg_X2_fillPlain r1 r2 j) ak' su' gt' lf' rf' kn' (hn_fillPlain r1 r2 g n0) sv ls hI2 hb hc hP hD hS (lv_sub hl [2, 3, 4, 5, 6] rfl)
set_option maxRecDepth 100000 in
set_option maxHeartbeats 4000000 in
theorem case_21 {p : Program} {l : Launch} {e : Env} {s : State} {m : MethodId} {below : List Frame} {meth : Method} {c : Code} (hl0 : l.stackTraces = false) (D : va_G) (cI cB : ClassId) (b L : Nat) (xs : Nat → Int32) (x bx px t bt o bo po q : Nat) (to tt : Nat) (go gu : Nat → Int32) (na nv : Nat) (nf : Nat → Int32) (nb nw : Nat) (nh : Nat → Int32) (ea ew : Nat) (ef : Nat → Int32) (i cc ss : Nat) (hi : i + 6 ≤ L) (hcc : cc + 33 ≤ room_1.cells) (hss : ss + 321 ≤ room_1.slots) (hL : L ≤ 3072) (FX : CallFix p m c cL_law 7 s #[.ref b] bigW RL) (hK : va_K D KL (TY cI cB) s) (hX : va_X b L xs s s.heap) (hbl : b < s.heap.size) (hz : zLaw to tt go gu na nv nf nb nw nh ea ew ef (fun q => s.heap.size ≤ q) s s.heap) (hfn : sb_Fit nf) (hfe : sb_Fit ef) (hnn : TL 4 nf nh) (kk : LGo p l e s m below meth c D cI cB b x bx px t bt o bo po q i 1830 (cc + 33) (ss + 321)) : LGo p l e s m below meth c D cI cB b x bx px t bt o bo po q i 1124 cc ss := by
  intro H locs f g ak su gt lf rf kn ml cn bs th h j ak' su' gt' lf' rf' kn' n0 sv ls hI hb hc hP hD hS hl
  have hA : ∀ q : Nat, s.heap.size ≤ q → s.heap.size ≤ q := fun _ h => h
  have hbA : ¬ (fun q : Nat => s.heap.size ≤ q) b := Nat.not_le.mpr hbl
  obtain ⟨r1, ey1⟩ : ∃ y, xs (i + 1) = y := ⟨_, rfl⟩
  have hin1 : i + 1 < L ∧ L < 2 ^ 31 := ⟨by omega, by omega⟩
  have hl : lv_has ls 7 [(4, .int (nI i)), (3, .ref q), (2, .ref o), (1, .ref x), (0, .ref b)] := hl
  have hP : va_P D KL [(x, .inr (2, [.ref bx, .ref px, .ref t, .int ak, .int su, .int gt, .int lf, .int rf, .int kn])), (bx, .inl (cI, 6, .inl f)), (px, .inl (cI, 2, .inl g)), (t, .inr (1, [.ref bt, .int 0, .int ml, .int cn])), (bt, .inl (cB, 16, .inl bs)), (o, .inr (4, [.int th, .ref bo, .ref po, .int ak', .int su', .int gt', .int lf', .int rf', .int kn'])), (bo, .inl (cI, 6, .inl h)), (po, .inl (cI, 2, .inl j)), (q, .inr (3, [.long n0, sv]))] H := hP
  have hD : va_D (fun q => s.heap.size ≤ q) [(x, .inr (2, [.ref bx, .ref px, .ref t, .int ak, .int su, .int gt, .int lf, .int rf, .int kn])), (bx, .inl (cI, 6, .inl f)), (px, .inl (cI, 2, .inl g)), (t, .inr (1, [.ref bt, .int 0, .int ml, .int cn])), (bt, .inl (cB, 16, .inl bs)), (o, .inr (4, [.int th, .ref bo, .ref po, .int ak', .int su', .int gt', .int lf', .int rf', .int kn'])), (bo, .inl (cI, 6, .inl h)), (po, .inl (cI, 2, .inl j)), (q, .inr (3, [.long n0, sv]))] := hD
  refine lv_aload_n FX.1 FX.2.1 dL_law_1124 rfl (lv_at hl 3 rfl) ?_
  refine p_rd (k := 1) (v := r1) FX hX hbl hbA hS (lv_at hl 4 rfl) (lv_at hl 0 rfl) dL_law_1125 dL_law_1126 dL_law_1128 dL_law_1129 dL_law_1130 rfl hin1 ey1 ?_
  refine lv_aload_n FX.1 FX.2.1 dL_law_1131 rfl (lv_at hl 1 rfl) ?_
  refine c_J (W0 := [(x, .inr (2, [.ref bx, .ref px, .ref t, .int ak, .int su, .int gt, .int lf, .int rf, .int kn])), (bx, .inl (cI, 6, .inl f)), (px, .inl (cI, 2, .inl g)), (q, .inr (3, [.long n0, sv]))]) (wr := [(t, .inr (1, [.ref bt, .int 0, .int ml, .int cn])), (bt, .inl (cB, 16, .inl bs)), (o, .inr (4, [.int th, .ref bo, .ref po, .int ak', .int su', .int gt', .int lf', .int rf', .int kn'])), (bo, .inl (cI, 6, .inl h)), (po, .inl (cI, 2, .inl j))]) (wsN := fun _ => [(x, .inr (2, [.ref bx, .ref px, .ref t, .int ak, .int su, .int gt, .int lf, .int rf, .int kn])), (bx, .inl (cI, 6, .inl f)), (px, .inl (cI, 2, .inl (hg_emptyPlain r1 g))), (t, .inr (1, [.ref bt, .int 0, .int ml, .int cn])), (bt, .inl (cB, 16, .inl bs)), (o, .inr (4, [.int th, .ref bo, .ref po, .int ak', .int su', .int gt', .int lf', .int rf', .int kn'])), (bo, .inl (cI, 6, .inl h)), (po, .inl (cI, 2, .inl j)), (q, .inr (3, [.long (hn_emptyPlain r1 g n0), sv]))]) (vx_runSW FX ((j_L_emptyPlain l hl0 D cI cB x bx px t f g ak su gt lf rf kn q n0 sv r1) H.size) (my_cwSW FX.2.2.2.2 mh_L_emptyPlain ml_RL_227 (RMok.mk)) ⟨PJ.blind (zAnd_ok (zAnd_ok zz_ok zN_ok) zF_ok), fun U hU hW => ⟨rfl, my_preJ (zAnd_ok (zAnd_ok zz_ok zN_ok) zF_ok) ⟨hz.1.1, hz.1.2.1⟩ hS hA hK hP hD [0, 1, 2, 8] rfl rfl U hU hW⟩⟩ rfl rfl hl.1 rfl (lv_room (Nat.le_of_ble_eq_true rfl)) dL_law_1132 ⟨by omega, by omega⟩) hP hD hS hA [0, 1, 2, 8] rfl [3, 4, 5, 6, 7] rfl (by decide) [5, 6, 7, 0, 1, 2, 3, 4, 8] (fun _ => rfl) rfl (fun u1 H locs hp_1 hP hD hS => ?_)
  have hP : va_P D KL [(x, .inr (2, [.ref bx, .ref px, .ref t, .int ak, .int su, .int gt, .int lf, .int rf, .int kn])), (bx, .inl (cI, 6, .inl f)), (px, .inl (cI, 2, .inl (hg_emptyPlain r1 g))), (t, .inr (1, [.ref bt, .int 0, .int ml, .int cn])), (bt, .inl (cB, 16, .inl bs)), (o, .inr (4, [.int th, .ref bo, .ref po, .int ak', .int su', .int gt', .int lf', .int rf', .int kn'])), (bo, .inl (cI, 6, .inl h)), (po, .inl (cI, 2, .inl j)), (q, .inr (3, [.long (hn_emptyPlain r1 g n0), sv]))] H := hP
  have hD : va_D (fun q => s.heap.size ≤ q) [(x, .inr (2, [.ref bx, .ref px, .ref t, .int ak, .int su, .int gt, .int lf, .int rf, .int kn])), (bx, .inl (cI, 6, .inl f)), (px, .inl (cI, 2, .inl (hg_emptyPlain r1 g))), (t, .inr (1, [.ref bt, .int 0, .int ml, .int cn])), (bt, .inl (cB, 16, .inl bs)), (o, .inr (4, [.int th, .ref bo, .ref po, .int ak', .int su', .int gt', .int lf', .int rf', .int kn'])), (bo, .inl (cI, 6, .inl h)), (po, .inl (cI, 2, .inl j)), (q, .inr (3, [.long (hn_emptyPlain r1 g n0), sv]))] := hD
  refine W.eq (g2 := F0 m 1135 ls [.int (hk_emptyPlain r1)]) rfl ?_
  refine lv_istore (lv' := [(5, .int (hk_emptyPlain r1)), (4, .int (nI i)), (3, .ref q), (2, .ref o), (1, .ref x), (0, .ref b)]) FX.1 FX.2.1 dL_law_1135 hl (by decide) rfl (fun ls hl => ?_)
  refine lv_aload_n FX.1 FX.2.1 dL_law_1137 rfl (lv_at hl 3 rfl) ?_
  refine p_rd (k := 1) (v := r1) FX hX hbl hbA hS (lv_at hl 5 rfl) (lv_at hl 1 rfl) dL_law_1138 dL_law_1139 dL_law_1141 dL_law_1142 dL_law_1143 rfl hin1 ey1 ?_
  obtain ⟨eT, eA, hI2⟩ := st_emptyPlain r1 n0 hI
  refine c_WRV (wr := [(x, .inr (2, [.ref bx, .ref px, .ref t, .int ak, .int su, .int gt, .int lf, .int rf, .int kn])), (bx, .inl (cI, 6, .inl f)), (px, .inl (cI, 2, .inl (hg_emptyPlain r1 g))), (t, .inr (1, [.ref bt, .int 0, .int ml, .int cn])), (bt, .inl (cB, 16, .inl bs)), (q, .inr (3, [.long (hn_emptyPlain r1 g n0), sv]))]) (wsN := [(x, .inr (2, [.ref bx, .ref px, .ref t, .int ak, .int su, .int gt, .int lf, .int rf, .int kn])), (bx, .inl (cI, 6, .inl f)), (px, .inl (cI, 2, .inl (hg_emptyPlain r1 g))), (t, .inr (1, [.ref bt, .int 0, .int ml, .int cn])), (bt, .inl (cB, 16, .inl bs)), (o, .inr (4, [.int (wth_X2_emptyPlain r1), .ref bo, .ref po, .int ak', .int su', .int gt', .int lf', .int rf', .int kn'])), (bo, .inl (cI, 6, .inl h)), (po, .inl (cI, 2, .inl (wg_X2_emptyPlain r1 j))), (q, .inr (3, [.long (hn_emptyPlain r1 g n0), sv]))]) (i0 := 5) (ci := 4) FX (k_X2_emptyPlain l D cI cB o bo po th h j ak' su' gt' lf' rf' kn' r1) mi_X2_emptyPlain rfl ml_RL_229 (RMok.mk) hl.1 rfl (Nat.le_of_ble_eq_true rfl) dL_law_1144 ⟨by omega, by omega⟩ hK hP hD hS hA [5, 6, 7] rfl [0, 1, 2, 3, 4, 8] rfl rfl (by decide) [0, 1, 2, 3, 4, 6, 7, 8, 5] rfl rfl rfl rfl rfl (fun H locs hP hD hS => ?_)
  refine lv_istore (lv' := [(6, .int (v_X2_emptyPlain r1 j)), (5, .int (hk_emptyPlain r1)), (4, .int (nI i)), (3, .ref q), (2, .ref o), (1, .ref x), (0, .ref b)]) FX.1 FX.2.1 dL_law_1147 hl (by decide) rfl (fun ls hl => ?_)
  refine lv_goto (tgt := 1830) FX.1 FX.2.1 dL_law_1149 (by decide) ?_
  refine W.widen (k := cc + 33) (n := ss + 321) (by omega) (by omega) ?_
  exact kk H locs f (hg_emptyPlain r1 g) ak su gt lf rf kn ml cn bs (wth_X2_emptyPlain r1) h (wg_X2_emptyPlain r1 j) ak' su' gt' lf' rf' kn' (hn_emptyPlain r1 g n0) sv ls hI2 hb hc hP hD hS (lv_sub hl [2, 3, 4, 5, 6] rfl)
set_option maxRecDepth 100000 in
set_option maxHeartbeats 4000000 in
theorem case_22 {p : Program} {l : Launch} {e : Env} {s : State} {m : MethodId} {below : List Frame} {meth : Method} {c : Code} (hl0 : l.stackTraces = false) (D : va_G) (cI cB : ClassId) (b L : Nat) (xs : Nat → Int32) (x bx px t bt o bo po q : Nat) (to tt : Nat) (go gu : Nat → Int32) (na nv : Nat) (nf : Nat → Int32) (nb nw : Nat) (nh : Nat → Int32) (ea ew : Nat) (ef : Nat → Int32) (i cc ss : Nat) (hi : i + 6 ≤ L) (hcc : cc + 33 ≤ room_1.cells) (hss : ss + 321 ≤ room_1.slots) (hL : L ≤ 3072) (FX : CallFix p m c cL_law 7 s #[.ref b] bigW RL) (hK : va_K D KL (TY cI cB) s) (hX : va_X b L xs s s.heap) (hbl : b < s.heap.size) (hz : zLaw to tt go gu na nv nf nb nw nh ea ew ef (fun q => s.heap.size ≤ q) s s.heap) (hfn : sb_Fit nf) (hfe : sb_Fit ef) (hnn : TL 4 nf nh) (kk : LGo p l e s m below meth c D cI cB b x bx px t bt o bo po q i 1830 (cc + 33) (ss + 321)) : LGo p l e s m below meth c D cI cB b x bx px t bt o bo po q i 1152 cc ss := by
  intro H locs f g ak su gt lf rf kn ml cn bs th h j ak' su' gt' lf' rf' kn' n0 sv ls hI hb hc hP hD hS hl
  have hA : ∀ q : Nat, s.heap.size ≤ q → s.heap.size ≤ q := fun _ h => h
  have hbA : ¬ (fun q : Nat => s.heap.size ≤ q) b := Nat.not_le.mpr hbl
  obtain ⟨r1, ey1⟩ : ∃ y, xs (i + 1) = y := ⟨_, rfl⟩
  have hin1 : i + 1 < L ∧ L < 2 ^ 31 := ⟨by omega, by omega⟩
  have hl : lv_has ls 7 [(4, .int (nI i)), (3, .ref q), (2, .ref o), (1, .ref x), (0, .ref b)] := hl
  have hP : va_P D KL [(x, .inr (2, [.ref bx, .ref px, .ref t, .int ak, .int su, .int gt, .int lf, .int rf, .int kn])), (bx, .inl (cI, 6, .inl f)), (px, .inl (cI, 2, .inl g)), (t, .inr (1, [.ref bt, .int 0, .int ml, .int cn])), (bt, .inl (cB, 16, .inl bs)), (o, .inr (4, [.int th, .ref bo, .ref po, .int ak', .int su', .int gt', .int lf', .int rf', .int kn'])), (bo, .inl (cI, 6, .inl h)), (po, .inl (cI, 2, .inl j)), (q, .inr (3, [.long n0, sv]))] H := hP
  have hD : va_D (fun q => s.heap.size ≤ q) [(x, .inr (2, [.ref bx, .ref px, .ref t, .int ak, .int su, .int gt, .int lf, .int rf, .int kn])), (bx, .inl (cI, 6, .inl f)), (px, .inl (cI, 2, .inl g)), (t, .inr (1, [.ref bt, .int 0, .int ml, .int cn])), (bt, .inl (cB, 16, .inl bs)), (o, .inr (4, [.int th, .ref bo, .ref po, .int ak', .int su', .int gt', .int lf', .int rf', .int kn'])), (bo, .inl (cI, 6, .inl h)), (po, .inl (cI, 2, .inl j)), (q, .inr (3, [.long n0, sv]))] := hD
  refine lv_aload_n FX.1 FX.2.1 dL_law_1152 rfl (lv_at hl 3 rfl) ?_
  refine p_rd (k := 1) (v := r1) FX hX hbl hbA hS (lv_at hl 4 rfl) (lv_at hl 0 rfl) dL_law_1153 dL_law_1154 dL_law_1156 dL_law_1157 dL_law_1158 rfl hin1 ey1 ?_
  refine lv_aload_n FX.1 FX.2.1 dL_law_1159 rfl (lv_at hl 1 rfl) ?_
  refine c_J (W0 := [(x, .inr (2, [.ref bx, .ref px, .ref t, .int ak, .int su, .int gt, .int lf, .int rf, .int kn])), (bx, .inl (cI, 6, .inl f)), (px, .inl (cI, 2, .inl g)), (q, .inr (3, [.long n0, sv]))]) (wr := [(t, .inr (1, [.ref bt, .int 0, .int ml, .int cn])), (bt, .inl (cB, 16, .inl bs)), (o, .inr (4, [.int th, .ref bo, .ref po, .int ak', .int su', .int gt', .int lf', .int rf', .int kn'])), (bo, .inl (cI, 6, .inl h)), (po, .inl (cI, 2, .inl j))]) (wsN := fun _ => [(x, .inr (2, [.ref bx, .ref px, .ref t, .int ak, .int su, .int gt, .int lf, .int (hrf_getPlain r1 g rf), .int kn])), (bx, .inl (cI, 6, .inl f)), (px, .inl (cI, 2, .inl g)), (t, .inr (1, [.ref bt, .int 0, .int ml, .int cn])), (bt, .inl (cB, 16, .inl bs)), (o, .inr (4, [.int th, .ref bo, .ref po, .int ak', .int su', .int gt', .int lf', .int rf', .int kn'])), (bo, .inl (cI, 6, .inl h)), (po, .inl (cI, 2, .inl j)), (q, .inr (3, [.long (hn_getPlain r1 g n0), sv]))]) (vx_runSW FX ((j_L_getPlain l hl0 D cI cB x bx px t f g ak su gt lf rf kn q n0 sv r1) H.size) (my_cwSW FX.2.2.2.2 mh_L_getPlain ml_RL_230 (RMok.mk)) ⟨PJ.blind (zAnd_ok (zAnd_ok zz_ok zN_ok) zF_ok), fun U hU hW => ⟨rfl, my_preJ (zAnd_ok (zAnd_ok zz_ok zN_ok) zF_ok) ⟨hz.1.1, hz.1.2.1⟩ hS hA hK hP hD [0, 1, 2, 8] rfl rfl U hU hW⟩⟩ rfl rfl hl.1 rfl (lv_room (Nat.le_of_ble_eq_true rfl)) dL_law_1160 ⟨by omega, by omega⟩) hP hD hS hA [0, 1, 2, 8] rfl [3, 4, 5, 6, 7] rfl (by decide) [5, 6, 7, 0, 1, 2, 3, 4, 8] (fun _ => rfl) rfl (fun u1 H locs hp_1 hP hD hS => ?_)
  have hP : va_P D KL [(x, .inr (2, [.ref bx, .ref px, .ref t, .int ak, .int su, .int gt, .int lf, .int (hrf_getPlain r1 g rf), .int kn])), (bx, .inl (cI, 6, .inl f)), (px, .inl (cI, 2, .inl g)), (t, .inr (1, [.ref bt, .int 0, .int ml, .int cn])), (bt, .inl (cB, 16, .inl bs)), (o, .inr (4, [.int th, .ref bo, .ref po, .int ak', .int su', .int gt', .int lf', .int rf', .int kn'])), (bo, .inl (cI, 6, .inl h)), (po, .inl (cI, 2, .inl j)), (q, .inr (3, [.long (hn_getPlain r1 g n0), sv]))] H := hP
  have hD : va_D (fun q => s.heap.size ≤ q) [(x, .inr (2, [.ref bx, .ref px, .ref t, .int ak, .int su, .int gt, .int lf, .int (hrf_getPlain r1 g rf), .int kn])), (bx, .inl (cI, 6, .inl f)), (px, .inl (cI, 2, .inl g)), (t, .inr (1, [.ref bt, .int 0, .int ml, .int cn])), (bt, .inl (cB, 16, .inl bs)), (o, .inr (4, [.int th, .ref bo, .ref po, .int ak', .int su', .int gt', .int lf', .int rf', .int kn'])), (bo, .inl (cI, 6, .inl h)), (po, .inl (cI, 2, .inl j)), (q, .inr (3, [.long (hn_getPlain r1 g n0), sv]))] := hD
  refine W.eq (g2 := F0 m 1163 ls [.int (hk_getPlain r1)]) rfl ?_
  refine lv_istore (lv' := [(5, .int (hk_getPlain r1)), (4, .int (nI i)), (3, .ref q), (2, .ref o), (1, .ref x), (0, .ref b)]) FX.1 FX.2.1 dL_law_1163 hl (by decide) rfl (fun ls hl => ?_)
  refine lv_aload_n FX.1 FX.2.1 dL_law_1165 rfl (lv_at hl 3 rfl) ?_
  refine p_rd (k := 1) (v := r1) FX hX hbl hbA hS (lv_at hl 5 rfl) (lv_at hl 1 rfl) dL_law_1166 dL_law_1167 dL_law_1169 dL_law_1170 dL_law_1171 rfl hin1 ey1 ?_
  obtain ⟨eT, eA, hI2⟩ := st_getPlain r1 n0 hI
  refine c_WRV (wr := [(x, .inr (2, [.ref bx, .ref px, .ref t, .int ak, .int su, .int gt, .int lf, .int (hrf_getPlain r1 g rf), .int kn])), (bx, .inl (cI, 6, .inl f)), (px, .inl (cI, 2, .inl g)), (t, .inr (1, [.ref bt, .int 0, .int ml, .int cn])), (bt, .inl (cB, 16, .inl bs)), (q, .inr (3, [.long (hn_getPlain r1 g n0), sv]))]) (wsN := [(x, .inr (2, [.ref bx, .ref px, .ref t, .int ak, .int su, .int gt, .int lf, .int (hrf_getPlain r1 g rf), .int kn])), (bx, .inl (cI, 6, .inl f)), (px, .inl (cI, 2, .inl g)), (t, .inr (1, [.ref bt, .int 0, .int ml, .int cn])), (bt, .inl (cB, 16, .inl bs)), (o, .inr (4, [.int (wth_X2_getPlain r1), .ref bo, .ref po, .int ak', .int su', .int gt', .int lf', .int (wrf_X2_getPlain r1 j rf'), .int kn'])), (bo, .inl (cI, 6, .inl h)), (po, .inl (cI, 2, .inl j)), (q, .inr (3, [.long (hn_getPlain r1 g n0), sv]))]) (i0 := 5) (ci := 4) FX (k_X2_getPlain l D cI cB o bo po th h j ak' su' gt' lf' rf' kn' r1) mi_X2_getPlain rfl ml_RL_232 (RMok.mk) hl.1 rfl (Nat.le_of_ble_eq_true rfl) dL_law_1172 ⟨by omega, by omega⟩ hK hP hD hS hA [5, 6, 7] rfl [0, 1, 2, 3, 4, 8] rfl rfl (by decide) [0, 1, 2, 3, 4, 6, 7, 8, 5] rfl rfl rfl rfl rfl (fun H locs hP hD hS => ?_)
  refine lv_istore (lv' := [(6, .int (v_X2_getPlain r1 j)), (5, .int (hk_getPlain r1)), (4, .int (nI i)), (3, .ref q), (2, .ref o), (1, .ref x), (0, .ref b)]) FX.1 FX.2.1 dL_law_1175 hl (by decide) rfl (fun ls hl => ?_)
  refine lv_goto (tgt := 1830) FX.1 FX.2.1 dL_law_1177 (by decide) ?_
  refine W.widen (k := cc + 33) (n := ss + 321) (by omega) (by omega) ?_
  exact kk H locs f g ak su gt lf (hrf_getPlain r1 g rf) kn ml cn bs (wth_X2_getPlain r1) h j ak' su' gt' lf' (wrf_X2_getPlain r1 j rf') kn' (hn_getPlain r1 g n0) sv ls hI2 hb hc hP hD hS (lv_sub hl [2, 3, 4, 5, 6] rfl)
set_option maxRecDepth 100000 in
set_option maxHeartbeats 4000000 in
theorem case_23 {p : Program} {l : Launch} {e : Env} {s : State} {m : MethodId} {below : List Frame} {meth : Method} {c : Code} (hl0 : l.stackTraces = false) (D : va_G) (cI cB : ClassId) (b L : Nat) (xs : Nat → Int32) (x bx px t bt o bo po q : Nat) (to tt : Nat) (go gu : Nat → Int32) (na nv : Nat) (nf : Nat → Int32) (nb nw : Nat) (nh : Nat → Int32) (ea ew : Nat) (ef : Nat → Int32) (i cc ss : Nat) (hi : i + 6 ≤ L) (hcc : cc + 33 ≤ room_1.cells) (hss : ss + 321 ≤ room_1.slots) (hL : L ≤ 3072) (FX : CallFix p m c cL_law 7 s #[.ref b] bigW RL) (hK : va_K D KL (TY cI cB) s) (hX : va_X b L xs s s.heap) (hbl : b < s.heap.size) (hz : zLaw to tt go gu na nv nf nb nw nh ea ew ef (fun q => s.heap.size ≤ q) s s.heap) (hfn : sb_Fit nf) (hfe : sb_Fit ef) (hnn : TL 4 nf nh) (kk : LGo p l e s m below meth c D cI cB b x bx px t bt o bo po q i 1830 (cc + 33) (ss + 321)) : LGo p l e s m below meth c D cI cB b x bx px t bt o bo po q i 1180 cc ss := by
  intro H locs f g ak su gt lf rf kn ml cn bs th h j ak' su' gt' lf' rf' kn' n0 sv ls hI hb hc hP hD hS hl
  have hA : ∀ q : Nat, s.heap.size ≤ q → s.heap.size ≤ q := fun _ h => h
  have hbA : ¬ (fun q : Nat => s.heap.size ≤ q) b := Nat.not_le.mpr hbl
  obtain ⟨r1, ey1⟩ : ∃ y, xs (i + 1) = y := ⟨_, rfl⟩
  have hin1 : i + 1 < L ∧ L < 2 ^ 31 := ⟨by omega, by omega⟩
  obtain ⟨r2, ey2⟩ : ∃ y, xs (i + 2) = y := ⟨_, rfl⟩
  have hin2 : i + 2 < L ∧ L < 2 ^ 31 := ⟨by omega, by omega⟩
  have hl : lv_has ls 7 [(4, .int (nI i)), (3, .ref q), (2, .ref o), (1, .ref x), (0, .ref b)] := hl
  have hP : va_P D KL [(x, .inr (2, [.ref bx, .ref px, .ref t, .int ak, .int su, .int gt, .int lf, .int rf, .int kn])), (bx, .inl (cI, 6, .inl f)), (px, .inl (cI, 2, .inl g)), (t, .inr (1, [.ref bt, .int 0, .int ml, .int cn])), (bt, .inl (cB, 16, .inl bs)), (o, .inr (4, [.int th, .ref bo, .ref po, .int ak', .int su', .int gt', .int lf', .int rf', .int kn'])), (bo, .inl (cI, 6, .inl h)), (po, .inl (cI, 2, .inl j)), (q, .inr (3, [.long n0, sv]))] H := hP
  have hD : va_D (fun q => s.heap.size ≤ q) [(x, .inr (2, [.ref bx, .ref px, .ref t, .int ak, .int su, .int gt, .int lf, .int rf, .int kn])), (bx, .inl (cI, 6, .inl f)), (px, .inl (cI, 2, .inl g)), (t, .inr (1, [.ref bt, .int 0, .int ml, .int cn])), (bt, .inl (cB, 16, .inl bs)), (o, .inr (4, [.int th, .ref bo, .ref po, .int ak', .int su', .int gt', .int lf', .int rf', .int kn'])), (bo, .inl (cI, 6, .inl h)), (po, .inl (cI, 2, .inl j)), (q, .inr (3, [.long n0, sv]))] := hD
  refine lv_aload_n FX.1 FX.2.1 dL_law_1180 rfl (lv_at hl 3 rfl) ?_
  refine p_rd (k := 1) (v := r1) FX hX hbl hbA hS (lv_at hl 4 rfl) (lv_at hl 0 rfl) dL_law_1181 dL_law_1182 dL_law_1184 dL_law_1185 dL_law_1186 rfl hin1 ey1 ?_
  refine p_rd (k := 2) (v := r2) FX hX hbl hbA hS (lv_at hl 4 rfl) (lv_at hl 0 rfl) dL_law_1187 dL_law_1188 dL_law_1190 dL_law_1191 dL_law_1192 rfl hin2 ey2 ?_
  refine lv_aload_n FX.1 FX.2.1 dL_law_1193 rfl (lv_at hl 1 rfl) ?_
  refine c_J (W0 := [(x, .inr (2, [.ref bx, .ref px, .ref t, .int ak, .int su, .int gt, .int lf, .int rf, .int kn])), (bx, .inl (cI, 6, .inl f)), (px, .inl (cI, 2, .inl g)), (q, .inr (3, [.long n0, sv]))]) (wr := [(t, .inr (1, [.ref bt, .int 0, .int ml, .int cn])), (bt, .inl (cB, 16, .inl bs)), (o, .inr (4, [.int th, .ref bo, .ref po, .int ak', .int su', .int gt', .int lf', .int rf', .int kn'])), (bo, .inl (cI, 6, .inl h)), (po, .inl (cI, 2, .inl j))]) (wsN := fun _ => [(x, .inr (2, [.ref bx, .ref px, .ref t, .int ak, .int su, .int gt, .int lf, .int rf, .int kn])), (bx, .inl (cI, 6, .inl f)), (px, .inl (cI, 2, .inl g)), (t, .inr (1, [.ref bt, .int 0, .int ml, .int cn])), (bt, .inl (cB, 16, .inl bs)), (o, .inr (4, [.int th, .ref bo, .ref po, .int ak', .int su', .int gt', .int lf', .int rf', .int kn'])), (bo, .inl (cI, 6, .inl h)), (po, .inl (cI, 2, .inl j)), (q, .inr (3, [.long (hn_orElsePlain r1 r2 g n0), sv]))]) (vx_runSW FX ((j_L_orElsePlain l hl0 D cI cB x bx px t f g ak su gt lf rf kn q n0 sv r1 r2) H.size) (my_cwSW FX.2.2.2.2 mh_L_orElsePlain ml_RL_233 (RMok.mk)) ⟨PJ.blind (zAnd_ok (zAnd_ok zz_ok zN_ok) zF_ok), fun U hU hW => ⟨rfl, my_preJ (zAnd_ok (zAnd_ok zz_ok zN_ok) zF_ok) ⟨hz.1.1, hz.1.2.1⟩ hS hA hK hP hD [0, 1, 2, 8] rfl rfl U hU hW⟩⟩ rfl rfl hl.1 rfl (lv_room (Nat.le_of_ble_eq_true rfl)) dL_law_1194 ⟨by omega, by omega⟩) hP hD hS hA [0, 1, 2, 8] rfl [3, 4, 5, 6, 7] rfl (by decide) [5, 6, 7, 0, 1, 2, 3, 4, 8] (fun _ => rfl) rfl (fun u1 H locs hp_1 hP hD hS => ?_)
  have hP : va_P D KL [(x, .inr (2, [.ref bx, .ref px, .ref t, .int ak, .int su, .int gt, .int lf, .int rf, .int kn])), (bx, .inl (cI, 6, .inl f)), (px, .inl (cI, 2, .inl g)), (t, .inr (1, [.ref bt, .int 0, .int ml, .int cn])), (bt, .inl (cB, 16, .inl bs)), (o, .inr (4, [.int th, .ref bo, .ref po, .int ak', .int su', .int gt', .int lf', .int rf', .int kn'])), (bo, .inl (cI, 6, .inl h)), (po, .inl (cI, 2, .inl j)), (q, .inr (3, [.long (hn_orElsePlain r1 r2 g n0), sv]))] H := hP
  have hD : va_D (fun q => s.heap.size ≤ q) [(x, .inr (2, [.ref bx, .ref px, .ref t, .int ak, .int su, .int gt, .int lf, .int rf, .int kn])), (bx, .inl (cI, 6, .inl f)), (px, .inl (cI, 2, .inl g)), (t, .inr (1, [.ref bt, .int 0, .int ml, .int cn])), (bt, .inl (cB, 16, .inl bs)), (o, .inr (4, [.int th, .ref bo, .ref po, .int ak', .int su', .int gt', .int lf', .int rf', .int kn'])), (bo, .inl (cI, 6, .inl h)), (po, .inl (cI, 2, .inl j)), (q, .inr (3, [.long (hn_orElsePlain r1 r2 g n0), sv]))] := hD
  refine W.eq (g2 := F0 m 1197 ls [.int (hk_orElsePlain r1 r2)]) rfl ?_
  refine lv_istore (lv' := [(5, .int (hk_orElsePlain r1 r2)), (4, .int (nI i)), (3, .ref q), (2, .ref o), (1, .ref x), (0, .ref b)]) FX.1 FX.2.1 dL_law_1197 hl (by decide) rfl (fun ls hl => ?_)
  refine lv_aload_n FX.1 FX.2.1 dL_law_1199 rfl (lv_at hl 3 rfl) ?_
  refine p_rd (k := 1) (v := r1) FX hX hbl hbA hS (lv_at hl 5 rfl) (lv_at hl 1 rfl) dL_law_1200 dL_law_1201 dL_law_1203 dL_law_1204 dL_law_1205 rfl hin1 ey1 ?_
  refine p_rd (k := 2) (v := r2) FX hX hbl hbA hS (lv_at hl 5 rfl) (lv_at hl 1 rfl) dL_law_1206 dL_law_1207 dL_law_1209 dL_law_1210 dL_law_1211 rfl hin2 ey2 ?_
  obtain ⟨eT, eA, hI2⟩ := st_orElsePlain r1 r2 n0 hI
  refine c_WRV (wr := [(x, .inr (2, [.ref bx, .ref px, .ref t, .int ak, .int su, .int gt, .int lf, .int rf, .int kn])), (bx, .inl (cI, 6, .inl f)), (px, .inl (cI, 2, .inl g)), (t, .inr (1, [.ref bt, .int 0, .int ml, .int cn])), (bt, .inl (cB, 16, .inl bs)), (q, .inr (3, [.long (hn_orElsePlain r1 r2 g n0), sv]))]) (wsN := [(x, .inr (2, [.ref bx, .ref px, .ref t, .int ak, .int su, .int gt, .int lf, .int rf, .int kn])), (bx, .inl (cI, 6, .inl f)), (px, .inl (cI, 2, .inl g)), (t, .inr (1, [.ref bt, .int 0, .int ml, .int cn])), (bt, .inl (cB, 16, .inl bs)), (o, .inr (4, [.int (wth_X2_orElsePlain r1 r2), .ref bo, .ref po, .int ak', .int su', .int gt', .int lf', .int rf', .int kn'])), (bo, .inl (cI, 6, .inl h)), (po, .inl (cI, 2, .inl j)), (q, .inr (3, [.long (hn_orElsePlain r1 r2 g n0), sv]))]) (i0 := 5) (ci := 4) FX (k_X2_orElsePlain l D cI cB o bo po th h j ak' su' gt' lf' rf' kn' r1 r2) mi_X2_orElsePlain rfl ml_RL_235 (RMok.mk) hl.1 rfl (Nat.le_of_ble_eq_true rfl) dL_law_1212 ⟨by omega, by omega⟩ hK hP hD hS hA [5, 6, 7] rfl [0, 1, 2, 3, 4, 8] rfl rfl (by decide) [0, 1, 2, 3, 4, 6, 7, 8, 5] rfl rfl rfl rfl rfl (fun H locs hP hD hS => ?_)
  refine lv_istore (lv' := [(6, .int (v_X2_orElsePlain r1 r2 j)), (5, .int (hk_orElsePlain r1 r2)), (4, .int (nI i)), (3, .ref q), (2, .ref o), (1, .ref x), (0, .ref b)]) FX.1 FX.2.1 dL_law_1215 hl (by decide) rfl (fun ls hl => ?_)
  refine lv_goto (tgt := 1830) FX.1 FX.2.1 dL_law_1217 (by decide) ?_
  refine W.widen (k := cc + 33) (n := ss + 321) (by omega) (by omega) ?_
  exact kk H locs f g ak su gt lf rf kn ml cn bs (wth_X2_orElsePlain r1 r2) h j ak' su' gt' lf' rf' kn' (hn_orElsePlain r1 r2 g n0) sv ls hI2 hb hc hP hD hS (lv_sub hl [2, 3, 4, 5, 6] rfl)
set_option maxRecDepth 100000 in
set_option maxHeartbeats 4000000 in
theorem case_24 {p : Program} {l : Launch} {e : Env} {s : State} {m : MethodId} {below : List Frame} {meth : Method} {c : Code} (hl0 : l.stackTraces = false) (D : va_G) (cI cB : ClassId) (b L : Nat) (xs : Nat → Int32) (x bx px t bt o bo po q : Nat) (to tt : Nat) (go gu : Nat → Int32) (na nv : Nat) (nf : Nat → Int32) (nb nw : Nat) (nh : Nat → Int32) (ea ew : Nat) (ef : Nat → Int32) (i cc ss : Nat) (hi : i + 6 ≤ L) (hcc : cc + 33 ≤ room_1.cells) (hss : ss + 321 ≤ room_1.slots) (hL : L ≤ 3072) (FX : CallFix p m c cL_law 7 s #[.ref b] bigW RL) (hK : va_K D KL (TY cI cB) s) (hX : va_X b L xs s s.heap) (hbl : b < s.heap.size) (hz : zLaw to tt go gu na nv nf nb nw nh ea ew ef (fun q => s.heap.size ≤ q) s s.heap) (hfn : sb_Fit nf) (hfe : sb_Fit ef) (hnn : TL 4 nf nh) (kk : LGo p l e s m below meth c D cI cB b x bx px t bt o bo po q i 1830 (cc + 33) (ss + 321)) : LGo p l e s m below meth c D cI cB b x bx px t bt o bo po q i 1220 cc ss := by
  intro H locs f g ak su gt lf rf kn ml cn bs th h j ak' su' gt' lf' rf' kn' n0 sv ls hI hb hc hP hD hS hl
  have hA : ∀ q : Nat, s.heap.size ≤ q → s.heap.size ≤ q := fun _ h => h
  have hbA : ¬ (fun q : Nat => s.heap.size ≤ q) b := Nat.not_le.mpr hbl
  obtain ⟨r1, ey1⟩ : ∃ y, xs (i + 1) = y := ⟨_, rfl⟩
  have hin1 : i + 1 < L ∧ L < 2 ^ 31 := ⟨by omega, by omega⟩
  have hl : lv_has ls 7 [(4, .int (nI i)), (3, .ref q), (2, .ref o), (1, .ref x), (0, .ref b)] := hl
  have hP : va_P D KL [(x, .inr (2, [.ref bx, .ref px, .ref t, .int ak, .int su, .int gt, .int lf, .int rf, .int kn])), (bx, .inl (cI, 6, .inl f)), (px, .inl (cI, 2, .inl g)), (t, .inr (1, [.ref bt, .int 0, .int ml, .int cn])), (bt, .inl (cB, 16, .inl bs)), (o, .inr (4, [.int th, .ref bo, .ref po, .int ak', .int su', .int gt', .int lf', .int rf', .int kn'])), (bo, .inl (cI, 6, .inl h)), (po, .inl (cI, 2, .inl j)), (q, .inr (3, [.long n0, sv]))] H := hP
  have hD : va_D (fun q => s.heap.size ≤ q) [(x, .inr (2, [.ref bx, .ref px, .ref t, .int ak, .int su, .int gt, .int lf, .int rf, .int kn])), (bx, .inl (cI, 6, .inl f)), (px, .inl (cI, 2, .inl g)), (t, .inr (1, [.ref bt, .int 0, .int ml, .int cn])), (bt, .inl (cB, 16, .inl bs)), (o, .inr (4, [.int th, .ref bo, .ref po, .int ak', .int su', .int gt', .int lf', .int rf', .int kn'])), (bo, .inl (cI, 6, .inl h)), (po, .inl (cI, 2, .inl j)), (q, .inr (3, [.long n0, sv]))] := hD
  refine lv_aload_n FX.1 FX.2.1 dL_law_1220 rfl (lv_at hl 3 rfl) ?_
  refine p_rd (k := 1) (v := r1) FX hX hbl hbA hS (lv_at hl 4 rfl) (lv_at hl 0 rfl) dL_law_1221 dL_law_1222 dL_law_1224 dL_law_1225 dL_law_1226 rfl hin1 ey1 ?_
  refine lv_aload_n FX.1 FX.2.1 dL_law_1227 rfl (lv_at hl 1 rfl) ?_
  refine c_J (W0 := [(x, .inr (2, [.ref bx, .ref px, .ref t, .int ak, .int su, .int gt, .int lf, .int rf, .int kn])), (bx, .inl (cI, 6, .inl f)), (px, .inl (cI, 2, .inl g)), (q, .inr (3, [.long n0, sv]))]) (wr := [(t, .inr (1, [.ref bt, .int 0, .int ml, .int cn])), (bt, .inl (cB, 16, .inl bs)), (o, .inr (4, [.int th, .ref bo, .ref po, .int ak', .int su', .int gt', .int lf', .int rf', .int kn'])), (bo, .inl (cI, 6, .inl h)), (po, .inl (cI, 2, .inl j))]) (wsN := fun _ => [(x, .inr (2, [.ref bx, .ref px, .ref t, .int ak, .int su, .int gt, .int lf, .int rf, .int kn])), (bx, .inl (cI, 6, .inl f)), (px, .inl (cI, 2, .inl g)), (t, .inr (1, [.ref bt, .int 0, .int ml, .int cn])), (bt, .inl (cB, 16, .inl bs)), (o, .inr (4, [.int th, .ref bo, .ref po, .int ak', .int su', .int gt', .int lf', .int rf', .int kn'])), (bo, .inl (cI, 6, .inl h)), (po, .inl (cI, 2, .inl j)), (q, .inr (3, [.long (hn_isFullPlain r1 g n0), sv]))]) (vx_runSW FX ((j_L_isFullPlain l hl0 D cI cB x bx px t f g ak su gt lf rf kn q n0 sv r1) H.size) (my_cwSW FX.2.2.2.2 mh_L_isFullPlain ml_RL_236 (RMok.mk)) ⟨PJ.blind (zAnd_ok (zAnd_ok zz_ok zN_ok) zF_ok), fun U hU hW => ⟨rfl, my_preJ (zAnd_ok (zAnd_ok zz_ok zN_ok) zF_ok) ⟨hz.1.1, hz.1.2.1⟩ hS hA hK hP hD [0, 1, 2, 8] rfl rfl U hU hW⟩⟩ rfl rfl hl.1 rfl (lv_room (Nat.le_of_ble_eq_true rfl)) dL_law_1228 ⟨by omega, by omega⟩) hP hD hS hA [0, 1, 2, 8] rfl [3, 4, 5, 6, 7] rfl (by decide) [5, 6, 7, 0, 1, 2, 3, 4, 8] (fun _ => rfl) rfl (fun u1 H locs hp_1 hP hD hS => ?_)
  have hP : va_P D KL [(x, .inr (2, [.ref bx, .ref px, .ref t, .int ak, .int su, .int gt, .int lf, .int rf, .int kn])), (bx, .inl (cI, 6, .inl f)), (px, .inl (cI, 2, .inl g)), (t, .inr (1, [.ref bt, .int 0, .int ml, .int cn])), (bt, .inl (cB, 16, .inl bs)), (o, .inr (4, [.int th, .ref bo, .ref po, .int ak', .int su', .int gt', .int lf', .int rf', .int kn'])), (bo, .inl (cI, 6, .inl h)), (po, .inl (cI, 2, .inl j)), (q, .inr (3, [.long (hn_isFullPlain r1 g n0), sv]))] H := hP
  have hD : va_D (fun q => s.heap.size ≤ q) [(x, .inr (2, [.ref bx, .ref px, .ref t, .int ak, .int su, .int gt, .int lf, .int rf, .int kn])), (bx, .inl (cI, 6, .inl f)), (px, .inl (cI, 2, .inl g)), (t, .inr (1, [.ref bt, .int 0, .int ml, .int cn])), (bt, .inl (cB, 16, .inl bs)), (o, .inr (4, [.int th, .ref bo, .ref po, .int ak', .int su', .int gt', .int lf', .int rf', .int kn'])), (bo, .inl (cI, 6, .inl h)), (po, .inl (cI, 2, .inl j)), (q, .inr (3, [.long (hn_isFullPlain r1 g n0), sv]))] := hD
  refine W.eq (g2 := F0 m 1231 ls [.int (hk_isFullPlain r1)]) rfl ?_
  refine lv_istore (lv' := [(5, .int (hk_isFullPlain r1)), (4, .int (nI i)), (3, .ref q), (2, .ref o), (1, .ref x), (0, .ref b)]) FX.1 FX.2.1 dL_law_1231 hl (by decide) rfl (fun ls hl => ?_)
  refine lv_aload_n FX.1 FX.2.1 dL_law_1233 rfl (lv_at hl 3 rfl) ?_
  refine p_rd (k := 1) (v := r1) FX hX hbl hbA hS (lv_at hl 5 rfl) (lv_at hl 1 rfl) dL_law_1234 dL_law_1235 dL_law_1237 dL_law_1238 dL_law_1239 rfl hin1 ey1 ?_
  obtain ⟨eT, eA, hI2⟩ := st_isFullPlain r1 n0 hI
  refine c_WRV (wr := [(x, .inr (2, [.ref bx, .ref px, .ref t, .int ak, .int su, .int gt, .int lf, .int rf, .int kn])), (bx, .inl (cI, 6, .inl f)), (px, .inl (cI, 2, .inl g)), (t, .inr (1, [.ref bt, .int 0, .int ml, .int cn])), (bt, .inl (cB, 16, .inl bs)), (q, .inr (3, [.long (hn_isFullPlain r1 g n0), sv]))]) (wsN := [(x, .inr (2, [.ref bx, .ref px, .ref t, .int ak, .int su, .int gt, .int lf, .int rf, .int kn])), (bx, .inl (cI, 6, .inl f)), (px, .inl (cI, 2, .inl g)), (t, .inr (1, [.ref bt, .int 0, .int ml, .int cn])), (bt, .inl (cB, 16, .inl bs)), (o, .inr (4, [.int (wth_X2_isFullPlain r1), .ref bo, .ref po, .int ak', .int su', .int gt', .int lf', .int rf', .int kn'])), (bo, .inl (cI, 6, .inl h)), (po, .inl (cI, 2, .inl j)), (q, .inr (3, [.long (hn_isFullPlain r1 g n0), sv]))]) (i0 := 5) (ci := 4) FX (k_X2_isFullPlain l D cI cB o bo po th h j ak' su' gt' lf' rf' kn' r1) mi_X2_isFullPlain rfl ml_RL_238 (RMok.mk) hl.1 rfl (Nat.le_of_ble_eq_true rfl) dL_law_1240 ⟨by omega, by omega⟩ hK hP hD hS hA [5, 6, 7] rfl [0, 1, 2, 3, 4, 8] rfl rfl (by decide) [0, 1, 2, 3, 4, 6, 7, 8, 5] rfl rfl rfl rfl rfl (fun H locs hP hD hS => ?_)
  refine lv_istore (lv' := [(6, .int (v_X2_isFullPlain r1 j)), (5, .int (hk_isFullPlain r1)), (4, .int (nI i)), (3, .ref q), (2, .ref o), (1, .ref x), (0, .ref b)]) FX.1 FX.2.1 dL_law_1243 hl (by decide) rfl (fun ls hl => ?_)
  refine lv_goto (tgt := 1830) FX.1 FX.2.1 dL_law_1245 (by decide) ?_
  refine W.widen (k := cc + 33) (n := ss + 321) (by omega) (by omega) ?_
  exact kk H locs f g ak su gt lf rf kn ml cn bs (wth_X2_isFullPlain r1) h j ak' su' gt' lf' rf' kn' (hn_isFullPlain r1 g n0) sv ls hI2 hb hc hP hD hS (lv_sub hl [2, 3, 4, 5, 6] rfl)
set_option maxRecDepth 100000 in
set_option maxHeartbeats 4000000 in
theorem case_25 {p : Program} {l : Launch} {e : Env} {s : State} {m : MethodId} {below : List Frame} {meth : Method} {c : Code} (hl0 : l.stackTraces = false) (D : va_G) (cI cB : ClassId) (b L : Nat) (xs : Nat → Int32) (x bx px t bt o bo po q : Nat) (to tt : Nat) (go gu : Nat → Int32) (na nv : Nat) (nf : Nat → Int32) (nb nw : Nat) (nh : Nat → Int32) (ea ew : Nat) (ef : Nat → Int32) (i cc ss : Nat) (hi : i + 6 ≤ L) (hcc : cc + 33 ≤ room_1.cells) (hss : ss + 321 ≤ room_1.slots) (hL : L ≤ 3072) (FX : CallFix p m c cL_law 7 s #[.ref b] bigW RL) (hK : va_K D KL (TY cI cB) s) (hX : va_X b L xs s s.heap) (hbl : b < s.heap.size) (hz : zLaw to tt go gu na nv nf nb nw nh ea ew ef (fun q => s.heap.size ≤ q) s s.heap) (hfn : sb_Fit nf) (hfe : sb_Fit ef) (hnn : TL 4 nf nh) (kk : LGo p l e s m below meth c D cI cB b x bx px t bt o bo po q i 1830 (cc + 33) (ss + 321)) : LGo p l e s m below meth c D cI cB b x bx px t bt o bo po q i 1248 cc ss := by
  intro H locs f g ak su gt lf rf kn ml cn bs th h j ak' su' gt' lf' rf' kn' n0 sv ls hI hb hc hP hD hS hl
  have hA : ∀ q : Nat, s.heap.size ≤ q → s.heap.size ≤ q := fun _ h => h
  have hbA : ¬ (fun q : Nat => s.heap.size ≤ q) b := Nat.not_le.mpr hbl
  obtain ⟨r1, ey1⟩ : ∃ y, xs (i + 1) = y := ⟨_, rfl⟩
  have hin1 : i + 1 < L ∧ L < 2 ^ 31 := ⟨by omega, by omega⟩
  have hl : lv_has ls 7 [(4, .int (nI i)), (3, .ref q), (2, .ref o), (1, .ref x), (0, .ref b)] := hl
  have hP : va_P D KL [(x, .inr (2, [.ref bx, .ref px, .ref t, .int ak, .int su, .int gt, .int lf, .int rf, .int kn])), (bx, .inl (cI, 6, .inl f)), (px, .inl (cI, 2, .inl g)), (t, .inr (1, [.ref bt, .int 0, .int ml, .int cn])), (bt, .inl (cB, 16, .inl bs)), (o, .inr (4, [.int th, .ref bo, .ref po, .int ak', .int su', .int gt', .int lf', .int rf', .int kn'])), (bo, .inl (cI, 6, .inl h)), (po, .inl (cI, 2, .inl j)), (q, .inr (3, [.long n0, sv]))] H := hP
  have hD : va_D (fun q => s.heap.size ≤ q) [(x, .inr (2, [.ref bx, .ref px, .ref t, .int ak, .int su, .int gt, .int lf, .int rf, .int kn])), (bx, .inl (cI, 6, .inl f)), (px, .inl (cI, 2, .inl g)), (t, .inr (1, [.ref bt, .int 0, .int ml, .int cn])), (bt, .inl (cB, 16, .inl bs)), (o, .inr (4, [.int th, .ref bo, .ref po, .int ak', .int su', .int gt', .int lf', .int rf', .int kn'])), (bo, .inl (cI, 6, .inl h)), (po, .inl (cI, 2, .inl j)), (q, .inr (3, [.long n0, sv]))] := hD
  refine lv_aload_n FX.1 FX.2.1 dL_law_1248 rfl (lv_at hl 3 rfl) ?_
  refine p_rd (k := 1) (v := r1) FX hX hbl hbA hS (lv_at hl 4 rfl) (lv_at hl 0 rfl) dL_law_1249 dL_law_1250 dL_law_1252 dL_law_1253 dL_law_1254 rfl hin1 ey1 ?_
  refine lv_aload_n FX.1 FX.2.1 dL_law_1255 rfl (lv_at hl 1 rfl) ?_
  refine c_J (W0 := [(x, .inr (2, [.ref bx, .ref px, .ref t, .int ak, .int su, .int gt, .int lf, .int rf, .int kn])), (bx, .inl (cI, 6, .inl f)), (px, .inl (cI, 2, .inl g)), (q, .inr (3, [.long n0, sv]))]) (wr := [(t, .inr (1, [.ref bt, .int 0, .int ml, .int cn])), (bt, .inl (cB, 16, .inl bs)), (o, .inr (4, [.int th, .ref bo, .ref po, .int ak', .int su', .int gt', .int lf', .int rf', .int kn'])), (bo, .inl (cI, 6, .inl h)), (po, .inl (cI, 2, .inl j))]) (wsN := fun _ => [(x, .inr (2, [.ref bx, .ref px, .ref t, .int (hak_takePlain r1 g ak), .int (hsu_takePlain r1 g su), .int (hgt_takePlain r1 g gt), .int lf, .int rf, .int kn])), (bx, .inl (cI, 6, .inl f)), (px, .inl (cI, 2, .inl g)), (t, .inr (1, [.ref bt, .int 0, .int ml, .int cn])), (bt, .inl (cB, 16, .inl bs)), (o, .inr (4, [.int th, .ref bo, .ref po, .int ak', .int su', .int gt', .int lf', .int rf', .int kn'])), (bo, .inl (cI, 6, .inl h)), (po, .inl (cI, 2, .inl j)), (q, .inr (3, [.long (hn_takePlain r1 g su n0), sv]))]) (vx_runSW FX ((j_L_takePlain l hl0 D cI cB x bx px t f g ak su gt lf rf kn q n0 sv r1) H.size) (my_cwSW FX.2.2.2.2 mh_L_takePlain ml_RL_239 (RMok.mk)) ⟨PJ.blind (zAnd_ok (zAnd_ok zz_ok zN_ok) zF_ok), fun U hU hW => ⟨rfl, my_preJ (zAnd_ok (zAnd_ok zz_ok zN_ok) zF_ok) ⟨hz.1.1, hz.1.2.1⟩ hS hA hK hP hD [0, 1, 2, 8] rfl rfl U hU hW⟩⟩ rfl rfl hl.1 rfl (lv_room (Nat.le_of_ble_eq_true rfl)) dL_law_1256 ⟨by omega, by omega⟩) hP hD hS hA [0, 1, 2, 8] rfl [3, 4, 5, 6, 7] rfl (by decide) [5, 6, 7, 0, 1, 2, 3, 4, 8] (fun _ => rfl) rfl (fun u1 H locs hp_1 hP hD hS => ?_)
  have hP : va_P D KL [(x, .inr (2, [.ref bx, .ref px, .ref t, .int (hak_takePlain r1 g ak), .int (hsu_takePlain r1 g su), .int (hgt_takePlain r1 g gt), .int lf, .int rf, .int kn])), (bx, .inl (cI, 6, .inl f)), (px, .inl (cI, 2, .inl g)), (t, .inr (1, [.ref bt, .int 0, .int ml, .int cn])), (bt, .inl (cB, 16, .inl bs)), (o, .inr (4, [.int th, .ref bo, .ref po, .int ak', .int su', .int gt', .int lf', .int rf', .int kn'])), (bo, .inl (cI, 6, .inl h)), (po, .inl (cI, 2, .inl j)), (q, .inr (3, [.long (hn_takePlain r1 g su n0), sv]))] H := hP
  have hD : va_D (fun q => s.heap.size ≤ q) [(x, .inr (2, [.ref bx, .ref px, .ref t, .int (hak_takePlain r1 g ak), .int (hsu_takePlain r1 g su), .int (hgt_takePlain r1 g gt), .int lf, .int rf, .int kn])), (bx, .inl (cI, 6, .inl f)), (px, .inl (cI, 2, .inl g)), (t, .inr (1, [.ref bt, .int 0, .int ml, .int cn])), (bt, .inl (cB, 16, .inl bs)), (o, .inr (4, [.int th, .ref bo, .ref po, .int ak', .int su', .int gt', .int lf', .int rf', .int kn'])), (bo, .inl (cI, 6, .inl h)), (po, .inl (cI, 2, .inl j)), (q, .inr (3, [.long (hn_takePlain r1 g su n0), sv]))] := hD
  refine W.eq (g2 := F0 m 1259 ls [.int (hk_takePlain r1)]) rfl ?_
  refine lv_istore (lv' := [(5, .int (hk_takePlain r1)), (4, .int (nI i)), (3, .ref q), (2, .ref o), (1, .ref x), (0, .ref b)]) FX.1 FX.2.1 dL_law_1259 hl (by decide) rfl (fun ls hl => ?_)
  refine lv_aload_n FX.1 FX.2.1 dL_law_1261 rfl (lv_at hl 3 rfl) ?_
  refine p_rd (k := 1) (v := r1) FX hX hbl hbA hS (lv_at hl 5 rfl) (lv_at hl 1 rfl) dL_law_1262 dL_law_1263 dL_law_1265 dL_law_1266 dL_law_1267 rfl hin1 ey1 ?_
  obtain ⟨eT, eA, hI2⟩ := st_takePlain r1 n0 hI
  refine c_WRV (wr := [(x, .inr (2, [.ref bx, .ref px, .ref t, .int (hak_takePlain r1 g ak), .int (hsu_takePlain r1 g su), .int (hgt_takePlain r1 g gt), .int lf, .int rf, .int kn])), (bx, .inl (cI, 6, .inl f)), (px, .inl (cI, 2, .inl g)), (t, .inr (1, [.ref bt, .int 0, .int ml, .int cn])), (bt, .inl (cB, 16, .inl bs)), (q, .inr (3, [.long (hn_takePlain r1 g su n0), sv]))]) (wsN := [(x, .inr (2, [.ref bx, .ref px, .ref t, .int (hak_takePlain r1 g ak), .int (hsu_takePlain r1 g su), .int (hgt_takePlain r1 g gt), .int lf, .int rf, .int kn])), (bx, .inl (cI, 6, .inl f)), (px, .inl (cI, 2, .inl g)), (t, .inr (1, [.ref bt, .int 0, .int ml, .int cn])), (bt, .inl (cB, 16, .inl bs)), (o, .inr (4, [.int (wth_X2_takePlain r1), .ref bo, .ref po, .int (wak_X2_takePlain r1 j ak'), .int (wsu_X2_takePlain r1 j su'), .int (wgt_X2_takePlain r1 j gt'), .int lf', .int rf', .int kn'])), (bo, .inl (cI, 6, .inl h)), (po, .inl (cI, 2, .inl j)), (q, .inr (3, [.long (hn_takePlain r1 g su n0), sv]))]) (i0 := 5) (ci := 4) FX (k_X2_takePlain l D cI cB o bo po th h j ak' su' gt' lf' rf' kn' r1) mi_X2_takePlain rfl ml_RL_241 (RMok.mk) hl.1 rfl (Nat.le_of_ble_eq_true rfl) dL_law_1268 ⟨by omega, by omega⟩ hK hP hD hS hA [5, 6, 7] rfl [0, 1, 2, 3, 4, 8] rfl rfl (by decide) [0, 1, 2, 3, 4, 6, 7, 8, 5] rfl rfl rfl rfl rfl (fun H locs hP hD hS => ?_)
  refine lv_istore (lv' := [(6, .int (v_X2_takePlain r1 j su')), (5, .int (hk_takePlain r1)), (4, .int (nI i)), (3, .ref q), (2, .ref o), (1, .ref x), (0, .ref b)]) FX.1 FX.2.1 dL_law_1271 hl (by decide) rfl (fun ls hl => ?_)
  refine lv_goto (tgt := 1830) FX.1 FX.2.1 dL_law_1273 (by decide) ?_
  refine W.widen (k := cc + 33) (n := ss + 321) (by omega) (by omega) ?_
  exact kk H locs f g (hak_takePlain r1 g ak) (hsu_takePlain r1 g su) (hgt_takePlain r1 g gt) lf rf kn ml cn bs (wth_X2_takePlain r1) h j (wak_X2_takePlain r1 j ak') (wsu_X2_takePlain r1 j su') (wgt_X2_takePlain r1 j gt') lf' rf' kn' (hn_takePlain r1 g su n0) sv ls hI2 hb hc hP hD hS (lv_sub hl [2, 3, 4, 5, 6] rfl)
set_option maxRecDepth 100000 in
set_option maxHeartbeats 4000000 in
theorem case_26 {p : Program} {l : Launch} {e : Env} {s : State} {m : MethodId} {below : List Frame} {meth : Method} {c : Code} (hl0 : l.stackTraces = false) (D : va_G) (cI cB : ClassId) (b L : Nat) (xs : Nat → Int32) (x bx px t bt o bo po q : Nat) (to tt : Nat) (go gu : Nat → Int32) (na nv : Nat) (nf : Nat → Int32) (nb nw : Nat) (nh : Nat → Int32) (ea ew : Nat) (ef : Nat → Int32) (i cc ss : Nat) (hi : i + 6 ≤ L) (hcc : cc + 33 ≤ room_1.cells) (hss : ss + 321 ≤ room_1.slots) (hL : L ≤ 3072) (FX : CallFix p m c cL_law 7 s #[.ref b] bigW RL) (hK : va_K D KL (TY cI cB) s) (hX : va_X b L xs s s.heap) (hbl : b < s.heap.size) (hz : zLaw to tt go gu na nv nf nb nw nh ea ew ef (fun q => s.heap.size ≤ q) s s.heap) (hfn : sb_Fit nf) (hfe : sb_Fit ef) (hnn : TL 4 nf nh) (kk : LGo p l e s m below meth c D cI cB b x bx px t bt o bo po q i 1830 (cc + 33) (ss + 321)) : LGo p l e s m below meth c D cI cB b x bx px t bt o bo po q i 1276 cc ss := by
  intro H locs f g ak su gt lf rf kn ml cn bs th h j ak' su' gt' lf' rf' kn' n0 sv ls hI hb hc hP hD hS hl
  have hA : ∀ q : Nat, s.heap.size ≤ q → s.heap.size ≤ q := fun _ h => h
  have hbA : ¬ (fun q : Nat => s.heap.size ≤ q) b := Nat.not_le.mpr hbl
  have hl : lv_has ls 7 [(4, .int (nI i)), (3, .ref q), (2, .ref o), (1, .ref x), (0, .ref b)] := hl
  have hP : va_P D KL [(x, .inr (2, [.ref bx, .ref px, .ref t, .int ak, .int su, .int gt, .int lf, .int rf, .int kn])), (bx, .inl (cI, 6, .inl f)), (px, .inl (cI, 2, .inl g)), (t, .inr (1, [.ref bt, .int 0, .int ml, .int cn])), (bt, .inl (cB, 16, .inl bs)), (o, .inr (4, [.int th, .ref bo, .ref po, .int ak', .int su', .int gt', .int lf', .int rf', .int kn'])), (bo, .inl (cI, 6, .inl h)), (po, .inl (cI, 2, .inl j)), (q, .inr (3, [.long n0, sv]))] H := hP
  have hD : va_D (fun q => s.heap.size ≤ q) [(x, .inr (2, [.ref bx, .ref px, .ref t, .int ak, .int su, .int gt, .int lf, .int rf, .int kn])), (bx, .inl (cI, 6, .inl f)), (px, .inl (cI, 2, .inl g)), (t, .inr (1, [.ref bt, .int 0, .int ml, .int cn])), (bt, .inl (cB, 16, .inl bs)), (o, .inr (4, [.int th, .ref bo, .ref po, .int ak', .int su', .int gt', .int lf', .int rf', .int kn'])), (bo, .inl (cI, 6, .inl h)), (po, .inl (cI, 2, .inl j)), (q, .inr (3, [.long n0, sv]))] := hD
  refine lv_aload_n FX.1 FX.2.1 dL_law_1276 rfl (lv_at hl 3 rfl) ?_
  refine c_RDV (i0 := 0) (ci := 2) FX (r_X0_arePlainLike l D cI cB x bx px t f g ak su gt lf rf kn) mi_X0_arePlainLike rfl ml_RL_242 (RMok.mk) hl.1 rfl (Nat.le_of_ble_eq_true rfl) dL_law_1277 ⟨by omega, by omega⟩ hK hP [0, 1, 2] rfl rfl rfl rfl ?_
  refine lv_pop FX.1 FX.2.1 dL_law_1280 rfl ?_
  refine lv_aload_n FX.1 FX.2.1 dL_law_1281 rfl (lv_at hl 2 rfl) ?_
  refine c_WRV (wr := [(x, .inr (2, [.ref bx, .ref px, .ref t, .int ak, .int su, .int gt, .int lf, .int rf, .int kn])), (bx, .inl (cI, 6, .inl f)), (px, .inl (cI, 2, .inl g)), (t, .inr (1, [.ref bt, .int 0, .int ml, .int cn])), (bt, .inl (cB, 16, .inl bs)), (q, .inr (3, [.long n0, sv]))]) (wsN := [(x, .inr (2, [.ref bx, .ref px, .ref t, .int ak, .int su, .int gt, .int lf, .int rf, .int kn])), (bx, .inl (cI, 6, .inl f)), (px, .inl (cI, 2, .inl g)), (t, .inr (1, [.ref bt, .int 0, .int ml, .int cn])), (bt, .inl (cB, 16, .inl bs)), (o, .inr (4, [.int wth_X2_arePlainLike, .ref bo, .ref po, .int ak', .int su', .int gt', .int lf', .int rf', .int kn'])), (bo, .inl (cI, 6, .inl h)), (po, .inl (cI, 2, .inl j)), (q, .inr (3, [.long n0, sv]))]) (i0 := 5) (ci := 4) FX (k_X2_arePlainLike l D cI cB o bo po th h j ak' su' gt' lf' rf' kn') mi_X2_arePlainLike rfl ml_RL_246 (RMok.mk) hl.1 rfl (Nat.le_of_ble_eq_true rfl) dL_law_1282 ⟨by omega, by omega⟩ hK hP hD hS hA [5, 6, 7] rfl [0, 1, 2, 3, 4, 8] rfl rfl (by decide) [0, 1, 2, 3, 4, 6, 7, 8, 5] rfl rfl rfl rfl rfl (fun H locs hP hD hS => ?_)
  refine lv_pop FX.1 FX.2.1 dL_law_1285 rfl ?_
  refine lv_goto (tgt := 1830) FX.1 FX.2.1 dL_law_1286 (by decide) ?_
  refine W.widen (k := cc + 33) (n := ss + 321) (by omega) (by omega) ?_
  exact kk H locs f g ak su gt lf rf kn ml cn bs wth_X2_arePlainLike h j ak' su' gt' lf' rf' kn' n0 sv ls hI hb hc hP hD hS (lv_sub hl [0, 1, 2, 3, 4] rfl)
set_option maxRecDepth 100000 in
set_option maxHeartbeats 4000000 in
theorem case_27 {p : Program} {l : Launch} {e : Env} {s : State} {m : MethodId} {below : List Frame} {meth : Method} {c : Code} (hl0 : l.stackTraces = false) (D : va_G) (cI cB : ClassId) (b L : Nat) (xs : Nat → Int32) (x bx px t bt o bo po q : Nat) (to tt : Nat) (go gu : Nat → Int32) (na nv : Nat) (nf : Nat → Int32) (nb nw : Nat) (nh : Nat → Int32) (ea ew : Nat) (ef : Nat → Int32) (i cc ss : Nat) (hi : i + 6 ≤ L) (hcc : cc + 33 ≤ room_1.cells) (hss : ss + 321 ≤ room_1.slots) (hL : L ≤ 3072) (FX : CallFix p m c cL_law 7 s #[.ref b] bigW RL) (hK : va_K D KL (TY cI cB) s) (hX : va_X b L xs s s.heap) (hbl : b < s.heap.size) (hz : zLaw to tt go gu na nv nf nb nw nh ea ew ef (fun q => s.heap.size ≤ q) s s.heap) (hfn : sb_Fit nf) (hfe : sb_Fit ef) (hnn : TL 4 nf nh) (kk : LGo p l e s m below meth c D cI cB b x bx px t bt o bo po q i 1830 (cc + 33) (ss + 321)) : LGo p l e s m below meth c D cI cB b x bx px t bt o bo po q i 1289 cc ss := by
  intro H locs f g ak su gt lf rf kn ml cn bs th h j ak' su' gt' lf' rf' kn' n0 sv ls hI hb hc hP hD hS hl
  have hA : ∀ q : Nat, s.heap.size ≤ q → s.heap.size ≤ q := fun _ h => h
  have hbA : ¬ (fun q : Nat => s.heap.size ≤ q) b := Nat.not_le.mpr hbl
  obtain ⟨r1, ey1⟩ : ∃ y, xs (i + 1) = y := ⟨_, rfl⟩
  have hin1 : i + 1 < L ∧ L < 2 ^ 31 := ⟨by omega, by omega⟩
  obtain ⟨r2, ey2⟩ : ∃ y, xs (i + 2) = y := ⟨_, rfl⟩
  have hin2 : i + 2 < L ∧ L < 2 ^ 31 := ⟨by omega, by omega⟩
  have hl : lv_has ls 7 [(4, .int (nI i)), (3, .ref q), (2, .ref o), (1, .ref x), (0, .ref b)] := hl
  have hP : va_P D KL [(x, .inr (2, [.ref bx, .ref px, .ref t, .int ak, .int su, .int gt, .int lf, .int rf, .int kn])), (bx, .inl (cI, 6, .inl f)), (px, .inl (cI, 2, .inl g)), (t, .inr (1, [.ref bt, .int 0, .int ml, .int cn])), (bt, .inl (cB, 16, .inl bs)), (o, .inr (4, [.int th, .ref bo, .ref po, .int ak', .int su', .int gt', .int lf', .int rf', .int kn'])), (bo, .inl (cI, 6, .inl h)), (po, .inl (cI, 2, .inl j)), (q, .inr (3, [.long n0, sv]))] H := hP
  have hD : va_D (fun q => s.heap.size ≤ q) [(x, .inr (2, [.ref bx, .ref px, .ref t, .int ak, .int su, .int gt, .int lf, .int rf, .int kn])), (bx, .inl (cI, 6, .inl f)), (px, .inl (cI, 2, .inl g)), (t, .inr (1, [.ref bt, .int 0, .int ml, .int cn])), (bt, .inl (cB, 16, .inl bs)), (o, .inr (4, [.int th, .ref bo, .ref po, .int ak', .int su', .int gt', .int lf', .int rf', .int kn'])), (bo, .inl (cI, 6, .inl h)), (po, .inl (cI, 2, .inl j)), (q, .inr (3, [.long n0, sv]))] := hD
  refine lv_aload_n FX.1 FX.2.1 dL_law_1289 rfl (lv_at hl 3 rfl) ?_
  refine p_rd (k := 1) (v := r1) FX hX hbl hbA hS (lv_at hl 4 rfl) (lv_at hl 0 rfl) dL_law_1290 dL_law_1291 dL_law_1293 dL_law_1294 dL_law_1295 rfl hin1 ey1 ?_
  refine p_rd (k := 2) (v := r2) FX hX hbl hbA hS (lv_at hl 4 rfl) (lv_at hl 0 rfl) dL_law_1296 dL_law_1297 dL_law_1299 dL_law_1300 dL_law_1301 rfl hin2 ey2 ?_
  refine lv_aload_n FX.1 FX.2.1 dL_law_1302 rfl (lv_at hl 1 rfl) ?_
  refine c_J (W0 := [(x, .inr (2, [.ref bx, .ref px, .ref t, .int ak, .int su, .int gt, .int lf, .int rf, .int kn])), (bx, .inl (cI, 6, .inl f)), (px, .inl (cI, 2, .inl g)), (q, .inr (3, [.long n0, sv]))]) (wr := [(t, .inr (1, [.ref bt, .int 0, .int ml, .int cn])), (bt, .inl (cB, 16, .inl bs)), (o, .inr (4, [.int th, .ref bo, .ref po, .int ak', .int su', .int gt', .int lf', .int rf', .int kn'])), (bo, .inl (cI, 6, .inl h)), (po, .inl (cI, 2, .inl j))]) (wsN := fun _ => [(x, .inr (2, [.ref bx, .ref px, .ref t, .int ak, .int su, .int gt, .int lf, .int rf, .int kn])), (bx, .inl (cI, 6, .inl f)), (px, .inl (cI, 2, .inl (hg_toPlain r1 r2 f g))), (t, .inr (1, [.ref bt, .int 0, .int ml, .int cn])), (bt, .inl (cB, 16, .inl bs)), (o, .inr (4, [.int th, .ref bo, .ref po, .int ak', .int su', .int gt', .int lf', .int rf', .int kn'])), (bo, .inl (cI, 6, .inl h)), (po, .inl (cI, 2, .inl j)), (q, .inr (3, [.long (hn_toPlain r1 r2 f g n0), sv]))]) (vx_runSW FX ((j_L_toPlain l hl0 D cI cB x bx px t f g ak su gt lf rf kn q n0 sv r1 r2) H.size) (my_cwSW FX.2.2.2.2 mh_L_toPlain ml_RL_247 (RMok.mk)) ⟨PJ.blind (zAnd_ok (zAnd_ok zz_ok zN_ok) zF_ok), fun U hU hW => ⟨rfl, my_preJ (zAnd_ok (zAnd_ok zz_ok zN_ok) zF_ok) ⟨hz.1.1, hz.1.2.1⟩ hS hA hK hP hD [0, 1, 2, 8] rfl rfl U hU hW⟩⟩ rfl rfl hl.1 rfl (lv_room (Nat.le_of_ble_eq_true rfl)) dL_law_1303 ⟨by omega, by omega⟩) hP hD hS hA [0, 1, 2, 8] rfl [3, 4, 5, 6, 7] rfl (by decide) [5, 6, 7, 0, 1, 2, 3, 4, 8] (fun _ => rfl) rfl (fun u1 H locs hp_1 hP hD hS => ?_)
  have hP : va_P D KL [(x, .inr (2, [.ref bx, .ref px, .ref t, .int ak, .int su, .int gt, .int lf, .int rf, .int kn])), (bx, .inl (cI, 6, .inl f)), (px, .inl (cI, 2, .inl (hg_toPlain r1 r2 f g))), (t, .inr (1, [.ref bt, .int 0, .int ml, .int cn])), (bt, .inl (cB, 16, .inl bs)), (o, .inr (4, [.int th, .ref bo, .ref po, .int ak', .int su', .int gt', .int lf', .int rf', .int kn'])), (bo, .inl (cI, 6, .inl h)), (po, .inl (cI, 2, .inl j)), (q, .inr (3, [.long (hn_toPlain r1 r2 f g n0), sv]))] H := hP
  have hD : va_D (fun q => s.heap.size ≤ q) [(x, .inr (2, [.ref bx, .ref px, .ref t, .int ak, .int su, .int gt, .int lf, .int rf, .int kn])), (bx, .inl (cI, 6, .inl f)), (px, .inl (cI, 2, .inl (hg_toPlain r1 r2 f g))), (t, .inr (1, [.ref bt, .int 0, .int ml, .int cn])), (bt, .inl (cB, 16, .inl bs)), (o, .inr (4, [.int th, .ref bo, .ref po, .int ak', .int su', .int gt', .int lf', .int rf', .int kn'])), (bo, .inl (cI, 6, .inl h)), (po, .inl (cI, 2, .inl j)), (q, .inr (3, [.long (hn_toPlain r1 r2 f g n0), sv]))] := hD
  refine W.eq (g2 := F0 m 1306 ls [.int (hk_toPlain r1 r2)]) rfl ?_
  refine lv_istore (lv' := [(5, .int (hk_toPlain r1 r2)), (4, .int (nI i)), (3, .ref q), (2, .ref o), (1, .ref x), (0, .ref b)]) FX.1 FX.2.1 dL_law_1306 hl (by decide) rfl (fun ls hl => ?_)
  refine lv_aload_n FX.1 FX.2.1 dL_law_1308 rfl (lv_at hl 3 rfl) ?_
  refine p_rd (k := 1) (v := r1) FX hX hbl hbA hS (lv_at hl 5 rfl) (lv_at hl 1 rfl) dL_law_1309 dL_law_1310 dL_law_1312 dL_law_1313 dL_law_1314 rfl hin1 ey1 ?_
  refine p_rd (k := 2) (v := r2) FX hX hbl hbA hS (lv_at hl 5 rfl) (lv_at hl 1 rfl) dL_law_1315 dL_law_1316 dL_law_1318 dL_law_1319 dL_law_1320 rfl hin2 ey2 ?_
  obtain ⟨eT, eA, hI2⟩ := st_toPlain r1 r2 n0 hI
  refine c_WRV (wr := [(x, .inr (2, [.ref bx, .ref px, .ref t, .int ak, .int su, .int gt, .int lf, .int rf, .int kn])), (bx, .inl (cI, 6, .inl f)), (px, .inl (cI, 2, .inl (hg_toPlain r1 r2 f g))), (t, .inr (1, [.ref bt, .int 0, .int ml, .int cn])), (bt, .inl (cB, 16, .inl bs)), (q, .inr (3, [.long (hn_toPlain r1 r2 f g n0), sv]))]) (wsN := [(x, .inr (2, [.ref bx, .ref px, .ref t, .int ak, .int su, .int gt, .int lf, .int rf, .int kn])), (bx, .inl (cI, 6, .inl f)), (px, .inl (cI, 2, .inl (hg_toPlain r1 r2 f g))), (t, .inr (1, [.ref bt, .int 0, .int ml, .int cn])), (bt, .inl (cB, 16, .inl bs)), (o, .inr (4, [.int (wth_X2_toPlain r1 r2), .ref bo, .ref po, .int ak', .int su', .int gt', .int lf', .int rf', .int kn'])), (bo, .inl (cI, 6, .inl h)), (po, .inl (cI, 2, .inl (wg_X2_toPlain r1 r2 h j))), (q, .inr (3, [.long (hn_toPlain r1 r2 f g n0), sv]))]) (i0 := 5) (ci := 4) FX (k_X2_toPlain l D cI cB o bo po th h j ak' su' gt' lf' rf' kn' r1 r2) mi_X2_toPlain rfl ml_RL_249 (RMok.mk) hl.1 rfl (Nat.le_of_ble_eq_true rfl) dL_law_1321 ⟨by omega, by omega⟩ hK hP hD hS hA [5, 6, 7] rfl [0, 1, 2, 3, 4, 8] rfl rfl (by decide) [0, 1, 2, 3, 4, 6, 7, 8, 5] rfl rfl rfl rfl rfl (fun H locs hP hD hS => ?_)
  refine lv_istore (lv' := [(6, .int (v_X2_toPlain r1 r2 h)), (5, .int (hk_toPlain r1 r2)), (4, .int (nI i)), (3, .ref q), (2, .ref o), (1, .ref x), (0, .ref b)]) FX.1 FX.2.1 dL_law_1324 hl (by decide) rfl (fun ls hl => ?_)
  refine lv_goto (tgt := 1830) FX.1 FX.2.1 dL_law_1326 (by decide) ?_
  refine W.widen (k := cc + 33) (n := ss + 321) (by omega) (by omega) ?_
  exact kk H locs f (hg_toPlain r1 r2 f g) ak su gt lf rf kn ml cn bs (wth_X2_toPlain r1 r2) h (wg_X2_toPlain r1 r2 h j) ak' su' gt' lf' rf' kn' (hn_toPlain r1 r2 f g n0) sv ls hI2 hb hc hP hD hS (lv_sub hl [2, 3, 4, 5, 6] rfl)
set_option maxRecDepth 100000 in
set_option maxHeartbeats 4000000 in
theorem case_28 {p : Program} {l : Launch} {e : Env} {s : State} {m : MethodId} {below : List Frame} {meth : Method} {c : Code} (hl0 : l.stackTraces = false) (D : va_G) (cI cB : ClassId) (b L : Nat) (xs : Nat → Int32) (x bx px t bt o bo po q : Nat) (to tt : Nat) (go gu : Nat → Int32) (na nv : Nat) (nf : Nat → Int32) (nb nw : Nat) (nh : Nat → Int32) (ea ew : Nat) (ef : Nat → Int32) (i cc ss : Nat) (hi : i + 6 ≤ L) (hcc : cc + 33 ≤ room_1.cells) (hss : ss + 321 ≤ room_1.slots) (hL : L ≤ 3072) (FX : CallFix p m c cL_law 7 s #[.ref b] bigW RL) (hK : va_K D KL (TY cI cB) s) (hX : va_X b L xs s s.heap) (hbl : b < s.heap.size) (hz : zLaw to tt go gu na nv nf nb nw nh ea ew ef (fun q => s.heap.size ≤ q) s s.heap) (hfn : sb_Fit nf) (hfe : sb_Fit ef) (hnn : TL 4 nf nh) (kk : LGo p l e s m below meth c D cI cB b x bx px t bt o bo po q i 1830 (cc + 33) (ss + 321)) : LGo p l e s m below meth c D cI cB b x bx px t bt o bo po q i 1329 cc ss := by
  intro H locs f g ak su gt lf rf kn ml cn bs th h j ak' su' gt' lf' rf' kn' n0 sv ls hI hb hc hP hD hS hl
  have hA : ∀ q : Nat, s.heap.size ≤ q → s.heap.size ≤ q := fun _ h => h
  have hbA : ¬ (fun q : Nat => s.heap.size ≤ q) b := Nat.not_le.mpr hbl
  obtain ⟨r1, ey1⟩ : ∃ y, xs (i + 1) = y := ⟨_, rfl⟩
  have hin1 : i + 1 < L ∧ L < 2 ^ 31 := ⟨by omega, by omega⟩
  obtain ⟨r2, ey2⟩ : ∃ y, xs (i + 2) = y := ⟨_, rfl⟩
  have hin2 : i + 2 < L ∧ L < 2 ^ 31 := ⟨by omega, by omega⟩
  have hl : lv_has ls 7 [(4, .int (nI i)), (3, .ref q), (2, .ref o), (1, .ref x), (0, .ref b)] := hl
  have hP : va_P D KL [(x, .inr (2, [.ref bx, .ref px, .ref t, .int ak, .int su, .int gt, .int lf, .int rf, .int kn])), (bx, .inl (cI, 6, .inl f)), (px, .inl (cI, 2, .inl g)), (t, .inr (1, [.ref bt, .int 0, .int ml, .int cn])), (bt, .inl (cB, 16, .inl bs)), (o, .inr (4, [.int th, .ref bo, .ref po, .int ak', .int su', .int gt', .int lf', .int rf', .int kn'])), (bo, .inl (cI, 6, .inl h)), (po, .inl (cI, 2, .inl j)), (q, .inr (3, [.long n0, sv]))] H := hP
  have hD : va_D (fun q => s.heap.size ≤ q) [(x, .inr (2, [.ref bx, .ref px, .ref t, .int ak, .int su, .int gt, .int lf, .int rf, .int kn])), (bx, .inl (cI, 6, .inl f)), (px, .inl (cI, 2, .inl g)), (t, .inr (1, [.ref bt, .int 0, .int ml, .int cn])), (bt, .inl (cB, 16, .inl bs)), (o, .inr (4, [.int th, .ref bo, .ref po, .int ak', .int su', .int gt', .int lf', .int rf', .int kn'])), (bo, .inl (cI, 6, .inl h)), (po, .inl (cI, 2, .inl j)), (q, .inr (3, [.long n0, sv]))] := hD
  refine lv_aload_n FX.1 FX.2.1 dL_law_1329 rfl (lv_at hl 3 rfl) ?_
  refine p_rd (k := 1) (v := r1) FX hX hbl hbA hS (lv_at hl 4 rfl) (lv_at hl 0 rfl) dL_law_1330 dL_law_1331 dL_law_1333 dL_law_1334 dL_law_1335 rfl hin1 ey1 ?_
  refine p_rd (k := 2) (v := r2) FX hX hbl hbA hS (lv_at hl 4 rfl) (lv_at hl 0 rfl) dL_law_1336 dL_law_1337 dL_law_1339 dL_law_1340 dL_law_1341 rfl hin2 ey2 ?_
  refine lv_aload_n FX.1 FX.2.1 dL_law_1342 rfl (lv_at hl 1 rfl) ?_
  refine c_J (W0 := [(x, .inr (2, [.ref bx, .ref px, .ref t, .int ak, .int su, .int gt, .int lf, .int rf, .int kn])), (bx, .inl (cI, 6, .inl f)), (px, .inl (cI, 2, .inl g)), (q, .inr (3, [.long n0, sv]))]) (wr := [(t, .inr (1, [.ref bt, .int 0, .int ml, .int cn])), (bt, .inl (cB, 16, .inl bs)), (o, .inr (4, [.int th, .ref bo, .ref po, .int ak', .int su', .int gt', .int lf', .int rf', .int kn'])), (bo, .inl (cI, 6, .inl h)), (po, .inl (cI, 2, .inl j))]) (wsN := fun _ => [(x, .inr (2, [.ref bx, .ref px, .ref t, .int ak, .int su, .int gt, .int lf, .int rf, .int kn])), (bx, .inl (cI, 6, .inl (hf_fromPlain r1 r2 f g))), (px, .inl (cI, 2, .inl g)), (t, .inr (1, [.ref bt, .int 0, .int ml, .int cn])), (bt, .inl (cB, 16, .inl bs)), (o, .inr (4, [.int th, .ref bo, .ref po, .int ak', .int su', .int gt', .int lf', .int rf', .int kn'])), (bo, .inl (cI, 6, .inl h)), (po, .inl (cI, 2, .inl j)), (q, .inr (3, [.long (hn_fromPlain r1 r2 f g n0), sv]))]) (vx_runSW FX ((j_L_fromPlain l hl0 D cI cB x bx px t f g ak su gt lf rf kn q n0 sv r1 r2) H.size) (my_cwSW FX.2.2.2.2 mh_L_fromPlain ml_RL_250 (RMok.mk)) ⟨PJ.blind (zAnd_ok (zAnd_ok zz_ok zN_ok) zF_ok), fun U hU hW => ⟨rfl, my_preJ (zAnd_ok (zAnd_ok zz_ok zN_ok) zF_ok) ⟨hz.1.1, hz.1.2.1⟩ hS hA hK hP hD [0, 1, 2, 8] rfl rfl U hU hW⟩⟩ rfl rfl hl.1 rfl (lv_room (Nat.le_of_ble_eq_true rfl)) dL_law_1343 ⟨by omega, by omega⟩) hP hD hS hA [0, 1, 2, 8] rfl [3, 4, 5, 6, 7] rfl (by decide) [5, 6, 7, 0, 1, 2, 3, 4, 8] (fun _ => rfl) rfl (fun u1 H locs hp_1 hP hD hS => ?_)
  have hP : va_P D KL [(x, .inr (2, [.ref bx, .ref px, .ref t, .int ak, .int su, .int gt, .int lf, .int rf, .int kn])), (bx, .inl (cI, 6, .inl (hf_fromPlain r1 r2 f g))), (px, .inl (cI, 2, .inl g)), (t, .inr (1, [.ref bt, .int 0, .int ml, .int cn])), (bt, .inl (cB, 16, .inl bs)), (o, .inr (4, [.int th, .ref bo, .ref po, .int ak', .int su', .int gt', .int lf', .int rf', .int kn'])), (bo, .inl (cI, 6, .inl h)), (po, .inl (cI, 2, .inl j)), (q, .inr (3, [.long (hn_fromPlain r1 r2 f g n0), sv]))] H := hP
  have hD : va_D (fun q => s.heap.size ≤ q) [(x, .inr (2, [.ref bx, .ref px, .ref t, .int ak, .int su, .int gt, .int lf, .int rf, .int kn])), (bx, .inl (cI, 6, .inl (hf_fromPlain r1 r2 f g))), (px, .inl (cI, 2, .inl g)), (t, .inr (1, [.ref bt, .int 0, .int ml, .int cn])), (bt, .inl (cB, 16, .inl bs)), (o, .inr (4, [.int th, .ref bo, .ref po, .int ak', .int su', .int gt', .int lf', .int rf', .int kn'])), (bo, .inl (cI, 6, .inl h)), (po, .inl (cI, 2, .inl j)), (q, .inr (3, [.long (hn_fromPlain r1 r2 f g n0), sv]))] := hD
  refine W.eq (g2 := F0 m 1346 ls [.int (hk_fromPlain r1 r2)]) rfl ?_
  refine lv_istore (lv' := [(5, .int (hk_fromPlain r1 r2)), (4, .int (nI i)), (3, .ref q), (2, .ref o), (1, .ref x), (0, .ref b)]) FX.1 FX.2.1 dL_law_1346 hl (by decide) rfl (fun ls hl => ?_)
  refine lv_aload_n FX.1 FX.2.1 dL_law_1348 rfl (lv_at hl 3 rfl) ?_
  refine p_rd (k := 1) (v := r1) FX hX hbl hbA hS (lv_at hl 5 rfl) (lv_at hl 1 rfl) dL_law_1349 dL_law_1350 dL_law_1352 dL_law_1353 dL_law_1354 rfl hin1 ey1 ?_
  refine p_rd (k := 2) (v := r2) FX hX hbl hbA hS (lv_at hl 5 rfl) (lv_at hl 1 rfl) dL_law_1355 dL_law_1356 dL_law_1358 dL_law_1359 dL_law_1360 rfl hin2 ey2 ?_
  obtain ⟨eT, eA, hI2⟩ := st_fromPlain r1 r2 n0 hI
  refine c_WRV (wr := [(x, .inr (2, [.ref bx, .ref px, .ref t, .int ak, .int su, .int gt, .int lf, .int rf, .int kn])), (bx, .inl (cI, 6, .inl (hf_fromPlain r1 r2 f g))), (px, .inl (cI, 2, .inl g)), (t, .inr (1, [.ref bt, .int 0, .int ml, .int cn])), (bt, .inl (cB, 16, .inl bs)), (q, .inr (3, [.long (hn_fromPlain r1 r2 f g n0), sv]))]) (wsN := [(x, .inr (2, [.ref bx, .ref px, .ref t, .int ak, .int su, .int gt, .int lf, .int rf, .int kn])), (bx, .inl (cI, 6, .inl (hf_fromPlain r1 r2 f g))), (px, .inl (cI, 2, .inl g)), (t, .inr (1, [.ref bt, .int 0, .int ml, .int cn])), (bt, .inl (cB, 16, .inl bs)), (o, .inr (4, [.int (wth_X2_fromPlain r1 r2), .ref bo, .ref po, .int ak', .int su', .int gt', .int lf', .int rf', .int kn'])), (bo, .inl (cI, 6, .inl (wf_X2_fromPlain r1 r2 h j))), (po, .inl (cI, 2, .inl j)), (q, .inr (3, [.long (hn_fromPlain r1 r2 f g n0), sv]))]) (i0 := 5) (ci := 4) FX (k_X2_fromPlain l D cI cB o bo po th h j ak' su' gt' lf' rf' kn' r1 r2) mi_X2_fromPlain rfl ml_RL_252 (RMok.mk) hl.1 rfl (Nat.le_of_ble_eq_true rfl) dL_law_1361 ⟨by omega, by omega⟩ hK hP hD hS hA [5, 6, 7] rfl [0, 1, 2, 3, 4, 8] rfl rfl (by decide) [0, 1, 2, 3, 4, 6, 7, 8, 5] rfl rfl rfl rfl rfl (fun H locs hP hD hS => ?_)
  refine lv_istore (lv' := [(6, .int (v_X2_fromPlain r1 r2 j)), (5, .int (hk_fromPlain r1 r2)), (4, .int (nI i)), (3, .ref q), (2, .ref o), (1, .ref x), (0, .ref b)]) FX.1 FX.2.1 dL_law_1364 hl (by decide) rfl (fun ls hl => ?_)
  refine lv_goto (tgt := 1830) FX.1 FX.2.1 dL_law_1366 (by decide) ?_
  refine W.widen (k := cc + 33) (n := ss + 321) (by omega) (by omega) ?_
  exact kk H locs (hf_fromPlain r1 r2 f g) g ak su gt lf rf kn ml cn bs (wth_X2_fromPlain r1 r2) (wf_X2_fromPlain r1 r2 h j) j ak' su' gt' lf' rf' kn' (hn_fromPlain r1 r2 f g n0) sv ls hI2 hb hc hP hD hS (lv_sub hl [2, 3, 4, 5, 6] rfl)
set_option maxRecDepth 100000 in
set_option maxHeartbeats 4000000 in
theorem case_29 {p : Program} {l : Launch} {e : Env} {s : State} {m : MethodId} {below : List Frame} {meth : Method} {c : Code} (hl0 : l.stackTraces = false) (D : va_G) (cI cB : ClassId) (b L : Nat) (xs : Nat → Int32) (x bx px t bt o bo po q : Nat) (to tt : Nat) (go gu : Nat → Int32) (na nv : Nat) (nf : Nat → Int32) (nb nw : Nat) (nh : Nat → Int32) (ea ew : Nat) (ef : Nat → Int32) (i cc ss : Nat) (hi : i + 6 ≤ L) (hcc : cc + 33 ≤ room_1.cells) (hss : ss + 321 ≤ room_1.slots) (hL : L ≤ 3072) (FX : CallFix p m c cL_law 7 s #[.ref b] bigW RL) (hK : va_K D KL (TY cI cB) s) (hX : va_X b L xs s s.heap) (hbl : b < s.heap.size) (hz : zLaw to tt go gu na nv nf nb nw nh ea ew ef (fun q => s.heap.size ≤ q) s s.heap) (hfn : sb_Fit nf) (hfe : sb_Fit ef) (hnn : TL 4 nf nh) (kk : LGo p l e s m below meth c D cI cB b x bx px t bt o bo po q i 1830 (cc + 33) (ss + 321)) : LGo p l e s m below meth c D cI cB b x bx px t bt o bo po q i 1369 cc ss := by
  intro H locs f g ak su gt lf rf kn ml cn bs th h j ak' su' gt' lf' rf' kn' n0 sv ls hI hb hc hP hD hS hl
  have hA : ∀ q : Nat, s.heap.size ≤ q → s.heap.size ≤ q := fun _ h => h
  have hbA : ¬ (fun q : Nat => s.heap.size ≤ q) b := Nat.not_le.mpr hbl
  obtain ⟨r1, ey1⟩ : ∃ y, xs (i + 1) = y := ⟨_, rfl⟩
  have hin1 : i + 1 < L ∧ L < 2 ^ 31 := ⟨by omega, by omega⟩
  obtain ⟨r2, ey2⟩ : ∃ y, xs (i + 2) = y := ⟨_, rfl⟩
  have hin2 : i + 2 < L ∧ L < 2 ^ 31 := ⟨by omega, by omega⟩
  have hl : lv_has ls 7 [(4, .int (nI i)), (3, .ref q), (2, .ref o), (1, .ref x), (0, .ref b)] := hl
  have hP : va_P D KL [(x, .inr (2, [.ref bx, .ref px, .ref t, .int ak, .int su, .int gt, .int lf, .int rf, .int kn])), (bx, .inl (cI, 6, .inl f)), (px, .inl (cI, 2, .inl g)), (t, .inr (1, [.ref bt, .int 0, .int ml, .int cn])), (bt, .inl (cB, 16, .inl bs)), (o, .inr (4, [.int th, .ref bo, .ref po, .int ak', .int su', .int gt', .int lf', .int rf', .int kn'])), (bo, .inl (cI, 6, .inl h)), (po, .inl (cI, 2, .inl j)), (q, .inr (3, [.long n0, sv]))] H := hP
  have hD : va_D (fun q => s.heap.size ≤ q) [(x, .inr (2, [.ref bx, .ref px, .ref t, .int ak, .int su, .int gt, .int lf, .int rf, .int kn])), (bx, .inl (cI, 6, .inl f)), (px, .inl (cI, 2, .inl g)), (t, .inr (1, [.ref bt, .int 0, .int ml, .int cn])), (bt, .inl (cB, 16, .inl bs)), (o, .inr (4, [.int th, .ref bo, .ref po, .int ak', .int su', .int gt', .int lf', .int rf', .int kn'])), (bo, .inl (cI, 6, .inl h)), (po, .inl (cI, 2, .inl j)), (q, .inr (3, [.long n0, sv]))] := hD
  refine lv_aload_n FX.1 FX.2.1 dL_law_1369 rfl (lv_at hl 3 rfl) ?_
  refine p_rd (k := 1) (v := r1) FX hX hbl hbA hS (lv_at hl 4 rfl) (lv_at hl 0 rfl) dL_law_1370 dL_law_1371 dL_law_1373 dL_law_1374 dL_law_1375 rfl hin1 ey1 ?_
  refine p_rd (k := 2) (v := r2) FX hX hbl hbA hS (lv_at hl 4 rfl) (lv_at hl 0 rfl) dL_law_1376 dL_law_1377 dL_law_1379 dL_law_1380 dL_law_1381 rfl hin2 ey2 ?_
  refine lv_aload_n FX.1 FX.2.1 dL_law_1382 rfl (lv_at hl 1 rfl) ?_
  refine c_J (W0 := [(x, .inr (2, [.ref bx, .ref px, .ref t, .int ak, .int su, .int gt, .int lf, .int rf, .int kn])), (bx, .inl (cI, 6, .inl f)), (px, .inl (cI, 2, .inl g)), (q, .inr (3, [.long n0, sv]))]) (wr := [(t, .inr (1, [.ref bt, .int 0, .int ml, .int cn])), (bt, .inl (cB, 16, .inl bs)), (o, .inr (4, [.int th, .ref bo, .ref po, .int ak', .int su', .int gt', .int lf', .int rf', .int kn'])), (bo, .inl (cI, 6, .inl h)), (po, .inl (cI, 2, .inl j))]) (wsN := fun _ => [(x, .inr (2, [.ref bx, .ref px, .ref t, .int ak, .int su, .int gt, .int lf, .int rf, .int kn])), (bx, .inl (cI, 6, .inl f)), (px, .inl (cI, 2, .inl g)), (t, .inr (1, [.ref bt, .int 0, .int ml, .int cn])), (bt, .inl (cB, 16, .inl bs)), (o, .inr (4, [.int th, .ref bo, .ref po, .int ak', .int su', .int gt', .int lf', .int rf', .int kn'])), (bo, .inl (cI, 6, .inl h)), (po, .inl (cI, 2, .inl j)), (q, .inr (3, [.long (hn_areLike r1 r2 f n0), sv]))]) (vx_runSW FX ((j_L_areLike l hl0 D cI cB x bx px t f g ak su gt lf rf kn q n0 sv r1 r2) H.size) (my_cwSW FX.2.2.2.2 mh_L_areLike ml_RL_253 (RMok.mk)) ⟨PJ.blind (zAnd_ok (zAnd_ok zz_ok zN_ok) zF_ok), fun U hU hW => ⟨rfl, my_preJ (zAnd_ok (zAnd_ok zz_ok zN_ok) zF_ok) ⟨hz.1.1, hz.1.2.1⟩ hS hA hK hP hD [0, 1, 2, 8] rfl rfl U hU hW⟩⟩ rfl rfl hl.1 rfl (lv_room (Nat.le_of_ble_eq_true rfl)) dL_law_1383 ⟨by omega, by omega⟩) hP hD hS hA [0, 1, 2, 8] rfl [3, 4, 5, 6, 7] rfl (by decide) [5, 6, 7, 0, 1, 2, 3, 4, 8] (fun _ => rfl) rfl (fun u1 H locs hp_1 hP hD hS => ?_)
  have hP : va_P D KL [(x, .inr (2, [.ref bx, .ref px, .ref t, .int ak, .int su, .int gt, .int lf, .int rf, .int kn])), (bx, .inl (cI, 6, .inl f)), (px, .inl (cI, 2, .inl g)), (t, .inr (1, [.ref bt, .int 0, .int ml, .int cn])), (bt, .inl (cB, 16, .inl bs)), (o, .inr (4, [.int th, .ref bo, .ref po, .int ak', .int su', .int gt', .int lf', .int rf', .int kn'])), (bo, .inl (cI, 6, .inl h)), (po, .inl (cI, 2, .inl j)), (q, .inr (3, [.long (hn_areLike r1 r2 f n0), sv]))] H := hP
  have hD : va_D (fun q => s.heap.size ≤ q) [(x, .inr (2, [.ref bx, .ref px, .ref t, .int ak, .int su, .int gt, .int lf, .int rf, .int kn])), (bx, .inl (cI, 6, .inl f)), (px, .inl (cI, 2, .inl g)), (t, .inr (1, [.ref bt, .int 0, .int ml, .int cn])), (bt, .inl (cB, 16, .inl bs)), (o, .inr (4, [.int th, .ref bo, .ref po, .int ak', .int su', .int gt', .int lf', .int rf', .int kn'])), (bo, .inl (cI, 6, .inl h)), (po, .inl (cI, 2, .inl j)), (q, .inr (3, [.long (hn_areLike r1 r2 f n0), sv]))] := hD
  refine W.eq (g2 := F0 m 1386 ls [.int (hk_areLike r1 r2)]) rfl ?_
  refine lv_istore (lv' := [(5, .int (hk_areLike r1 r2)), (4, .int (nI i)), (3, .ref q), (2, .ref o), (1, .ref x), (0, .ref b)]) FX.1 FX.2.1 dL_law_1386 hl (by decide) rfl (fun ls hl => ?_)
  refine lv_aload_n FX.1 FX.2.1 dL_law_1388 rfl (lv_at hl 3 rfl) ?_
  refine p_rd (k := 1) (v := r1) FX hX hbl hbA hS (lv_at hl 5 rfl) (lv_at hl 1 rfl) dL_law_1389 dL_law_1390 dL_law_1392 dL_law_1393 dL_law_1394 rfl hin1 ey1 ?_
  refine p_rd (k := 2) (v := r2) FX hX hbl hbA hS (lv_at hl 5 rfl) (lv_at hl 1 rfl) dL_law_1395 dL_law_1396 dL_law_1398 dL_law_1399 dL_law_1400 rfl hin2 ey2 ?_
  obtain ⟨eT, eA, hI2⟩ := st_areLike r1 r2 n0 hI
  refine c_WRV (wr := [(x, .inr (2, [.ref bx, .ref px, .ref t, .int ak, .int su, .int gt, .int lf, .int rf, .int kn])), (bx, .inl (cI, 6, .inl f)), (px, .inl (cI, 2, .inl g)), (t, .inr (1, [.ref bt, .int 0, .int ml, .int cn])), (bt, .inl (cB, 16, .inl bs)), (q, .inr (3, [.long (hn_areLike r1 r2 f n0), sv]))]) (wsN := [(x, .inr (2, [.ref bx, .ref px, .ref t, .int ak, .int su, .int gt, .int lf, .int rf, .int kn])), (bx, .inl (cI, 6, .inl f)), (px, .inl (cI, 2, .inl g)), (t, .inr (1, [.ref bt, .int 0, .int ml, .int cn])), (bt, .inl (cB, 16, .inl bs)), (o, .inr (4, [.int (wth_X2_areLike r1 r2), .ref bo, .ref po, .int ak', .int su', .int gt', .int lf', .int rf', .int kn'])), (bo, .inl (cI, 6, .inl h)), (po, .inl (cI, 2, .inl j)), (q, .inr (3, [.long (hn_areLike r1 r2 f n0), sv]))]) (i0 := 5) (ci := 4) FX (k_X2_areLike l D cI cB o bo po th h j ak' su' gt' lf' rf' kn' r1 r2) mi_X2_areLike rfl ml_RL_255 (RMok.mk) hl.1 rfl (Nat.le_of_ble_eq_true rfl) dL_law_1401 ⟨by omega, by omega⟩ hK hP hD hS hA [5, 6, 7] rfl [0, 1, 2, 3, 4, 8] rfl rfl (by decide) [0, 1, 2, 3, 4, 6, 7, 8, 5] rfl rfl rfl rfl rfl (fun H locs hP hD hS => ?_)
  refine lv_istore (lv' := [(6, .int (v_X2_areLike r1 r2 h)), (5, .int (hk_areLike r1 r2)), (4, .int (nI i)), (3, .ref q), (2, .ref o), (1, .ref x), (0, .ref b)]) FX.1 FX.2.1 dL_law_1404 hl (by decide) rfl (fun ls hl => ?_)
  refine lv_goto (tgt := 1830) FX.1 FX.2.1 dL_law_1406 (by decide) ?_
  refine W.widen (k := cc + 33) (n := ss + 321) (by omega) (by omega) ?_
  exact kk H locs f g ak su gt lf rf kn ml cn bs (wth_X2_areLike r1 r2) h j ak' su' gt' lf' rf' kn' (hn_areLike r1 r2 f n0) sv ls hI2 hb hc hP hD hS (lv_sub hl [2, 3, 4, 5, 6] rfl)
set_option maxRecDepth 100000 in
set_option maxHeartbeats 4000000 in
theorem case_30 {p : Program} {l : Launch} {e : Env} {s : State} {m : MethodId} {below : List Frame} {meth : Method} {c : Code} (hl0 : l.stackTraces = false) (D : va_G) (cI cB : ClassId) (b L : Nat) (xs : Nat → Int32) (x bx px t bt o bo po q : Nat) (to tt : Nat) (go gu : Nat → Int32) (na nv : Nat) (nf : Nat → Int32) (nb nw : Nat) (nh : Nat → Int32) (ea ew : Nat) (ef : Nat → Int32) (i cc ss : Nat) (hi : i + 6 ≤ L) (hcc : cc + 33 ≤ room_1.cells) (hss : ss + 321 ≤ room_1.slots) (hL : L ≤ 3072) (FX : CallFix p m c cL_law 7 s #[.ref b] bigW RL) (hK : va_K D KL (TY cI cB) s) (hX : va_X b L xs s s.heap) (hbl : b < s.heap.size) (hz : zLaw to tt go gu na nv nf nb nw nh ea ew ef (fun q => s.heap.size ≤ q) s s.heap) (hfn : sb_Fit nf) (hfe : sb_Fit ef) (hnn : TL 4 nf nh) (kk : LGo p l e s m below meth c D cI cB b x bx px t bt o bo po q i 1830 (cc + 33) (ss + 321)) : LGo p l e s m below meth c D cI cB b x bx px t bt o bo po q i 1409 cc ss := by
  intro H locs f g ak su gt lf rf kn ml cn bs th h j ak' su' gt' lf' rf' kn' n0 sv ls hI hb hc hP hD hS hl
  have hA : ∀ q : Nat, s.heap.size ≤ q → s.heap.size ≤ q := fun _ h => h
  have hbA : ¬ (fun q : Nat => s.heap.size ≤ q) b := Nat.not_le.mpr hbl
  obtain ⟨r1, ey1⟩ : ∃ y, xs (i + 1) = y := ⟨_, rfl⟩
  have hin1 : i + 1 < L ∧ L < 2 ^ 31 := ⟨by omega, by omega⟩
  obtain ⟨r2, ey2⟩ : ∃ y, xs (i + 2) = y := ⟨_, rfl⟩
  have hin2 : i + 2 < L ∧ L < 2 ^ 31 := ⟨by omega, by omega⟩
  obtain ⟨r3, ey3⟩ : ∃ y, xs (i + 3) = y := ⟨_, rfl⟩
  have hin3 : i + 3 < L ∧ L < 2 ^ 31 := ⟨by omega, by omega⟩
  have hl : lv_has ls 7 [(4, .int (nI i)), (3, .ref q), (2, .ref o), (1, .ref x), (0, .ref b)] := hl
  have hP : va_P D KL [(x, .inr (2, [.ref bx, .ref px, .ref t, .int ak, .int su, .int gt, .int lf, .int rf, .int kn])), (bx, .inl (cI, 6, .inl f)), (px, .inl (cI, 2, .inl g)), (t, .inr (1, [.ref bt, .int 0, .int ml, .int cn])), (bt, .inl (cB, 16, .inl bs)), (o, .inr (4, [.int th, .ref bo, .ref po, .int ak', .int su', .int gt', .int lf', .int rf', .int kn'])), (bo, .inl (cI, 6, .inl h)), (po, .inl (cI, 2, .inl j)), (q, .inr (3, [.long n0, sv]))] H := hP
  have hD : va_D (fun q => s.heap.size ≤ q) [(x, .inr (2, [.ref bx, .ref px, .ref t, .int ak, .int su, .int gt, .int lf, .int rf, .int kn])), (bx, .inl (cI, 6, .inl f)), (px, .inl (cI, 2, .inl g)), (t, .inr (1, [.ref bt, .int 0, .int ml, .int cn])), (bt, .inl (cB, 16, .inl bs)), (o, .inr (4, [.int th, .ref bo, .ref po, .int ak', .int su', .int gt', .int lf', .int rf', .int kn'])), (bo, .inl (cI, 6, .inl h)), (po, .inl (cI, 2, .inl j)), (q, .inr (3, [.long n0, sv]))] := hD
  refine lv_aload_n FX.1 FX.2.1 dL_law_1409 rfl (lv_at hl 3 rfl) ?_
  refine p_rd (k := 1) (v := r1) FX hX hbl hbA hS (lv_at hl 4 rfl) (lv_at hl 0 rfl) dL_law_1410 dL_law_1411 dL_law_1413 dL_law_1414 dL_law_1415 rfl hin1 ey1 ?_
  refine p_rd (k := 2) (v := r2) FX hX hbl hbA hS (lv_at hl 4 rfl) (lv_at hl 0 rfl) dL_law_1416 dL_law_1417 dL_law_1419 dL_law_1420 dL_law_1421 rfl hin2 ey2 ?_
  refine p_rd (k := 3) (v := r3) FX hX hbl hbA hS (lv_at hl 4 rfl) (lv_at hl 0 rfl) dL_law_1422 dL_law_1423 dL_law_1425 dL_law_1426 dL_law_1427 rfl hin3 ey3 ?_
  refine lv_aload_n FX.1 FX.2.1 dL_law_1428 rfl (lv_at hl 1 rfl) ?_
  refine c_J (W0 := [(x, .inr (2, [.ref bx, .ref px, .ref t, .int ak, .int su, .int gt, .int lf, .int rf, .int kn])), (bx, .inl (cI, 6, .inl f)), (px, .inl (cI, 2, .inl g)), (q, .inr (3, [.long n0, sv]))]) (wr := [(t, .inr (1, [.ref bt, .int 0, .int ml, .int cn])), (bt, .inl (cB, 16, .inl bs)), (o, .inr (4, [.int th, .ref bo, .ref po, .int ak', .int su', .int gt', .int lf', .int rf', .int kn'])), (bo, .inl (cI, 6, .inl h)), (po, .inl (cI, 2, .inl j))]) (wsN := fun _ => [(x, .inr (2, [.ref bx, .ref px, .ref t, .int ak, .int su, .int gt, .int lf, .int rf, .int kn])), (bx, .inl (cI, 6, .inl f)), (px, .inl (cI, 2, .inl g)), (t, .inr (1, [.ref bt, .int 0, .int ml, .int cn])), (bt, .inl (cB, 16, .inl bs)), (o, .inr (4, [.int th, .ref bo, .ref po, .int ak', .int su', .int gt', .int lf', .int rf', .int kn'])), (bo, .inl (cI, 6, .inl h)), (po, .inl (cI, 2, .inl j)), (q, .inr (3, [.long (hn_compare r1 r2 r3 f n0), sv]))]) (vx_runSW FX ((j_L_compare l hl0 D cI cB x bx px t f g ak su gt lf rf kn q n0 sv r1 r2 r3) H.size) (my_cwSW FX.2.2.2.2 mh_L_compare ml_RL_256 (RMok.mk)) ⟨PJ.blind (zAnd_ok (zAnd_ok zz_ok zN_ok) zF_ok), fun U hU hW => ⟨rfl, my_preJ (zAnd_ok (zAnd_ok zz_ok zN_ok) zF_ok) ⟨hz.1.1, hz.1.2.1⟩ hS hA hK hP hD [0, 1, 2, 8] rfl rfl U hU hW⟩⟩ rfl rfl hl.1 rfl (lv_room (Nat.le_of_ble_eq_true rfl)) dL_law_1429 ⟨by omega, by omega⟩) hP hD hS hA [0, 1, 2, 8] rfl [3, 4, 5, 6, 7] rfl (by decide) [5, 6, 7, 0, 1, 2, 3, 4, 8] (fun _ => rfl) rfl (fun u1 H locs hp_1 hP hD hS => ?_)
  have hP : va_P D KL [(x, .inr (2, [.ref bx, .ref px, .ref t, .int ak, .int su, .int gt, .int lf, .int rf, .int kn])), (bx, .inl (cI, 6, .inl f)), (px, .inl (cI, 2, .inl g)), (t, .inr (1, [.ref bt, .int 0, .int ml, .int cn])), (bt, .inl (cB, 16, .inl bs)), (o, .inr (4, [.int th, .ref bo, .ref po, .int ak', .int su', .int gt', .int lf', .int rf', .int kn'])), (bo, .inl (cI, 6, .inl h)), (po, .inl (cI, 2, .inl j)), (q, .inr (3, [.long (hn_compare r1 r2 r3 f n0), sv]))] H := hP
  have hD : va_D (fun q => s.heap.size ≤ q) [(x, .inr (2, [.ref bx, .ref px, .ref t, .int ak, .int su, .int gt, .int lf, .int rf, .int kn])), (bx, .inl (cI, 6, .inl f)), (px, .inl (cI, 2, .inl g)), (t, .inr (1, [.ref bt, .int 0, .int ml, .int cn])), (bt, .inl (cB, 16, .inl bs)), (o, .inr (4, [.int th, .ref bo, .ref po, .int ak', .int su', .int gt', .int lf', .int rf', .int kn'])), (bo, .inl (cI, 6, .inl h)), (po, .inl (cI, 2, .inl j)), (q, .inr (3, [.long (hn_compare r1 r2 r3 f n0), sv]))] := hD
  refine W.eq (g2 := F0 m 1432 ls [.int (hk_compare r1 r2 r3)]) rfl ?_
  refine lv_istore (lv' := [(5, .int (hk_compare r1 r2 r3)), (4, .int (nI i)), (3, .ref q), (2, .ref o), (1, .ref x), (0, .ref b)]) FX.1 FX.2.1 dL_law_1432 hl (by decide) rfl (fun ls hl => ?_)
  refine lv_aload_n FX.1 FX.2.1 dL_law_1434 rfl (lv_at hl 3 rfl) ?_
  refine p_rd (k := 1) (v := r1) FX hX hbl hbA hS (lv_at hl 5 rfl) (lv_at hl 1 rfl) dL_law_1435 dL_law_1436 dL_law_1438 dL_law_1439 dL_law_1440 rfl hin1 ey1 ?_
  refine p_rd (k := 2) (v := r2) FX hX hbl hbA hS (lv_at hl 5 rfl) (lv_at hl 1 rfl) dL_law_1441 dL_law_1442 dL_law_1444 dL_law_1445 dL_law_1446 rfl hin2 ey2 ?_
  refine p_rd (k := 3) (v := r3) FX hX hbl hbA hS (lv_at hl 5 rfl) (lv_at hl 1 rfl) dL_law_1447 dL_law_1448 dL_law_1450 dL_law_1451 dL_law_1452 rfl hin3 ey3 ?_
  obtain ⟨eT, eA, hI2⟩ := st_compare r1 r2 r3 n0 hI
  refine c_WRV (wr := [(x, .inr (2, [.ref bx, .ref px, .ref t, .int ak, .int su, .int gt, .int lf, .int rf, .int kn])), (bx, .inl (cI, 6, .inl f)), (px, .inl (cI, 2, .inl g)), (t, .inr (1, [.ref bt, .int 0, .int ml, .int cn])), (bt, .inl (cB, 16, .inl bs)), (q, .inr (3, [.long (hn_compare r1 r2 r3 f n0), sv]))]) (wsN := [(x, .inr (2, [.ref bx, .ref px, .ref t, .int ak, .int su, .int gt, .int lf, .int rf, .int kn])), (bx, .inl (cI, 6, .inl f)), (px, .inl (cI, 2, .inl g)), (t, .inr (1, [.ref bt, .int 0, .int ml, .int cn])), (bt, .inl (cB, 16, .inl bs)), (o, .inr (4, [.int (wth_X2_compare r1 r2 r3), .ref bo, .ref po, .int ak', .int su', .int gt', .int lf', .int rf', .int kn'])), (bo, .inl (cI, 6, .inl h)), (po, .inl (cI, 2, .inl j)), (q, .inr (3, [.long (hn_compare r1 r2 r3 f n0), sv]))]) (i0 := 5) (ci := 4) FX (k_X2_compare l D cI cB o bo po th h j ak' su' gt' lf' rf' kn' r1 r2 r3) mi_X2_compare rfl ml_RL_258 (RMok.mk) hl.1 rfl (Nat.le_of_ble_eq_true rfl) dL_law_1453 ⟨by omega, by omega⟩ hK hP hD hS hA [5, 6, 7] rfl [0, 1, 2, 3, 4, 8] rfl rfl (by decide) [0, 1, 2, 3, 4, 6, 7, 8, 5] rfl rfl rfl rfl rfl (fun H locs hP hD hS => ?_)
  refine lv_istore (lv' := [(6, .int (v_X2_compare r1 r2 r3 h)), (5, .int (hk_compare r1 r2 r3)), (4, .int (nI i)), (3, .ref q), (2, .ref o), (1, .ref x), (0, .ref b)]) FX.1 FX.2.1 dL_law_1456 hl (by decide) rfl (fun ls hl => ?_)
  refine lv_goto (tgt := 1830) FX.1 FX.2.1 dL_law_1458 (by decide) ?_
  refine W.widen (k := cc + 33) (n := ss + 321) (by omega) (by omega) ?_
  exact kk H locs f g ak su gt lf rf kn ml cn bs (wth_X2_compare r1 r2 r3) h j ak' su' gt' lf' rf' kn' (hn_compare r1 r2 r3 f n0) sv ls hI2 hb hc hP hD hS (lv_sub hl [2, 3, 4, 5, 6] rfl)
set_option maxRecDepth 100000 in
set_option maxHeartbeats 4000000 in
theorem case_31 {p : Program} {l : Launch} {e : Env} {s : State} {m : MethodId} {below : List Frame} {meth : Method} {c : Code} (hl0 : l.stackTraces = false) (D : va_G) (cI cB : ClassId) (b L : Nat) (xs : Nat → Int32) (x bx px t bt o bo po q : Nat) (to tt : Nat) (go gu : Nat → Int32) (na nv : Nat) (nf : Nat → Int32) (nb nw : Nat) (nh : Nat → Int32) (ea ew : Nat) (ef : Nat → Int32) (i cc ss : Nat) (hi : i + 6 ≤ L) (hcc : cc + 33 ≤ room_1.cells) (hss : ss + 321 ≤ room_1.slots) (hL : L ≤ 3072) (FX : CallFix p m c cL_law 7 s #[.ref b] bigW RL) (hK : va_K D KL (TY cI cB) s) (hX : va_X b L xs s s.heap) (hbl : b < s.heap.size) (hz : zLaw to tt go gu na nv nf nb nw nh ea ew ef (fun q => s.heap.size ≤ q) s s.heap) (hfn : sb_Fit nf) (hfe : sb_Fit ef) (hnn : TL 4 nf nh) (kk : LGo p l e s m below meth c D cI cB b x bx px t bt o bo po q i 1830 (cc + 33) (ss + 321)) : LGo p l e s m below meth c D cI cB b x bx px t bt o bo po q i 1461 cc ss := by
  intro H locs f g ak su gt lf rf kn ml cn bs th h j ak' su' gt' lf' rf' kn' n0 sv ls hI hb hc hP hD hS hl
  have hA : ∀ q : Nat, s.heap.size ≤ q → s.heap.size ≤ q := fun _ h => h
  have hbA : ¬ (fun q : Nat => s.heap.size ≤ q) b := Nat.not_le.mpr hbl
  obtain ⟨r1, ey1⟩ : ∃ y, xs (i + 1) = y := ⟨_, rfl⟩
  have hin1 : i + 1 < L ∧ L < 2 ^ 31 := ⟨by omega, by omega⟩
  obtain ⟨r2, ey2⟩ : ∃ y, xs (i + 2) = y := ⟨_, rfl⟩
  have hin2 : i + 2 < L ∧ L < 2 ^ 31 := ⟨by omega, by omega⟩
  obtain ⟨r3, ey3⟩ : ∃ y, xs (i + 3) = y := ⟨_, rfl⟩
  have hin3 : i + 3 < L ∧ L < 2 ^ 31 := ⟨by omega, by omega⟩
  have hl : lv_has ls 7 [(4, .int (nI i)), (3, .ref q), (2, .ref o), (1, .ref x), (0, .ref b)] := hl
  have hP : va_P D KL [(x, .inr (2, [.ref bx, .ref px, .ref t, .int ak, .int su, .int gt, .int lf, .int rf, .int kn])), (bx, .inl (cI, 6, .inl f)), (px, .inl (cI, 2, .inl g)), (t, .inr (1, [.ref bt, .int 0, .int ml, .int cn])), (bt, .inl (cB, 16, .inl bs)), (o, .inr (4, [.int th, .ref bo, .ref po, .int ak', .int su', .int gt', .int lf', .int rf', .int kn'])), (bo, .inl (cI, 6, .inl h)), (po, .inl (cI, 2, .inl j)), (q, .inr (3, [.long n0, sv]))] H := hP
  have hD : va_D (fun q => s.heap.size ≤ q) [(x, .inr (2, [.ref bx, .ref px, .ref t, .int ak, .int su, .int gt, .int lf, .int rf, .int kn])), (bx, .inl (cI, 6, .inl f)), (px, .inl (cI, 2, .inl g)), (t, .inr (1, [.ref bt, .int 0, .int ml, .int cn])), (bt, .inl (cB, 16, .inl bs)), (o, .inr (4, [.int th, .ref bo, .ref po, .int ak', .int su', .int gt', .int lf', .int rf', .int kn'])), (bo, .inl (cI, 6, .inl h)), (po, .inl (cI, 2, .inl j)), (q, .inr (3, [.long n0, sv]))] := hD
  refine lv_aload_n FX.1 FX.2.1 dL_law_1461 rfl (lv_at hl 3 rfl) ?_
  refine p_rd (k := 1) (v := r1) FX hX hbl hbA hS (lv_at hl 4 rfl) (lv_at hl 0 rfl) dL_law_1462 dL_law_1463 dL_law_1465 dL_law_1466 dL_law_1467 rfl hin1 ey1 ?_
  refine p_rd (k := 2) (v := r2) FX hX hbl hbA hS (lv_at hl 4 rfl) (lv_at hl 0 rfl) dL_law_1468 dL_law_1469 dL_law_1471 dL_law_1472 dL_law_1473 rfl hin2 ey2 ?_
  refine p_rd (k := 3) (v := r3) FX hX hbl hbA hS (lv_at hl 4 rfl) (lv_at hl 0 rfl) dL_law_1474 dL_law_1475 dL_law_1477 dL_law_1478 dL_law_1479 rfl hin3 ey3 ?_
  refine lv_aload_n FX.1 FX.2.1 dL_law_1480 rfl (lv_at hl 1 rfl) ?_
  refine c_J (W0 := [(x, .inr (2, [.ref bx, .ref px, .ref t, .int ak, .int su, .int gt, .int lf, .int rf, .int kn])), (bx, .inl (cI, 6, .inl f)), (px, .inl (cI, 2, .inl g)), (q, .inr (3, [.long n0, sv]))]) (wr := [(t, .inr (1, [.ref bt, .int 0, .int ml, .int cn])), (bt, .inl (cB, 16, .inl bs)), (o, .inr (4, [.int th, .ref bo, .ref po, .int ak', .int su', .int gt', .int lf', .int rf', .int kn'])), (bo, .inl (cI, 6, .inl h)), (po, .inl (cI, 2, .inl j))]) (wsN := fun _ => [(x, .inr (2, [.ref bx, .ref px, .ref t, .int ak, .int su, .int gt, .int lf, .int rf, .int kn])), (bx, .inl (cI, 6, .inl f)), (px, .inl (cI, 2, .inl g)), (t, .inr (1, [.ref bt, .int 0, .int ml, .int cn])), (bt, .inl (cB, 16, .inl bs)), (o, .inr (4, [.int th, .ref bo, .ref po, .int ak', .int su', .int gt', .int lf', .int rf', .int kn'])), (bo, .inl (cI, 6, .inl h)), (po, .inl (cI, 2, .inl j)), (q, .inr (3, [.long (hn_codes r1 r2 r3 f n0), sv]))]) (vx_runSW FX ((j_L_codes l hl0 D cI cB x bx px t f g ak su gt lf rf kn q n0 sv r1 r2 r3) H.size) (my_cwSW FX.2.2.2.2 mh_L_codes ml_RL_259 (RMok.mk)) ⟨PJ.blind (zAnd_ok (zAnd_ok zz_ok zN_ok) zF_ok), fun U hU hW => ⟨rfl, my_preJ (zAnd_ok (zAnd_ok zz_ok zN_ok) zF_ok) ⟨hz.1.1, hz.1.2.1⟩ hS hA hK hP hD [0, 1, 2, 8] rfl rfl U hU hW⟩⟩ rfl rfl hl.1 rfl (lv_room (Nat.le_of_ble_eq_true rfl)) dL_law_1481 ⟨by omega, by omega⟩) hP hD hS hA [0, 1, 2, 8] rfl [3, 4, 5, 6, 7] rfl (by decide) [5, 6, 7, 0, 1, 2, 3, 4, 8] (fun _ => rfl) rfl (fun u1 H locs hp_1 hP hD hS => ?_)
  have hP : va_P D KL [(x, .inr (2, [.ref bx, .ref px, .ref t, .int ak, .int su, .int gt, .int lf, .int rf, .int kn])), (bx, .inl (cI, 6, .inl f)), (px, .inl (cI, 2, .inl g)), (t, .inr (1, [.ref bt, .int 0, .int ml, .int cn])), (bt, .inl (cB, 16, .inl bs)), (o, .inr (4, [.int th, .ref bo, .ref po, .int ak', .int su', .int gt', .int lf', .int rf', .int kn'])), (bo, .inl (cI, 6, .inl h)), (po, .inl (cI, 2, .inl j)), (q, .inr (3, [.long (hn_codes r1 r2 r3 f n0), sv]))] H := hP
  have hD : va_D (fun q => s.heap.size ≤ q) [(x, .inr (2, [.ref bx, .ref px, .ref t, .int ak, .int su, .int gt, .int lf, .int rf, .int kn])), (bx, .inl (cI, 6, .inl f)), (px, .inl (cI, 2, .inl g)), (t, .inr (1, [.ref bt, .int 0, .int ml, .int cn])), (bt, .inl (cB, 16, .inl bs)), (o, .inr (4, [.int th, .ref bo, .ref po, .int ak', .int su', .int gt', .int lf', .int rf', .int kn'])), (bo, .inl (cI, 6, .inl h)), (po, .inl (cI, 2, .inl j)), (q, .inr (3, [.long (hn_codes r1 r2 r3 f n0), sv]))] := hD
  refine W.eq (g2 := F0 m 1484 ls [.int (hk_codes r1 r2 r3)]) rfl ?_
  refine lv_istore (lv' := [(5, .int (hk_codes r1 r2 r3)), (4, .int (nI i)), (3, .ref q), (2, .ref o), (1, .ref x), (0, .ref b)]) FX.1 FX.2.1 dL_law_1484 hl (by decide) rfl (fun ls hl => ?_)
  refine lv_aload_n FX.1 FX.2.1 dL_law_1486 rfl (lv_at hl 3 rfl) ?_
  refine p_rd (k := 1) (v := r1) FX hX hbl hbA hS (lv_at hl 5 rfl) (lv_at hl 1 rfl) dL_law_1487 dL_law_1488 dL_law_1490 dL_law_1491 dL_law_1492 rfl hin1 ey1 ?_
  refine p_rd (k := 2) (v := r2) FX hX hbl hbA hS (lv_at hl 5 rfl) (lv_at hl 1 rfl) dL_law_1493 dL_law_1494 dL_law_1496 dL_law_1497 dL_law_1498 rfl hin2 ey2 ?_
  refine p_rd (k := 3) (v := r3) FX hX hbl hbA hS (lv_at hl 5 rfl) (lv_at hl 1 rfl) dL_law_1499 dL_law_1500 dL_law_1502 dL_law_1503 dL_law_1504 rfl hin3 ey3 ?_
  obtain ⟨eT, eA, hI2⟩ := st_codes r1 r2 r3 n0 hI
  refine c_WRV (wr := [(x, .inr (2, [.ref bx, .ref px, .ref t, .int ak, .int su, .int gt, .int lf, .int rf, .int kn])), (bx, .inl (cI, 6, .inl f)), (px, .inl (cI, 2, .inl g)), (t, .inr (1, [.ref bt, .int 0, .int ml, .int cn])), (bt, .inl (cB, 16, .inl bs)), (q, .inr (3, [.long (hn_codes r1 r2 r3 f n0), sv]))]) (wsN := [(x, .inr (2, [.ref bx, .ref px, .ref t, .int ak, .int su, .int gt, .int lf, .int rf, .int kn])), (bx, .inl (cI, 6, .inl f)), (px, .inl (cI, 2, .inl g)), (t, .inr (1, [.ref bt, .int 0, .int ml, .int cn])), (bt, .inl (cB, 16, .inl bs)), (o, .inr (4, [.int (wth_X2_codes r1 r2 r3), .ref bo, .ref po, .int ak', .int su', .int gt', .int lf', .int rf', .int kn'])), (bo, .inl (cI, 6, .inl h)), (po, .inl (cI, 2, .inl j)), (q, .inr (3, [.long (hn_codes r1 r2 r3 f n0), sv]))]) (i0 := 5) (ci := 4) FX (k_X2_codes l D cI cB o bo po th h j ak' su' gt' lf' rf' kn' r1 r2 r3) mi_X2_codes rfl ml_RL_261 (RMok.mk) hl.1 rfl (Nat.le_of_ble_eq_true rfl) dL_law_1505 ⟨by omega, by omega⟩ hK hP hD hS hA [5, 6, 7] rfl [0, 1, 2, 3, 4, 8] rfl rfl (by decide) [0, 1, 2, 3, 4, 6, 7, 8, 5] rfl rfl rfl rfl rfl (fun H locs hP hD hS => ?_)
  refine lv_istore (lv' := [(6, .int (v_X2_codes r1 r2 r3 h)), (5, .int (hk_codes r1 r2 r3)), (4, .int (nI i)), (3, .ref q), (2, .ref o), (1, .ref x), (0, .ref b)]) FX.1 FX.2.1 dL_law_1508 hl (by decide) rfl (fun ls hl => ?_)
  refine lv_goto (tgt := 1830) FX.1 FX.2.1 dL_law_1510 (by decide) ?_
  refine W.widen (k := cc + 33) (n := ss + 321) (by omega) (by omega) ?_
  exact kk H locs f g ak su gt lf rf kn ml cn bs (wth_X2_codes r1 r2 r3) h j ak' su' gt' lf' rf' kn' (hn_codes r1 r2 r3 f n0) sv ls hI2 hb hc hP hD hS (lv_sub hl [2, 3, 4, 5, 6] rfl)
set_option maxRecDepth 100000 in
set_option maxHeartbeats 4000000 in
theorem case_32 {p : Program} {l : Launch} {e : Env} {s : State} {m : MethodId} {below : List Frame} {meth : Method} {c : Code} (hl0 : l.stackTraces = false) (D : va_G) (cI cB : ClassId) (b L : Nat) (xs : Nat → Int32) (x bx px t bt o bo po q : Nat) (to tt : Nat) (go gu : Nat → Int32) (na nv : Nat) (nf : Nat → Int32) (nb nw : Nat) (nh : Nat → Int32) (ea ew : Nat) (ef : Nat → Int32) (i cc ss : Nat) (hi : i + 6 ≤ L) (hcc : cc + 33 ≤ room_1.cells) (hss : ss + 321 ≤ room_1.slots) (hL : L ≤ 3072) (FX : CallFix p m c cL_law 7 s #[.ref b] bigW RL) (hK : va_K D KL (TY cI cB) s) (hX : va_X b L xs s s.heap) (hbl : b < s.heap.size) (hz : zLaw to tt go gu na nv nf nb nw nh ea ew ef (fun q => s.heap.size ≤ q) s s.heap) (hfn : sb_Fit nf) (hfe : sb_Fit ef) (hnn : TL 4 nf nh) (kk : LGo p l e s m below meth c D cI cB b x bx px t bt o bo po q i 1830 (cc + 33) (ss + 321)) : LGo p l e s m below meth c D cI cB b x bx px t bt o bo po q i 1513 cc ss := by
  intro H locs f g ak su gt lf rf kn ml cn bs th h j ak' su' gt' lf' rf' kn' n0 sv ls hI hb hc hP hD hS hl
  have hA : ∀ q : Nat, s.heap.size ≤ q → s.heap.size ≤ q := fun _ h => h
  have hbA : ¬ (fun q : Nat => s.heap.size ≤ q) b := Nat.not_le.mpr hbl
  obtain ⟨r1, ey1⟩ : ∃ y, xs (i + 1) = y := ⟨_, rfl⟩
  have hin1 : i + 1 < L ∧ L < 2 ^ 31 := ⟨by omega, by omega⟩
  have hl : lv_has ls 7 [(4, .int (nI i)), (3, .ref q), (2, .ref o), (1, .ref x), (0, .ref b)] := hl
  have hP : va_P D KL [(x, .inr (2, [.ref bx, .ref px, .ref t, .int ak, .int su, .int gt, .int lf, .int rf, .int kn])), (bx, .inl (cI, 6, .inl f)), (px, .inl (cI, 2, .inl g)), (t, .inr (1, [.ref bt, .int 0, .int ml, .int cn])), (bt, .inl (cB, 16, .inl bs)), (o, .inr (4, [.int th, .ref bo, .ref po, .int ak', .int su', .int gt', .int lf', .int rf', .int kn'])), (bo, .inl (cI, 6, .inl h)), (po, .inl (cI, 2, .inl j)), (q, .inr (3, [.long n0, sv]))] H := hP
  have hD : va_D (fun q => s.heap.size ≤ q) [(x, .inr (2, [.ref bx, .ref px, .ref t, .int ak, .int su, .int gt, .int lf, .int rf, .int kn])), (bx, .inl (cI, 6, .inl f)), (px, .inl (cI, 2, .inl g)), (t, .inr (1, [.ref bt, .int 0, .int ml, .int cn])), (bt, .inl (cB, 16, .inl bs)), (o, .inr (4, [.int th, .ref bo, .ref po, .int ak', .int su', .int gt', .int lf', .int rf', .int kn'])), (bo, .inl (cI, 6, .inl h)), (po, .inl (cI, 2, .inl j)), (q, .inr (3, [.long n0, sv]))] := hD
  refine lv_aload_n FX.1 FX.2.1 dL_law_1513 rfl (lv_at hl 3 rfl) ?_
  refine p_rd (k := 1) (v := r1) FX hX hbl hbA hS (lv_at hl 4 rfl) (lv_at hl 0 rfl) dL_law_1514 dL_law_1515 dL_law_1517 dL_law_1518 dL_law_1519 rfl hin1 ey1 ?_
  refine lv_aload_n FX.1 FX.2.1 dL_law_1520 rfl (lv_at hl 1 rfl) ?_
  refine c_J (W0 := [(x, .inr (2, [.ref bx, .ref px, .ref t, .int ak, .int su, .int gt, .int lf, .int rf, .int kn])), (bx, .inl (cI, 6, .inl f)), (px, .inl (cI, 2, .inl g)), (q, .inr (3, [.long n0, sv]))]) (wr := [(t, .inr (1, [.ref bt, .int 0, .int ml, .int cn])), (bt, .inl (cB, 16, .inl bs)), (o, .inr (4, [.int th, .ref bo, .ref po, .int ak', .int su', .int gt', .int lf', .int rf', .int kn'])), (bo, .inl (cI, 6, .inl h)), (po, .inl (cI, 2, .inl j))]) (wsN := fun _ => [(x, .inr (2, [.ref bx, .ref px, .ref t, .int ak, .int su, .int gt, .int lf, .int rf, .int kn])), (bx, .inl (cI, 6, .inl f)), (px, .inl (cI, 2, .inl g)), (t, .inr (1, [.ref bt, .int 0, .int ml, .int cn])), (bt, .inl (cB, 16, .inl bs)), (o, .inr (4, [.int th, .ref bo, .ref po, .int ak', .int su', .int gt', .int lf', .int rf', .int kn'])), (bo, .inl (cI, 6, .inl h)), (po, .inl (cI, 2, .inl j)), (q, .inr (3, [.long (hn_codeOf r1 f n0), sv]))]) (vx_runSW FX ((j_L_codeOf l hl0 D cI cB x bx px t f g ak su gt lf rf kn q n0 sv r1) H.size) (my_cwSW FX.2.2.2.2 mh_L_codeOf ml_RL_262 (RMok.mk)) ⟨PJ.blind (zAnd_ok (zAnd_ok zz_ok zN_ok) zF_ok), fun U hU hW => ⟨rfl, my_preJ (zAnd_ok (zAnd_ok zz_ok zN_ok) zF_ok) ⟨hz.1.1, hz.1.2.1⟩ hS hA hK hP hD [0, 1, 2, 8] rfl rfl U hU hW⟩⟩ rfl rfl hl.1 rfl (lv_room (Nat.le_of_ble_eq_true rfl)) dL_law_1521 ⟨by omega, by omega⟩) hP hD hS hA [0, 1, 2, 8] rfl [3, 4, 5, 6, 7] rfl (by decide) [5, 6, 7, 0, 1, 2, 3, 4, 8] (fun _ => rfl) rfl (fun u1 H locs hp_1 hP hD hS => ?_)
  have hP : va_P D KL [(x, .inr (2, [.ref bx, .ref px, .ref t, .int ak, .int su, .int gt, .int lf, .int rf, .int kn])), (bx, .inl (cI, 6, .inl f)), (px, .inl (cI, 2, .inl g)), (t, .inr (1, [.ref bt, .int 0, .int ml, .int cn])), (bt, .inl (cB, 16, .inl bs)), (o, .inr (4, [.int th, .ref bo, .ref po, .int ak', .int su', .int gt', .int lf', .int rf', .int kn'])), (bo, .inl (cI, 6, .inl h)), (po, .inl (cI, 2, .inl j)), (q, .inr (3, [.long (hn_codeOf r1 f n0), sv]))] H := hP
  have hD : va_D (fun q => s.heap.size ≤ q) [(x, .inr (2, [.ref bx, .ref px, .ref t, .int ak, .int su, .int gt, .int lf, .int rf, .int kn])), (bx, .inl (cI, 6, .inl f)), (px, .inl (cI, 2, .inl g)), (t, .inr (1, [.ref bt, .int 0, .int ml, .int cn])), (bt, .inl (cB, 16, .inl bs)), (o, .inr (4, [.int th, .ref bo, .ref po, .int ak', .int su', .int gt', .int lf', .int rf', .int kn'])), (bo, .inl (cI, 6, .inl h)), (po, .inl (cI, 2, .inl j)), (q, .inr (3, [.long (hn_codeOf r1 f n0), sv]))] := hD
  refine W.eq (g2 := F0 m 1524 ls [.int (hk_codeOf r1)]) rfl ?_
  refine lv_istore (lv' := [(5, .int (hk_codeOf r1)), (4, .int (nI i)), (3, .ref q), (2, .ref o), (1, .ref x), (0, .ref b)]) FX.1 FX.2.1 dL_law_1524 hl (by decide) rfl (fun ls hl => ?_)
  refine lv_aload_n FX.1 FX.2.1 dL_law_1526 rfl (lv_at hl 3 rfl) ?_
  refine p_rd (k := 1) (v := r1) FX hX hbl hbA hS (lv_at hl 5 rfl) (lv_at hl 1 rfl) dL_law_1527 dL_law_1528 dL_law_1530 dL_law_1531 dL_law_1532 rfl hin1 ey1 ?_
  obtain ⟨eT, eA, hI2⟩ := st_codeOf r1 n0 hI
  refine c_WRV (wr := [(x, .inr (2, [.ref bx, .ref px, .ref t, .int ak, .int su, .int gt, .int lf, .int rf, .int kn])), (bx, .inl (cI, 6, .inl f)), (px, .inl (cI, 2, .inl g)), (t, .inr (1, [.ref bt, .int 0, .int ml, .int cn])), (bt, .inl (cB, 16, .inl bs)), (q, .inr (3, [.long (hn_codeOf r1 f n0), sv]))]) (wsN := [(x, .inr (2, [.ref bx, .ref px, .ref t, .int ak, .int su, .int gt, .int lf, .int rf, .int kn])), (bx, .inl (cI, 6, .inl f)), (px, .inl (cI, 2, .inl g)), (t, .inr (1, [.ref bt, .int 0, .int ml, .int cn])), (bt, .inl (cB, 16, .inl bs)), (o, .inr (4, [.int (wth_X2_codeOf r1), .ref bo, .ref po, .int ak', .int su', .int gt', .int lf', .int rf', .int kn'])), (bo, .inl (cI, 6, .inl h)), (po, .inl (cI, 2, .inl j)), (q, .inr (3, [.long (hn_codeOf r1 f n0), sv]))]) (i0 := 5) (ci := 4) FX (k_X2_codeOf l D cI cB o bo po th h j ak' su' gt' lf' rf' kn' r1) mi_X2_codeOf rfl ml_RL_264 (RMok.mk) hl.1 rfl (Nat.le_of_ble_eq_true rfl) dL_law_1533 ⟨by omega, by omega⟩ hK hP hD hS hA [5, 6, 7] rfl [0, 1, 2, 3, 4, 8] rfl rfl (by decide) [0, 1, 2, 3, 4, 6, 7, 8, 5] rfl rfl rfl rfl rfl (fun H locs hP hD hS => ?_)
  refine lv_istore (lv' := [(6, .int (v_X2_codeOf r1 h)), (5, .int (hk_codeOf r1)), (4, .int (nI i)), (3, .ref q), (2, .ref o), (1, .ref x), (0, .ref b)]) FX.1 FX.2.1 dL_law_1536 hl (by decide) rfl (fun ls hl => ?_)
  refine lv_goto (tgt := 1830) FX.1 FX.2.1 dL_law_1538 (by decide) ?_
  refine W.widen (k := cc + 33) (n := ss + 321) (by omega) (by omega) ?_
  exact kk H locs f g ak su gt lf rf kn ml cn bs (wth_X2_codeOf r1) h j ak' su' gt' lf' rf' kn' (hn_codeOf r1 f n0) sv ls hI2 hb hc hP hD hS (lv_sub hl [2, 3, 4, 5, 6] rfl)
set_option maxRecDepth 100000 in
set_option maxHeartbeats 4000000 in
theorem case_33 {p : Program} {l : Launch} {e : Env} {s : State} {m : MethodId} {below : List Frame} {meth : Method} {c : Code} (hl0 : l.stackTraces = false) (D : va_G) (cI cB : ClassId) (b L : Nat) (xs : Nat → Int32) (x bx px t bt o bo po q : Nat) (to tt : Nat) (go gu : Nat → Int32) (na nv : Nat) (nf : Nat → Int32) (nb nw : Nat) (nh : Nat → Int32) (ea ew : Nat) (ef : Nat → Int32) (i cc ss : Nat) (hi : i + 6 ≤ L) (hcc : cc + 33 ≤ room_1.cells) (hss : ss + 321 ≤ room_1.slots) (hL : L ≤ 3072) (FX : CallFix p m c cL_law 7 s #[.ref b] bigW RL) (hK : va_K D KL (TY cI cB) s) (hX : va_X b L xs s s.heap) (hbl : b < s.heap.size) (hz : zLaw to tt go gu na nv nf nb nw nh ea ew ef (fun q => s.heap.size ≤ q) s s.heap) (hfn : sb_Fit nf) (hfe : sb_Fit ef) (hnn : TL 4 nf nh) (kk : LGo p l e s m below meth c D cI cB b x bx px t bt o bo po q i 1830 (cc + 33) (ss + 321)) : LGo p l e s m below meth c D cI cB b x bx px t bt o bo po q i 1541 cc ss := by
  intro H locs f g ak su gt lf rf kn ml cn bs th h j ak' su' gt' lf' rf' kn' n0 sv ls hI hb hc hP hD hS hl
  have hA : ∀ q : Nat, s.heap.size ≤ q → s.heap.size ≤ q := fun _ h => h
  have hbA : ¬ (fun q : Nat => s.heap.size ≤ q) b := Nat.not_le.mpr hbl
  obtain ⟨r1, ey1⟩ : ∃ y, xs (i + 1) = y := ⟨_, rfl⟩
  have hin1 : i + 1 < L ∧ L < 2 ^ 31 := ⟨by omega, by omega⟩
  have hl : lv_has ls 7 [(4, .int (nI i)), (3, .ref q), (2, .ref o), (1, .ref x), (0, .ref b)] := hl
  have hP : va_P D KL [(x, .inr (2, [.ref bx, .ref px, .ref t, .int ak, .int su, .int gt, .int lf, .int rf, .int kn])), (bx, .inl (cI, 6, .inl f)), (px, .inl (cI, 2, .inl g)), (t, .inr (1, [.ref bt, .int 0, .int ml, .int cn])), (bt, .inl (cB, 16, .inl bs)), (o, .inr (4, [.int th, .ref bo, .ref po, .int ak', .int su', .int gt', .int lf', .int rf', .int kn'])), (bo, .inl (cI, 6, .inl h)), (po, .inl (cI, 2, .inl j)), (q, .inr (3, [.long n0, sv]))] H := hP
  have hD : va_D (fun q => s.heap.size ≤ q) [(x, .inr (2, [.ref bx, .ref px, .ref t, .int ak, .int su, .int gt, .int lf, .int rf, .int kn])), (bx, .inl (cI, 6, .inl f)), (px, .inl (cI, 2, .inl g)), (t, .inr (1, [.ref bt, .int 0, .int ml, .int cn])), (bt, .inl (cB, 16, .inl bs)), (o, .inr (4, [.int th, .ref bo, .ref po, .int ak', .int su', .int gt', .int lf', .int rf', .int kn'])), (bo, .inl (cI, 6, .inl h)), (po, .inl (cI, 2, .inl j)), (q, .inr (3, [.long n0, sv]))] := hD
  refine lv_aload_n FX.1 FX.2.1 dL_law_1541 rfl (lv_at hl 3 rfl) ?_
  refine p_rd (k := 1) (v := r1) FX hX hbl hbA hS (lv_at hl 4 rfl) (lv_at hl 0 rfl) dL_law_1542 dL_law_1543 dL_law_1545 dL_law_1546 dL_law_1547 rfl hin1 ey1 ?_
  refine lv_aload_n FX.1 FX.2.1 dL_law_1548 rfl (lv_at hl 1 rfl) ?_
  refine c_J (W0 := [(x, .inr (2, [.ref bx, .ref px, .ref t, .int ak, .int su, .int gt, .int lf, .int rf, .int kn])), (bx, .inl (cI, 6, .inl f)), (px, .inl (cI, 2, .inl g)), (q, .inr (3, [.long n0, sv]))]) (wr := [(t, .inr (1, [.ref bt, .int 0, .int ml, .int cn])), (bt, .inl (cB, 16, .inl bs)), (o, .inr (4, [.int th, .ref bo, .ref po, .int ak', .int su', .int gt', .int lf', .int rf', .int kn'])), (bo, .inl (cI, 6, .inl h)), (po, .inl (cI, 2, .inl j))]) (wsN := fun _ => [(x, .inr (2, [.ref bx, .ref px, .ref t, .int ak, .int su, .int gt, .int lf, .int (hrf_must r1 f rf), .int kn])), (bx, .inl (cI, 6, .inl f)), (px, .inl (cI, 2, .inl g)), (t, .inr (1, [.ref bt, .int 0, .int ml, .int cn])), (bt, .inl (cB, 16, .inl bs)), (o, .inr (4, [.int th, .ref bo, .ref po, .int ak', .int su', .int gt', .int lf', .int rf', .int kn'])), (bo, .inl (cI, 6, .inl h)), (po, .inl (cI, 2, .inl j)), (q, .inr (3, [.long (hn_must r1 f n0), sv]))]) (vx_runSW FX ((j_L_must l hl0 D cI cB x bx px t f g ak su gt lf rf kn q n0 sv r1) H.size) (my_cwSW FX.2.2.2.2 mh_L_must ml_RL_265 (RMok.mk)) ⟨PJ.blind (zAnd_ok (zAnd_ok zz_ok zN_ok) zF_ok), fun U hU hW => ⟨rfl, my_preJ (zAnd_ok (zAnd_ok zz_ok zN_ok) zF_ok) ⟨hz.1.1, hz.1.2.1⟩ hS hA hK hP hD [0, 1, 2, 8] rfl rfl U hU hW⟩⟩ rfl rfl hl.1 rfl (lv_room (Nat.le_of_ble_eq_true rfl)) dL_law_1549 ⟨by omega, by omega⟩) hP hD hS hA [0, 1, 2, 8] rfl [3, 4, 5, 6, 7] rfl (by decide) [5, 6, 7, 0, 1, 2, 3, 4, 8] (fun _ => rfl) rfl (fun u1 H locs hp_1 hP hD hS => ?_)
  have hP : va_P D KL [(x, .inr (2, [.ref bx, .ref px, .ref t, .int ak, .int su, .int gt, .int lf, .int (hrf_must r1 f rf), .int kn])), (bx, .inl (cI, 6, .inl f)), (px, .inl (cI, 2, .inl g)), (t, .inr (1, [.ref bt, .int 0, .int ml, .int cn])), (bt, .inl (cB, 16, .inl bs)), (o, .inr (4, [.int th, .ref bo, .ref po, .int ak', .int su', .int gt', .int lf', .int rf', .int kn'])), (bo, .inl (cI, 6, .inl h)), (po, .inl (cI, 2, .inl j)), (q, .inr (3, [.long (hn_must r1 f n0), sv]))] H := hP
  have hD : va_D (fun q => s.heap.size ≤ q) [(x, .inr (2, [.ref bx, .ref px, .ref t, .int ak, .int su, .int gt, .int lf, .int (hrf_must r1 f rf), .int kn])), (bx, .inl (cI, 6, .inl f)), (px, .inl (cI, 2, .inl g)), (t, .inr (1, [.ref bt, .int 0, .int ml, .int cn])), (bt, .inl (cB, 16, .inl bs)), (o, .inr (4, [.int th, .ref bo, .ref po, .int ak', .int su', .int gt', .int lf', .int rf', .int kn'])), (bo, .inl (cI, 6, .inl h)), (po, .inl (cI, 2, .inl j)), (q, .inr (3, [.long (hn_must r1 f n0), sv]))] := hD
  refine W.eq (g2 := F0 m 1552 ls [.int (hk_must r1)]) rfl ?_
  refine lv_istore (lv' := [(5, .int (hk_must r1)), (4, .int (nI i)), (3, .ref q), (2, .ref o), (1, .ref x), (0, .ref b)]) FX.1 FX.2.1 dL_law_1552 hl (by decide) rfl (fun ls hl => ?_)
  refine lv_aload_n FX.1 FX.2.1 dL_law_1554 rfl (lv_at hl 3 rfl) ?_
  refine p_rd (k := 1) (v := r1) FX hX hbl hbA hS (lv_at hl 5 rfl) (lv_at hl 1 rfl) dL_law_1555 dL_law_1556 dL_law_1558 dL_law_1559 dL_law_1560 rfl hin1 ey1 ?_
  obtain ⟨eT, eA, hI2⟩ := st_must r1 n0 hI
  refine c_WRV (wr := [(x, .inr (2, [.ref bx, .ref px, .ref t, .int ak, .int su, .int gt, .int lf, .int (hrf_must r1 f rf), .int kn])), (bx, .inl (cI, 6, .inl f)), (px, .inl (cI, 2, .inl g)), (t, .inr (1, [.ref bt, .int 0, .int ml, .int cn])), (bt, .inl (cB, 16, .inl bs)), (q, .inr (3, [.long (hn_must r1 f n0), sv]))]) (wsN := [(x, .inr (2, [.ref bx, .ref px, .ref t, .int ak, .int su, .int gt, .int lf, .int (hrf_must r1 f rf), .int kn])), (bx, .inl (cI, 6, .inl f)), (px, .inl (cI, 2, .inl g)), (t, .inr (1, [.ref bt, .int 0, .int ml, .int cn])), (bt, .inl (cB, 16, .inl bs)), (o, .inr (4, [.int (wth_X2_must r1), .ref bo, .ref po, .int ak', .int su', .int gt', .int lf', .int (wrf_X2_must r1 h rf'), .int kn'])), (bo, .inl (cI, 6, .inl h)), (po, .inl (cI, 2, .inl j)), (q, .inr (3, [.long (hn_must r1 f n0), sv]))]) (i0 := 5) (ci := 4) FX (k_X2_must l D cI cB o bo po th h j ak' su' gt' lf' rf' kn' r1) mi_X2_must rfl ml_RL_267 (RMok.mk) hl.1 rfl (Nat.le_of_ble_eq_true rfl) dL_law_1561 ⟨by omega, by omega⟩ hK hP hD hS hA [5, 6, 7] rfl [0, 1, 2, 3, 4, 8] rfl rfl (by decide) [0, 1, 2, 3, 4, 6, 7, 8, 5] rfl rfl rfl rfl rfl (fun H locs hP hD hS => ?_)
  refine lv_istore (lv' := [(6, .int (v_X2_must r1 h)), (5, .int (hk_must r1)), (4, .int (nI i)), (3, .ref q), (2, .ref o), (1, .ref x), (0, .ref b)]) FX.1 FX.2.1 dL_law_1564 hl (by decide) rfl (fun ls hl => ?_)
  refine lv_goto (tgt := 1830) FX.1 FX.2.1 dL_law_1566 (by decide) ?_
  refine W.widen (k := cc + 33) (n := ss + 321) (by omega) (by omega) ?_
  exact kk H locs f g ak su gt lf (hrf_must r1 f rf) kn ml cn bs (wth_X2_must r1) h j ak' su' gt' lf' (wrf_X2_must r1 h rf') kn' (hn_must r1 f n0) sv ls hI2 hb hc hP hD hS (lv_sub hl [2, 3, 4, 5, 6] rfl)
set_option maxRecDepth 100000 in
set_option maxHeartbeats 4000000 in
theorem case_34 {p : Program} {l : Launch} {e : Env} {s : State} {m : MethodId} {below : List Frame} {meth : Method} {c : Code} (hl0 : l.stackTraces = false) (D : va_G) (cI cB : ClassId) (b L : Nat) (xs : Nat → Int32) (x bx px t bt o bo po q : Nat) (to tt : Nat) (go gu : Nat → Int32) (na nv : Nat) (nf : Nat → Int32) (nb nw : Nat) (nh : Nat → Int32) (ea ew : Nat) (ef : Nat → Int32) (i cc ss : Nat) (hi : i + 6 ≤ L) (hcc : cc + 33 ≤ room_1.cells) (hss : ss + 321 ≤ room_1.slots) (hL : L ≤ 3072) (FX : CallFix p m c cL_law 7 s #[.ref b] bigW RL) (hK : va_K D KL (TY cI cB) s) (hX : va_X b L xs s s.heap) (hbl : b < s.heap.size) (hz : zLaw to tt go gu na nv nf nb nw nh ea ew ef (fun q => s.heap.size ≤ q) s s.heap) (hfn : sb_Fit nf) (hfe : sb_Fit ef) (hnn : TL 4 nf nh) (kk : LGo p l e s m below meth c D cI cB b x bx px t bt o bo po q i 1830 (cc + 33) (ss + 321)) : LGo p l e s m below meth c D cI cB b x bx px t bt o bo po q i 1569 cc ss := by
  intro H locs f g ak su gt lf rf kn ml cn bs th h j ak' su' gt' lf' rf' kn' n0 sv ls hI hb hc hP hD hS hl
  have hA : ∀ q : Nat, s.heap.size ≤ q → s.heap.size ≤ q := fun _ h => h
  have hbA : ¬ (fun q : Nat => s.heap.size ≤ q) b := Nat.not_le.mpr hbl
  obtain ⟨r1, ey1⟩ : ∃ y, xs (i + 1) = y := ⟨_, rfl⟩
  have hin1 : i + 1 < L ∧ L < 2 ^ 31 := ⟨by omega, by omega⟩
  obtain ⟨r2, ey2⟩ : ∃ y, xs (i + 2) = y := ⟨_, rfl⟩
  have hin2 : i + 2 < L ∧ L < 2 ^ 31 := ⟨by omega, by omega⟩
  have hl : lv_has ls 7 [(4, .int (nI i)), (3, .ref q), (2, .ref o), (1, .ref x), (0, .ref b)] := hl
  have hP : va_P D KL [(x, .inr (2, [.ref bx, .ref px, .ref t, .int ak, .int su, .int gt, .int lf, .int rf, .int kn])), (bx, .inl (cI, 6, .inl f)), (px, .inl (cI, 2, .inl g)), (t, .inr (1, [.ref bt, .int 0, .int ml, .int cn])), (bt, .inl (cB, 16, .inl bs)), (o, .inr (4, [.int th, .ref bo, .ref po, .int ak', .int su', .int gt', .int lf', .int rf', .int kn'])), (bo, .inl (cI, 6, .inl h)), (po, .inl (cI, 2, .inl j)), (q, .inr (3, [.long n0, sv]))] H := hP
  have hD : va_D (fun q => s.heap.size ≤ q) [(x, .inr (2, [.ref bx, .ref px, .ref t, .int ak, .int su, .int gt, .int lf, .int rf, .int kn])), (bx, .inl (cI, 6, .inl f)), (px, .inl (cI, 2, .inl g)), (t, .inr (1, [.ref bt, .int 0, .int ml, .int cn])), (bt, .inl (cB, 16, .inl bs)), (o, .inr (4, [.int th, .ref bo, .ref po, .int ak', .int su', .int gt', .int lf', .int rf', .int kn'])), (bo, .inl (cI, 6, .inl h)), (po, .inl (cI, 2, .inl j)), (q, .inr (3, [.long n0, sv]))] := hD
  refine lv_aload_n FX.1 FX.2.1 dL_law_1569 rfl (lv_at hl 3 rfl) ?_
  refine p_rd (k := 1) (v := r1) FX hX hbl hbA hS (lv_at hl 4 rfl) (lv_at hl 0 rfl) dL_law_1570 dL_law_1571 dL_law_1573 dL_law_1574 dL_law_1575 rfl hin1 ey1 ?_
  refine p_rd (k := 2) (v := r2) FX hX hbl hbA hS (lv_at hl 4 rfl) (lv_at hl 0 rfl) dL_law_1576 dL_law_1577 dL_law_1579 dL_law_1580 dL_law_1581 rfl hin2 ey2 ?_
  refine lv_aload_n FX.1 FX.2.1 dL_law_1582 rfl (lv_at hl 1 rfl) ?_
  refine c_J (W0 := [(x, .inr (2, [.ref bx, .ref px, .ref t, .int ak, .int su, .int gt, .int lf, .int rf, .int kn])), (bx, .inl (cI, 6, .inl f)), (px, .inl (cI, 2, .inl g)), (q, .inr (3, [.long n0, sv]))]) (wr := [(t, .inr (1, [.ref bt, .int 0, .int ml, .int cn])), (bt, .inl (cB, 16, .inl bs)), (o, .inr (4, [.int th, .ref bo, .ref po, .int ak', .int su', .int gt', .int lf', .int rf', .int kn'])), (bo, .inl (cI, 6, .inl h)), (po, .inl (cI, 2, .inl j))]) (wsN := fun _ => [(x, .inr (2, [.ref bx, .ref px, .ref t, .int ak, .int su, .int gt, .int lf, .int rf, .int kn])), (bx, .inl (cI, 6, .inl f)), (px, .inl (cI, 2, .inl g)), (t, .inr (1, [.ref bt, .int 0, .int ml, .int cn])), (bt, .inl (cB, 16, .inl bs)), (o, .inr (4, [.int th, .ref bo, .ref po, .int ak', .int su', .int gt', .int lf', .int rf', .int kn'])), (bo, .inl (cI, 6, .inl h)), (po, .inl (cI, 2, .inl j)), (q, .inr (3, [.long (hn_mustElse r1 r2 f n0), sv]))]) (vx_runSW FX ((j_L_mustElse l hl0 D cI cB x bx px t f g ak su gt lf rf kn q n0 sv r1 r2) H.size) (my_cwSW FX.2.2.2.2 mh_L_mustElse ml_RL_268 (RMok.mk)) ⟨PJ.blind (zAnd_ok (zAnd_ok zz_ok zN_ok) zF_ok), fun U hU hW => ⟨rfl, my_preJ (zAnd_ok (zAnd_ok zz_ok zN_ok) zF_ok) ⟨hz.1.1, hz.1.2.1⟩ hS hA hK hP hD [0, 1, 2, 8] rfl rfl U hU hW⟩⟩ rfl rfl hl.1 rfl (lv_room (Nat.le_of_ble_eq_true rfl)) dL_law_1583 ⟨by omega, by omega⟩) hP hD hS hA [0, 1, 2, 8] rfl [3, 4, 5, 6, 7] rfl (by decide) [5, 6, 7, 0, 1, 2, 3, 4, 8] (fun _ => rfl) rfl (fun u1 H locs hp_1 hP hD hS => ?_)
  have hP : va_P D KL [(x, .inr (2, [.ref bx, .ref px, .ref t, .int ak, .int su, .int gt, .int lf, .int rf, .int kn])), (bx, .inl (cI, 6, .inl f)), (px, .inl (cI, 2, .inl g)), (t, .inr (1, [.ref bt, .int 0, .int ml, .int cn])), (bt, .inl (cB, 16, .inl bs)), (o, .inr (4, [.int th, .ref bo, .ref po, .int ak', .int su', .int gt', .int lf', .int rf', .int kn'])), (bo, .inl (cI, 6, .inl h)), (po, .inl (cI, 2, .inl j)), (q, .inr (3, [.long (hn_mustElse r1 r2 f n0), sv]))] H := hP
  have hD : va_D (fun q => s.heap.size ≤ q) [(x, .inr (2, [.ref bx, .ref px, .ref t, .int ak, .int su, .int gt, .int lf, .int rf, .int kn])), (bx, .inl (cI, 6, .inl f)), (px, .inl (cI, 2, .inl g)), (t, .inr (1, [.ref bt, .int 0, .int ml, .int cn])), (bt, .inl (cB, 16, .inl bs)), (o, .inr (4, [.int th, .ref bo, .ref po, .int ak', .int su', .int gt', .int lf', .int rf', .int kn'])), (bo, .inl (cI, 6, .inl h)), (po, .inl (cI, 2, .inl j)), (q, .inr (3, [.long (hn_mustElse r1 r2 f n0), sv]))] := hD
  refine W.eq (g2 := F0 m 1586 ls [.int (hk_mustElse r1 r2)]) rfl ?_
  refine lv_istore (lv' := [(5, .int (hk_mustElse r1 r2)), (4, .int (nI i)), (3, .ref q), (2, .ref o), (1, .ref x), (0, .ref b)]) FX.1 FX.2.1 dL_law_1586 hl (by decide) rfl (fun ls hl => ?_)
  refine lv_aload_n FX.1 FX.2.1 dL_law_1588 rfl (lv_at hl 3 rfl) ?_
  refine p_rd (k := 1) (v := r1) FX hX hbl hbA hS (lv_at hl 5 rfl) (lv_at hl 1 rfl) dL_law_1589 dL_law_1590 dL_law_1592 dL_law_1593 dL_law_1594 rfl hin1 ey1 ?_
  refine p_rd (k := 2) (v := r2) FX hX hbl hbA hS (lv_at hl 5 rfl) (lv_at hl 1 rfl) dL_law_1595 dL_law_1596 dL_law_1598 dL_law_1599 dL_law_1600 rfl hin2 ey2 ?_
  obtain ⟨eT, eA, hI2⟩ := st_mustElse r1 r2 n0 hI
  refine c_WRV (wr := [(x, .inr (2, [.ref bx, .ref px, .ref t, .int ak, .int su, .int gt, .int lf, .int rf, .int kn])), (bx, .inl (cI, 6, .inl f)), (px, .inl (cI, 2, .inl g)), (t, .inr (1, [.ref bt, .int 0, .int ml, .int cn])), (bt, .inl (cB, 16, .inl bs)), (q, .inr (3, [.long (hn_mustElse r1 r2 f n0), sv]))]) (wsN := [(x, .inr (2, [.ref bx, .ref px, .ref t, .int ak, .int su, .int gt, .int lf, .int rf, .int kn])), (bx, .inl (cI, 6, .inl f)), (px, .inl (cI, 2, .inl g)), (t, .inr (1, [.ref bt, .int 0, .int ml, .int cn])), (bt, .inl (cB, 16, .inl bs)), (o, .inr (4, [.int (wth_X2_mustElse r1 r2), .ref bo, .ref po, .int ak', .int su', .int gt', .int lf', .int rf', .int kn'])), (bo, .inl (cI, 6, .inl h)), (po, .inl (cI, 2, .inl j)), (q, .inr (3, [.long (hn_mustElse r1 r2 f n0), sv]))]) (i0 := 5) (ci := 4) FX (k_X2_mustElse l D cI cB o bo po th h j ak' su' gt' lf' rf' kn' r1 r2) mi_X2_mustElse rfl ml_RL_270 (RMok.mk) hl.1 rfl (Nat.le_of_ble_eq_true rfl) dL_law_1601 ⟨by omega, by omega⟩ hK hP hD hS hA [5, 6, 7] rfl [0, 1, 2, 3, 4, 8] rfl rfl (by decide) [0, 1, 2, 3, 4, 6, 7, 8, 5] rfl rfl rfl rfl rfl (fun H locs hP hD hS => ?_)
  refine lv_istore (lv' := [(6, .int (v_X2_mustElse r1 r2 h)), (5, .int (hk_mustElse r1 r2)), (4, .int (nI i)), (3, .ref q), (2, .ref o), (1, .ref x), (0, .ref b)]) FX.1 FX.2.1 dL_law_1604 hl (by decide) rfl (fun ls hl => ?_)
  refine lv_goto (tgt := 1830) FX.1 FX.2.1 dL_law_1606 (by decide) ?_
  refine W.widen (k := cc + 33) (n := ss + 321) (by omega) (by omega) ?_
  exact kk H locs f g ak su gt lf rf kn ml cn bs (wth_X2_mustElse r1 r2) h j ak' su' gt' lf' rf' kn' (hn_mustElse r1 r2 f n0) sv ls hI2 hb hc hP hD hS (lv_sub hl [2, 3, 4, 5, 6] rfl)
set_option maxRecDepth 100000 in
set_option maxHeartbeats 4000000 in
theorem case_35 {p : Program} {l : Launch} {e : Env} {s : State} {m : MethodId} {below : List Frame} {meth : Method} {c : Code} (hl0 : l.stackTraces = false) (D : va_G) (cI cB : ClassId) (b L : Nat) (xs : Nat → Int32) (x bx px t bt o bo po q : Nat) (to tt : Nat) (go gu : Nat → Int32) (na nv : Nat) (nf : Nat → Int32) (nb nw : Nat) (nh : Nat → Int32) (ea ew : Nat) (ef : Nat → Int32) (i cc ss : Nat) (hi : i + 6 ≤ L) (hcc : cc + 33 ≤ room_1.cells) (hss : ss + 321 ≤ room_1.slots) (hL : L ≤ 3072) (FX : CallFix p m c cL_law 7 s #[.ref b] bigW RL) (hK : va_K D KL (TY cI cB) s) (hX : va_X b L xs s s.heap) (hbl : b < s.heap.size) (hz : zLaw to tt go gu na nv nf nb nw nh ea ew ef (fun q => s.heap.size ≤ q) s s.heap) (hfn : sb_Fit nf) (hfe : sb_Fit ef) (hnn : TL 4 nf nh) (kk : LGo p l e s m below meth c D cI cB b x bx px t bt o bo po q i 1830 (cc + 33) (ss + 321)) : LGo p l e s m below meth c D cI cB b x bx px t bt o bo po q i 1609 cc ss := by
  intro H locs f g ak su gt lf rf kn ml cn bs th h j ak' su' gt' lf' rf' kn' n0 sv ls hI hb hc hP hD hS hl
  have hA : ∀ q : Nat, s.heap.size ≤ q → s.heap.size ≤ q := fun _ h => h
  have hbA : ¬ (fun q : Nat => s.heap.size ≤ q) b := Nat.not_le.mpr hbl
  obtain ⟨r1, ey1⟩ : ∃ y, xs (i + 1) = y := ⟨_, rfl⟩
  have hin1 : i + 1 < L ∧ L < 2 ^ 31 := ⟨by omega, by omega⟩
  have hl : lv_has ls 7 [(4, .int (nI i)), (3, .ref q), (2, .ref o), (1, .ref x), (0, .ref b)] := hl
  have hP : va_P D KL [(x, .inr (2, [.ref bx, .ref px, .ref t, .int ak, .int su, .int gt, .int lf, .int rf, .int kn])), (bx, .inl (cI, 6, .inl f)), (px, .inl (cI, 2, .inl g)), (t, .inr (1, [.ref bt, .int 0, .int ml, .int cn])), (bt, .inl (cB, 16, .inl bs)), (o, .inr (4, [.int th, .ref bo, .ref po, .int ak', .int su', .int gt', .int lf', .int rf', .int kn'])), (bo, .inl (cI, 6, .inl h)), (po, .inl (cI, 2, .inl j)), (q, .inr (3, [.long n0, sv]))] H := hP
  have hD : va_D (fun q => s.heap.size ≤ q) [(x, .inr (2, [.ref bx, .ref px, .ref t, .int ak, .int su, .int gt, .int lf, .int rf, .int kn])), (bx, .inl (cI, 6, .inl f)), (px, .inl (cI, 2, .inl g)), (t, .inr (1, [.ref bt, .int 0, .int ml, .int cn])), (bt, .inl (cB, 16, .inl bs)), (o, .inr (4, [.int th, .ref bo, .ref po, .int ak', .int su', .int gt', .int lf', .int rf', .int kn'])), (bo, .inl (cI, 6, .inl h)), (po, .inl (cI, 2, .inl j)), (q, .inr (3, [.long n0, sv]))] := hD
  refine lv_aload_n FX.1 FX.2.1 dL_law_1609 rfl (lv_at hl 3 rfl) ?_
  refine p_rd (k := 1) (v := r1) FX hX hbl hbA hS (lv_at hl 4 rfl) (lv_at hl 0 rfl) dL_law_1610 dL_law_1611 dL_law_1613 dL_law_1614 dL_law_1615 rfl hin1 ey1 ?_
  refine lv_aload_n FX.1 FX.2.1 dL_law_1616 rfl (lv_at hl 1 rfl) ?_
  refine c_J (W0 := [(x, .inr (2, [.ref bx, .ref px, .ref t, .int ak, .int su, .int gt, .int lf, .int rf, .int kn])), (bx, .inl (cI, 6, .inl f)), (px, .inl (cI, 2, .inl g)), (q, .inr (3, [.long n0, sv]))]) (wr := [(t, .inr (1, [.ref bt, .int 0, .int ml, .int cn])), (bt, .inl (cB, 16, .inl bs)), (o, .inr (4, [.int th, .ref bo, .ref po, .int ak', .int su', .int gt', .int lf', .int rf', .int kn'])), (bo, .inl (cI, 6, .inl h)), (po, .inl (cI, 2, .inl j))]) (wsN := fun _ => [(x, .inr (2, [.ref bx, .ref px, .ref t, .int ak, .int su, .int gt, .int lf, .int rf, .int kn])), (bx, .inl (cI, 6, .inl f)), (px, .inl (cI, 2, .inl g)), (t, .inr (1, [.ref bt, .int 0, .int ml, .int cn])), (bt, .inl (cB, 16, .inl bs)), (o, .inr (4, [.int th, .ref bo, .ref po, .int ak', .int su', .int gt', .int lf', .int rf', .int kn'])), (bo, .inl (cI, 6, .inl h)), (po, .inl (cI, 2, .inl j)), (q, .inr (3, [.long (hn_isNothing r1 f n0), sv]))]) (vx_runSW FX ((j_L_isNothing l hl0 D cI cB x bx px t f g ak su gt lf rf kn q n0 sv r1) H.size) (my_cwSW FX.2.2.2.2 mh_L_isNothing ml_RL_271 (RMok.mk)) ⟨PJ.blind (zAnd_ok (zAnd_ok zz_ok zN_ok) zF_ok), fun U hU hW => ⟨rfl, my_preJ (zAnd_ok (zAnd_ok zz_ok zN_ok) zF_ok) ⟨hz.1.1, hz.1.2.1⟩ hS hA hK hP hD [0, 1, 2, 8] rfl rfl U hU hW⟩⟩ rfl rfl hl.1 rfl (lv_room (Nat.le_of_ble_eq_true rfl)) dL_law_1617 ⟨by omega, by omega⟩) hP hD hS hA [0, 1, 2, 8] rfl [3, 4, 5, 6, 7] rfl (by decide) [5, 6, 7, 0, 1, 2, 3, 4, 8] (fun _ => rfl) rfl (fun u1 H locs hp_1 hP hD hS => ?_)
  have hP : va_P D KL [(x, .inr (2, [.ref bx, .ref px, .ref t, .int ak, .int su, .int gt, .int lf, .int rf, .int kn])), (bx, .inl (cI, 6, .inl f)), (px, .inl (cI, 2, .inl g)), (t, .inr (1, [.ref bt, .int 0, .int ml, .int cn])), (bt, .inl (cB, 16, .inl bs)), (o, .inr (4, [.int th, .ref bo, .ref po, .int ak', .int su', .int gt', .int lf', .int rf', .int kn'])), (bo, .inl (cI, 6, .inl h)), (po, .inl (cI, 2, .inl j)), (q, .inr (3, [.long (hn_isNothing r1 f n0), sv]))] H := hP
  have hD : va_D (fun q => s.heap.size ≤ q) [(x, .inr (2, [.ref bx, .ref px, .ref t, .int ak, .int su, .int gt, .int lf, .int rf, .int kn])), (bx, .inl (cI, 6, .inl f)), (px, .inl (cI, 2, .inl g)), (t, .inr (1, [.ref bt, .int 0, .int ml, .int cn])), (bt, .inl (cB, 16, .inl bs)), (o, .inr (4, [.int th, .ref bo, .ref po, .int ak', .int su', .int gt', .int lf', .int rf', .int kn'])), (bo, .inl (cI, 6, .inl h)), (po, .inl (cI, 2, .inl j)), (q, .inr (3, [.long (hn_isNothing r1 f n0), sv]))] := hD
  refine W.eq (g2 := F0 m 1620 ls [.int (hk_isNothing r1)]) rfl ?_
  refine lv_istore (lv' := [(5, .int (hk_isNothing r1)), (4, .int (nI i)), (3, .ref q), (2, .ref o), (1, .ref x), (0, .ref b)]) FX.1 FX.2.1 dL_law_1620 hl (by decide) rfl (fun ls hl => ?_)
  refine lv_aload_n FX.1 FX.2.1 dL_law_1622 rfl (lv_at hl 3 rfl) ?_
  refine p_rd (k := 1) (v := r1) FX hX hbl hbA hS (lv_at hl 5 rfl) (lv_at hl 1 rfl) dL_law_1623 dL_law_1624 dL_law_1626 dL_law_1627 dL_law_1628 rfl hin1 ey1 ?_
  obtain ⟨eT, eA, hI2⟩ := st_isNothing r1 n0 hI
  refine c_WRV (wr := [(x, .inr (2, [.ref bx, .ref px, .ref t, .int ak, .int su, .int gt, .int lf, .int rf, .int kn])), (bx, .inl (cI, 6, .inl f)), (px, .inl (cI, 2, .inl g)), (t, .inr (1, [.ref bt, .int 0, .int ml, .int cn])), (bt, .inl (cB, 16, .inl bs)), (q, .inr (3, [.long (hn_isNothing r1 f n0), sv]))]) (wsN := [(x, .inr (2, [.ref bx, .ref px, .ref t, .int ak, .int su, .int gt, .int lf, .int rf, .int kn])), (bx, .inl (cI, 6, .inl f)), (px, .inl (cI, 2, .inl g)), (t, .inr (1, [.ref bt, .int 0, .int ml, .int cn])), (bt, .inl (cB, 16, .inl bs)), (o, .inr (4, [.int (wth_X2_isNothing r1), .ref bo, .ref po, .int ak', .int su', .int gt', .int lf', .int rf', .int kn'])), (bo, .inl (cI, 6, .inl h)), (po, .inl (cI, 2, .inl j)), (q, .inr (3, [.long (hn_isNothing r1 f n0), sv]))]) (i0 := 5) (ci := 4) FX (k_X2_isNothing l D cI cB o bo po th h j ak' su' gt' lf' rf' kn' r1) mi_X2_isNothing rfl ml_RL_273 (RMok.mk) hl.1 rfl (Nat.le_of_ble_eq_true rfl) dL_law_1629 ⟨by omega, by omega⟩ hK hP hD hS hA [5, 6, 7] rfl [0, 1, 2, 3, 4, 8] rfl rfl (by decide) [0, 1, 2, 3, 4, 6, 7, 8, 5] rfl rfl rfl rfl rfl (fun H locs hP hD hS => ?_)
  refine lv_istore (lv' := [(6, .int (v_X2_isNothing r1 h)), (5, .int (hk_isNothing r1)), (4, .int (nI i)), (3, .ref q), (2, .ref o), (1, .ref x), (0, .ref b)]) FX.1 FX.2.1 dL_law_1632 hl (by decide) rfl (fun ls hl => ?_)
  refine lv_goto (tgt := 1830) FX.1 FX.2.1 dL_law_1634 (by decide) ?_
  refine W.widen (k := cc + 33) (n := ss + 321) (by omega) (by omega) ?_
  exact kk H locs f g ak su gt lf rf kn ml cn bs (wth_X2_isNothing r1) h j ak' su' gt' lf' rf' kn' (hn_isNothing r1 f n0) sv ls hI2 hb hc hP hD hS (lv_sub hl [2, 3, 4, 5, 6] rfl)
set_option maxRecDepth 100000 in
set_option maxHeartbeats 4000000 in
theorem case_36 {p : Program} {l : Launch} {e : Env} {s : State} {m : MethodId} {below : List Frame} {meth : Method} {c : Code} (hl0 : l.stackTraces = false) (D : va_G) (cI cB : ClassId) (b L : Nat) (xs : Nat → Int32) (x bx px t bt o bo po q : Nat) (to tt : Nat) (go gu : Nat → Int32) (na nv : Nat) (nf : Nat → Int32) (nb nw : Nat) (nh : Nat → Int32) (ea ew : Nat) (ef : Nat → Int32) (i cc ss : Nat) (hi : i + 6 ≤ L) (hcc : cc + 33 ≤ room_1.cells) (hss : ss + 321 ≤ room_1.slots) (hL : L ≤ 3072) (FX : CallFix p m c cL_law 7 s #[.ref b] bigW RL) (hK : va_K D KL (TY cI cB) s) (hX : va_X b L xs s s.heap) (hbl : b < s.heap.size) (hz : zLaw to tt go gu na nv nf nb nw nh ea ew ef (fun q => s.heap.size ≤ q) s s.heap) (hfn : sb_Fit nf) (hfe : sb_Fit ef) (hnn : TL 4 nf nh) (kk : LGo p l e s m below meth c D cI cB b x bx px t bt o bo po q i 1830 (cc + 33) (ss + 321)) : LGo p l e s m below meth c D cI cB b x bx px t bt o bo po q i 1637 cc ss := by
  intro H locs f g ak su gt lf rf kn ml cn bs th h j ak' su' gt' lf' rf' kn' n0 sv ls hI hb hc hP hD hS hl
  have hA : ∀ q : Nat, s.heap.size ≤ q → s.heap.size ≤ q := fun _ h => h
  have hbA : ¬ (fun q : Nat => s.heap.size ≤ q) b := Nat.not_le.mpr hbl
  obtain ⟨r1, ey1⟩ : ∃ y, xs (i + 1) = y := ⟨_, rfl⟩
  have hin1 : i + 1 < L ∧ L < 2 ^ 31 := ⟨by omega, by omega⟩
  have hl : lv_has ls 7 [(4, .int (nI i)), (3, .ref q), (2, .ref o), (1, .ref x), (0, .ref b)] := hl
  have hP : va_P D KL [(x, .inr (2, [.ref bx, .ref px, .ref t, .int ak, .int su, .int gt, .int lf, .int rf, .int kn])), (bx, .inl (cI, 6, .inl f)), (px, .inl (cI, 2, .inl g)), (t, .inr (1, [.ref bt, .int 0, .int ml, .int cn])), (bt, .inl (cB, 16, .inl bs)), (o, .inr (4, [.int th, .ref bo, .ref po, .int ak', .int su', .int gt', .int lf', .int rf', .int kn'])), (bo, .inl (cI, 6, .inl h)), (po, .inl (cI, 2, .inl j)), (q, .inr (3, [.long n0, sv]))] H := hP
  have hD : va_D (fun q => s.heap.size ≤ q) [(x, .inr (2, [.ref bx, .ref px, .ref t, .int ak, .int su, .int gt, .int lf, .int rf, .int kn])), (bx, .inl (cI, 6, .inl f)), (px, .inl (cI, 2, .inl g)), (t, .inr (1, [.ref bt, .int 0, .int ml, .int cn])), (bt, .inl (cB, 16, .inl bs)), (o, .inr (4, [.int th, .ref bo, .ref po, .int ak', .int su', .int gt', .int lf', .int rf', .int kn'])), (bo, .inl (cI, 6, .inl h)), (po, .inl (cI, 2, .inl j)), (q, .inr (3, [.long n0, sv]))] := hD
  refine lv_aload_n FX.1 FX.2.1 dL_law_1637 rfl (lv_at hl 3 rfl) ?_
  refine p_rd (k := 1) (v := r1) FX hX hbl hbA hS (lv_at hl 4 rfl) (lv_at hl 0 rfl) dL_law_1638 dL_law_1639 dL_law_1641 dL_law_1642 dL_law_1643 rfl hin1 ey1 ?_
  refine lv_aload_n FX.1 FX.2.1 dL_law_1644 rfl (lv_at hl 1 rfl) ?_
  refine c_J (W0 := [(x, .inr (2, [.ref bx, .ref px, .ref t, .int ak, .int su, .int gt, .int lf, .int rf, .int kn])), (bx, .inl (cI, 6, .inl f)), (px, .inl (cI, 2, .inl g)), (q, .inr (3, [.long n0, sv]))]) (wr := [(t, .inr (1, [.ref bt, .int 0, .int ml, .int cn])), (bt, .inl (cB, 16, .inl bs)), (o, .inr (4, [.int th, .ref bo, .ref po, .int ak', .int su', .int gt', .int lf', .int rf', .int kn'])), (bo, .inl (cI, 6, .inl h)), (po, .inl (cI, 2, .inl j))]) (wsN := fun _ => [(x, .inr (2, [.ref bx, .ref px, .ref t, .int ak, .int su, .int gt, .int lf, .int rf, .int kn])), (bx, .inl (cI, 6, .inl f)), (px, .inl (cI, 2, .inl g)), (t, .inr (1, [.ref bt, .int 0, .int ml, .int cn])), (bt, .inl (cB, 16, .inl bs)), (o, .inr (4, [.int th, .ref bo, .ref po, .int ak', .int su', .int gt', .int lf', .int rf', .int kn'])), (bo, .inl (cI, 6, .inl h)), (po, .inl (cI, 2, .inl j)), (q, .inr (3, [.long (hn_isSomething r1 f n0), sv]))]) (vx_runSW FX ((j_L_isSomething l hl0 D cI cB x bx px t f g ak su gt lf rf kn q n0 sv r1) H.size) (my_cwSW FX.2.2.2.2 mh_L_isSomething ml_RL_274 (RMok.mk)) ⟨PJ.blind (zAnd_ok (zAnd_ok zz_ok zN_ok) zF_ok), fun U hU hW => ⟨rfl, my_preJ (zAnd_ok (zAnd_ok zz_ok zN_ok) zF_ok) ⟨hz.1.1, hz.1.2.1⟩ hS hA hK hP hD [0, 1, 2, 8] rfl rfl U hU hW⟩⟩ rfl rfl hl.1 rfl (lv_room (Nat.le_of_ble_eq_true rfl)) dL_law_1645 ⟨by omega, by omega⟩) hP hD hS hA [0, 1, 2, 8] rfl [3, 4, 5, 6, 7] rfl (by decide) [5, 6, 7, 0, 1, 2, 3, 4, 8] (fun _ => rfl) rfl (fun u1 H locs hp_1 hP hD hS => ?_)
  have hP : va_P D KL [(x, .inr (2, [.ref bx, .ref px, .ref t, .int ak, .int su, .int gt, .int lf, .int rf, .int kn])), (bx, .inl (cI, 6, .inl f)), (px, .inl (cI, 2, .inl g)), (t, .inr (1, [.ref bt, .int 0, .int ml, .int cn])), (bt, .inl (cB, 16, .inl bs)), (o, .inr (4, [.int th, .ref bo, .ref po, .int ak', .int su', .int gt', .int lf', .int rf', .int kn'])), (bo, .inl (cI, 6, .inl h)), (po, .inl (cI, 2, .inl j)), (q, .inr (3, [.long (hn_isSomething r1 f n0), sv]))] H := hP
  have hD : va_D (fun q => s.heap.size ≤ q) [(x, .inr (2, [.ref bx, .ref px, .ref t, .int ak, .int su, .int gt, .int lf, .int rf, .int kn])), (bx, .inl (cI, 6, .inl f)), (px, .inl (cI, 2, .inl g)), (t, .inr (1, [.ref bt, .int 0, .int ml, .int cn])), (bt, .inl (cB, 16, .inl bs)), (o, .inr (4, [.int th, .ref bo, .ref po, .int ak', .int su', .int gt', .int lf', .int rf', .int kn'])), (bo, .inl (cI, 6, .inl h)), (po, .inl (cI, 2, .inl j)), (q, .inr (3, [.long (hn_isSomething r1 f n0), sv]))] := hD
  refine W.eq (g2 := F0 m 1648 ls [.int (hk_isSomething r1)]) rfl ?_
  refine lv_istore (lv' := [(5, .int (hk_isSomething r1)), (4, .int (nI i)), (3, .ref q), (2, .ref o), (1, .ref x), (0, .ref b)]) FX.1 FX.2.1 dL_law_1648 hl (by decide) rfl (fun ls hl => ?_)
  refine lv_aload_n FX.1 FX.2.1 dL_law_1650 rfl (lv_at hl 3 rfl) ?_
  refine p_rd (k := 1) (v := r1) FX hX hbl hbA hS (lv_at hl 5 rfl) (lv_at hl 1 rfl) dL_law_1651 dL_law_1652 dL_law_1654 dL_law_1655 dL_law_1656 rfl hin1 ey1 ?_
  obtain ⟨eT, eA, hI2⟩ := st_isSomething r1 n0 hI
  refine c_WRV (wr := [(x, .inr (2, [.ref bx, .ref px, .ref t, .int ak, .int su, .int gt, .int lf, .int rf, .int kn])), (bx, .inl (cI, 6, .inl f)), (px, .inl (cI, 2, .inl g)), (t, .inr (1, [.ref bt, .int 0, .int ml, .int cn])), (bt, .inl (cB, 16, .inl bs)), (q, .inr (3, [.long (hn_isSomething r1 f n0), sv]))]) (wsN := [(x, .inr (2, [.ref bx, .ref px, .ref t, .int ak, .int su, .int gt, .int lf, .int rf, .int kn])), (bx, .inl (cI, 6, .inl f)), (px, .inl (cI, 2, .inl g)), (t, .inr (1, [.ref bt, .int 0, .int ml, .int cn])), (bt, .inl (cB, 16, .inl bs)), (o, .inr (4, [.int (wth_X2_isSomething r1), .ref bo, .ref po, .int ak', .int su', .int gt', .int lf', .int rf', .int kn'])), (bo, .inl (cI, 6, .inl h)), (po, .inl (cI, 2, .inl j)), (q, .inr (3, [.long (hn_isSomething r1 f n0), sv]))]) (i0 := 5) (ci := 4) FX (k_X2_isSomething l D cI cB o bo po th h j ak' su' gt' lf' rf' kn' r1) mi_X2_isSomething rfl ml_RL_276 (RMok.mk) hl.1 rfl (Nat.le_of_ble_eq_true rfl) dL_law_1657 ⟨by omega, by omega⟩ hK hP hD hS hA [5, 6, 7] rfl [0, 1, 2, 3, 4, 8] rfl rfl (by decide) [0, 1, 2, 3, 4, 6, 7, 8, 5] rfl rfl rfl rfl rfl (fun H locs hP hD hS => ?_)
  refine lv_istore (lv' := [(6, .int (v_X2_isSomething r1 h)), (5, .int (hk_isSomething r1)), (4, .int (nI i)), (3, .ref q), (2, .ref o), (1, .ref x), (0, .ref b)]) FX.1 FX.2.1 dL_law_1660 hl (by decide) rfl (fun ls hl => ?_)
  refine lv_goto (tgt := 1830) FX.1 FX.2.1 dL_law_1662 (by decide) ?_
  refine W.widen (k := cc + 33) (n := ss + 321) (by omega) (by omega) ?_
  exact kk H locs f g ak su gt lf rf kn ml cn bs (wth_X2_isSomething r1) h j ak' su' gt' lf' rf' kn' (hn_isSomething r1 f n0) sv ls hI2 hb hc hP hD hS (lv_sub hl [2, 3, 4, 5, 6] rfl)
set_option maxRecDepth 100000 in
set_option maxHeartbeats 4000000 in
theorem case_37 {p : Program} {l : Launch} {e : Env} {s : State} {m : MethodId} {below : List Frame} {meth : Method} {c : Code} (hl0 : l.stackTraces = false) (D : va_G) (cI cB : ClassId) (b L : Nat) (xs : Nat → Int32) (x bx px t bt o bo po q : Nat) (to tt : Nat) (go gu : Nat → Int32) (na nv : Nat) (nf : Nat → Int32) (nb nw : Nat) (nh : Nat → Int32) (ea ew : Nat) (ef : Nat → Int32) (i cc ss : Nat) (hi : i + 6 ≤ L) (hcc : cc + 33 ≤ room_1.cells) (hss : ss + 321 ≤ room_1.slots) (hL : L ≤ 3072) (FX : CallFix p m c cL_law 7 s #[.ref b] bigW RL) (hK : va_K D KL (TY cI cB) s) (hX : va_X b L xs s s.heap) (hbl : b < s.heap.size) (hz : zLaw to tt go gu na nv nf nb nw nh ea ew ef (fun q => s.heap.size ≤ q) s s.heap) (hfn : sb_Fit nf) (hfe : sb_Fit ef) (hnn : TL 4 nf nh) (kk : LGo p l e s m below meth c D cI cB b x bx px t bt o bo po q i 1830 (cc + 33) (ss + 321)) : LGo p l e s m below meth c D cI cB b x bx px t bt o bo po q i 1665 cc ss := by
  intro H locs f g ak su gt lf rf kn ml cn bs th h j ak' su' gt' lf' rf' kn' n0 sv ls hI hb hc hP hD hS hl
  have hA : ∀ q : Nat, s.heap.size ≤ q → s.heap.size ≤ q := fun _ h => h
  have hbA : ¬ (fun q : Nat => s.heap.size ≤ q) b := Nat.not_le.mpr hbl
  obtain ⟨r1, ey1⟩ : ∃ y, xs (i + 1) = y := ⟨_, rfl⟩
  have hin1 : i + 1 < L ∧ L < 2 ^ 31 := ⟨by omega, by omega⟩
  have hl : lv_has ls 7 [(4, .int (nI i)), (3, .ref q), (2, .ref o), (1, .ref x), (0, .ref b)] := hl
  have hP : va_P D KL [(x, .inr (2, [.ref bx, .ref px, .ref t, .int ak, .int su, .int gt, .int lf, .int rf, .int kn])), (bx, .inl (cI, 6, .inl f)), (px, .inl (cI, 2, .inl g)), (t, .inr (1, [.ref bt, .int 0, .int ml, .int cn])), (bt, .inl (cB, 16, .inl bs)), (o, .inr (4, [.int th, .ref bo, .ref po, .int ak', .int su', .int gt', .int lf', .int rf', .int kn'])), (bo, .inl (cI, 6, .inl h)), (po, .inl (cI, 2, .inl j)), (q, .inr (3, [.long n0, sv]))] H := hP
  have hD : va_D (fun q => s.heap.size ≤ q) [(x, .inr (2, [.ref bx, .ref px, .ref t, .int ak, .int su, .int gt, .int lf, .int rf, .int kn])), (bx, .inl (cI, 6, .inl f)), (px, .inl (cI, 2, .inl g)), (t, .inr (1, [.ref bt, .int 0, .int ml, .int cn])), (bt, .inl (cB, 16, .inl bs)), (o, .inr (4, [.int th, .ref bo, .ref po, .int ak', .int su', .int gt', .int lf', .int rf', .int kn'])), (bo, .inl (cI, 6, .inl h)), (po, .inl (cI, 2, .inl j)), (q, .inr (3, [.long n0, sv]))] := hD
  refine lv_aload_n FX.1 FX.2.1 dL_law_1665 rfl (lv_at hl 3 rfl) ?_
  refine p_rd (k := 1) (v := r1) FX hX hbl hbA hS (lv_at hl 4 rfl) (lv_at hl 0 rfl) dL_law_1666 dL_law_1667 dL_law_1669 dL_law_1670 dL_law_1671 rfl hin1 ey1 ?_
  refine lv_aload_n FX.1 FX.2.1 dL_law_1672 rfl (lv_at hl 1 rfl) ?_
  by_cases hE : e_X0_told r1 = 0
  · obtain ⟨hF, hm9⟩ := told_c hI hE
    rcases hm9 with ⟨hn0, hm⟩ | ⟨hn9, hv⟩
    · refine c_J (W0 := [(x, .inr (2, [.ref bx, .ref px, .ref t, .int ak, .int su, .int gt, .int lf, .int rf, .int kn])), (bx, .inl (cI, 6, .inl f)), (px, .inl (cI, 2, .inl g)), (t, .inr (1, [.ref bt, .int 0, .int ml, .int cn])), (bt, .inl (cB, 16, .inl bs)), (q, .inr (3, [.long n0, sv]))]) (wr := [(o, .inr (4, [.int th, .ref bo, .ref po, .int ak', .int su', .int gt', .int lf', .int rf', .int kn'])), (bo, .inl (cI, 6, .inl h)), (po, .inl (cI, 2, .inl j))]) (wsN := fun u1 => [(x, .inr (2, [.ref bx, .ref px, .ref t, .int ak, .int su, .int gt, .int lf, .int rf, .int kn])), (bx, .inl (cI, 6, .inl f)), (px, .inl (cI, 2, .inl g)), (t, .inr (1, [.ref bt, .int 0, .int u1.1, .int 4])), (bt, .inl (cB, 16, .inl u1.2.1)), (o, .inr (4, [.int th, .ref bo, .ref po, .int ak', .int su', .int gt', .int lf', .int rf', .int kn'])), (bo, .inl (cI, 6, .inl h)), (po, .inl (cI, 2, .inl j)), (q, .inr (3, [.long n0, (.ref u1.2.2.1)])), (u1.2.2.1, .inr (0, [.ref u1.2.2.2.1, .int 0, .int 0, .int 0])), (u1.2.2.2.1, .inl (cB, 4, .inl u1.2.2.2.2))]) (vx_runSW FX ((j_L_told_0 l hl0 D cI cB x bx px t bt f g ak su gt lf rf kn ml cn bs q n0 sv r1 to tt go gu na nv nf hfn hb hc hE hn0) H.size) (my_cwSW FX.2.2.2.2 mh_L_told ml_RL_277 (RMok.mk)) ⟨PJ.blind (zAnd_ok (zAnd_ok (zAnd_ok zz_ok zN_ok) zF_ok) (zAnd_ok zC_ok (zAnd_ok (zAnd_ok zDg_ok zDg_ok) (zAnd_ok zR_ok zS_ok)))), fun U hU hW => ⟨rfl, my_preJ (zAnd_ok (zAnd_ok (zAnd_ok zz_ok zN_ok) zF_ok) (zAnd_ok zC_ok (zAnd_ok (zAnd_ok zDg_ok zDg_ok) (zAnd_ok zR_ok zS_ok)))) ⟨⟨hz.1.1, hz.1.2.2⟩, hz.2.1⟩ hS hA hK hP hD [0, 1, 2, 3, 4, 8] rfl rfl U hU hW⟩⟩ rfl rfl hl.1 rfl (lv_room (Nat.le_of_ble_eq_true rfl)) dL_law_1673 ⟨by omega, by omega⟩) hP hD hS hA [0, 1, 2, 3, 4, 8] rfl [5, 6, 7] rfl (by decide) [3, 4, 5, 6, 7, 0, 1, 2, 8, 9, 10] (fun _ => rfl) rfl (fun u1 H locs hp_1 hP hD hS => ?_)
      have hP : va_P D KL [(x, .inr (2, [.ref bx, .ref px, .ref t, .int ak, .int su, .int gt, .int lf, .int rf, .int kn])), (bx, .inl (cI, 6, .inl f)), (px, .inl (cI, 2, .inl g)), (t, .inr (1, [.ref bt, .int 0, .int u1.1, .int 4])), (bt, .inl (cB, 16, .inl u1.2.1)), (o, .inr (4, [.int th, .ref bo, .ref po, .int ak', .int su', .int gt', .int lf', .int rf', .int kn'])), (bo, .inl (cI, 6, .inl h)), (po, .inl (cI, 2, .inl j)), (q, .inr (3, [.long n0, (.ref u1.2.2.1)])), (u1.2.2.1, .inr (0, [.ref u1.2.2.2.1, .int 0, .int 0, .int 0])), (u1.2.2.2.1, .inl (cB, 4, .inl u1.2.2.2.2))] H := hP
      have hD : va_D (fun q => s.heap.size ≤ q) [(x, .inr (2, [.ref bx, .ref px, .ref t, .int ak, .int su, .int gt, .int lf, .int rf, .int kn])), (bx, .inl (cI, 6, .inl f)), (px, .inl (cI, 2, .inl g)), (t, .inr (1, [.ref bt, .int 0, .int u1.1, .int 4])), (bt, .inl (cB, 16, .inl u1.2.1)), (o, .inr (4, [.int th, .ref bo, .ref po, .int ak', .int su', .int gt', .int lf', .int rf', .int kn'])), (bo, .inl (cI, 6, .inl h)), (po, .inl (cI, 2, .inl j)), (q, .inr (3, [.long n0, (.ref u1.2.2.1)])), (u1.2.2.1, .inr (0, [.ref u1.2.2.2.1, .int 0, .int 0, .int 0])), (u1.2.2.2.1, .inl (cB, 4, .inl u1.2.2.2.2))] := hD
      refine W.eq (g2 := F0 m 1676 ls [.int 0]) rfl ?_
      refine lv_istore (lv' := [(5, .int 0), (4, .int (nI i)), (3, .ref q), (2, .ref o), (1, .ref x), (0, .ref b)]) FX.1 FX.2.1 dL_law_1676 hl (by decide) rfl (fun ls hl => ?_)
      refine lv_aload_n FX.1 FX.2.1 dL_law_1678 rfl (lv_at hl 3 rfl) ?_
      refine p_rd (k := 1) (v := r1) FX hX hbl hbA hS (lv_at hl 5 rfl) (lv_at hl 1 rfl) dL_law_1679 dL_law_1680 dL_law_1682 dL_law_1683 dL_law_1684 rfl hin1 ey1 ?_
      obtain ⟨eT, eA, hI2⟩ := st_told r1 n0 hI
      have eT0 : wth_X2_told r1 = 0 := eT.trans (if_pos hE)
      refine c_J (W0 := [(o, .inr (4, [.int th, .ref bo, .ref po, .int ak', .int su', .int gt', .int lf', .int rf', .int kn'])), (bo, .inl (cI, 6, .inl h)), (po, .inl (cI, 2, .inl j))]) (wr := [(x, .inr (2, [.ref bx, .ref px, .ref t, .int ak, .int su, .int gt, .int lf, .int rf, .int kn])), (bx, .inl (cI, 6, .inl f)), (px, .inl (cI, 2, .inl g)), (t, .inr (1, [.ref bt, .int 0, .int u1.1, .int 4])), (bt, .inl (cB, 16, .inl u1.2.1)), (q, .inr (3, [.long n0, (.ref u1.2.2.1)])), (u1.2.2.1, .inr (0, [.ref u1.2.2.2.1, .int 0, .int 0, .int 0])), (u1.2.2.2.1, .inl (cB, 4, .inl u1.2.2.2.2))]) (wsN := fun _ => [(x, .inr (2, [.ref bx, .ref px, .ref t, .int ak, .int su, .int gt, .int lf, .int rf, .int kn])), (bx, .inl (cI, 6, .inl f)), (px, .inl (cI, 2, .inl g)), (t, .inr (1, [.ref bt, .int 0, .int u1.1, .int 4])), (bt, .inl (cB, 16, .inl u1.2.1)), (o, .inr (4, [.int (wth_X2_told r1), .ref bo, .ref po, .int ak', .int su', .int gt', .int lf', .int rf', .int kn'])), (bo, .inl (cI, 6, .inl h)), (po, .inl (cI, 2, .inl j)), (q, .inr (3, [.long n0, (.ref u1.2.2.1)])), (u1.2.2.1, .inr (0, [.ref u1.2.2.2.1, .int 0, .int 0, .int 0])), (u1.2.2.2.1, .inl (cB, 4, .inl u1.2.2.2.2))]) (va_runV FX ((j_X2_told_0 l D cI cB o bo po th h j ak' su' gt' lf' rf' kn' r1 to tt go gu nb nw nh ea ew ef hF hm) H.size) (my_cwV FX.2.2.2.2 mi_X2_told ml_RL_279 (RMok.mk)) ⟨PJ.blind (zAnd_ok zC_ok (zAnd_ok (zAnd_ok zDg_ok zDg_ok) (zAnd_ok (zAnd_ok zR_ok zS_ok) (zAnd_ok zR_ok zS_ok)))), (my_recv (i0 := 5) (ci := 4) hK hP rfl rfl rfl), fun U hU hW => ⟨rfl, my_preJ (zAnd_ok zC_ok (zAnd_ok (zAnd_ok zDg_ok zDg_ok) (zAnd_ok (zAnd_ok zR_ok zS_ok) (zAnd_ok zR_ok zS_ok)))) hz.2.2 hS hA hK hP hD [5, 6, 7] rfl rfl U hU hW⟩⟩ rfl rfl hl.1 rfl (lv_room (Nat.le_of_ble_eq_true rfl)) dL_law_1685 ⟨by omega, by omega⟩) hP hD hS hA [5, 6, 7] rfl [0, 1, 2, 3, 4, 8, 9, 10] rfl (by decide) [0, 1, 2, 3, 4, 8, 9, 10, 5, 6, 7] (fun _ => rfl) rfl (fun u2 H locs hp_2 hP hD hS => ?_)
      have hP : va_P D KL [(x, .inr (2, [.ref bx, .ref px, .ref t, .int ak, .int su, .int gt, .int lf, .int rf, .int kn])), (bx, .inl (cI, 6, .inl f)), (px, .inl (cI, 2, .inl g)), (t, .inr (1, [.ref bt, .int 0, .int u1.1, .int 4])), (bt, .inl (cB, 16, .inl u1.2.1)), (o, .inr (4, [.int (wth_X2_told r1), .ref bo, .ref po, .int ak', .int su', .int gt', .int lf', .int rf', .int kn'])), (bo, .inl (cI, 6, .inl h)), (po, .inl (cI, 2, .inl j)), (q, .inr (3, [.long n0, (.ref u1.2.2.1)])), (u1.2.2.1, .inr (0, [.ref u1.2.2.2.1, .int 0, .int 0, .int 0])), (u1.2.2.2.1, .inl (cB, 4, .inl u1.2.2.2.2))] H := hP
      have hD : va_D (fun q => s.heap.size ≤ q) [(x, .inr (2, [.ref bx, .ref px, .ref t, .int ak, .int su, .int gt, .int lf, .int rf, .int kn])), (bx, .inl (cI, 6, .inl f)), (px, .inl (cI, 2, .inl g)), (t, .inr (1, [.ref bt, .int 0, .int u1.1, .int 4])), (bt, .inl (cB, 16, .inl u1.2.1)), (o, .inr (4, [.int (wth_X2_told r1), .ref bo, .ref po, .int ak', .int su', .int gt', .int lf', .int rf', .int kn'])), (bo, .inl (cI, 6, .inl h)), (po, .inl (cI, 2, .inl j)), (q, .inr (3, [.long n0, (.ref u1.2.2.1)])), (u1.2.2.1, .inr (0, [.ref u1.2.2.2.1, .int 0, .int 0, .int 0])), (u1.2.2.2.1, .inl (cB, 4, .inl u1.2.2.2.2))] := hD
      refine W.eq (g2 := F0 m 1688 ls [.ref nb]) rfl ?_
      refine lv_astore (lv' := [(6, .ref nb), (5, .int 0), (4, .int (nI i)), (3, .ref q), (2, .ref o), (1, .ref x), (0, .ref b)]) FX.1 FX.2.1 dL_law_1688 hl (by decide) rfl (fun ls hl => ?_)
      refine lv_aload_n FX.1 FX.2.1 dL_law_1690 rfl (lv_at hl 4 rfl) ?_
      refine c_RDV (i0 := 5) (ci := 4) FX (r_X2_thrown l D cI cB o bo po (wth_X2_told r1) h j ak' su' gt' lf' rf' kn') mi_X2_thrown rfl ml_RL_280 (RMok.mk) hl.1 rfl (Nat.le_of_ble_eq_true rfl) dL_law_1691 ⟨by omega, by omega⟩ hK hP [5, 6, 7] rfl rfl rfl rfl ?_
      refine lv_iload FX.1 FX.2.1 dL_law_1694 (lv_at hl 1 rfl) ?_
      refine lv_icmp_eq (tgt := 1701) FX.1 FX.2.1 dL_law_1696 (by decide) (fun c_1 => ?_) (fun c_1 => ?_)
      · refine lv_iload FX.1 FX.2.1 dL_law_1701 (lv_at hl 1 rfl) ?_
        refine lv_if_ne (tgt := 1720) FX.1 FX.2.1 dL_law_1703 (by decide) (fun c_2 => ?_) (fun c_2 => ?_)
        · exact absurd c_2 (by decide)
        · refine lv_aload_n FX.1 FX.2.1 dL_law_1706 rfl (lv_at hl 3 rfl) ?_
          refine p_getN (ci := 3) (v := .ref u1.2.2.1) FX inX1 hK hP 8 rfl rfl 1 (by decide) hz.1.2.2 rfl dL_law_1707 ?_
          refine lv_aload FX.1 FX.2.1 dL_law_1710 (lv_at hl 0 rfl) ?_
          refine c_J (W0 := [(u1.2.2.1, .inr (0, [.ref u1.2.2.2.1, .int 0, .int 0, .int 0])), (u1.2.2.2.1, .inl (cB, 4, .inl u1.2.2.2.2))]) (wr := [(x, .inr (2, [.ref bx, .ref px, .ref t, .int ak, .int su, .int gt, .int lf, .int rf, .int kn])), (bx, .inl (cI, 6, .inl f)), (px, .inl (cI, 2, .inl g)), (t, .inr (1, [.ref bt, .int 0, .int u1.1, .int 4])), (bt, .inl (cB, 16, .inl u1.2.1)), (o, .inr (4, [.int (wth_X2_told r1), .ref bo, .ref po, .int ak', .int su', .int gt', .int lf', .int rf', .int kn'])), (bo, .inl (cI, 6, .inl h)), (po, .inl (cI, 2, .inl j)), (q, .inr (3, [.long n0, (.ref u1.2.2.1)]))]) (wsN := fun _ => [(x, .inr (2, [.ref bx, .ref px, .ref t, .int ak, .int su, .int gt, .int lf, .int rf, .int kn])), (bx, .inl (cI, 6, .inl f)), (px, .inl (cI, 2, .inl g)), (t, .inr (1, [.ref bt, .int 0, .int u1.1, .int 4])), (bt, .inl (cB, 16, .inl u1.2.1)), (o, .inr (4, [.int (wth_X2_told r1), .ref bo, .ref po, .int ak', .int su', .int gt', .int lf', .int rf', .int kn'])), (bo, .inl (cI, 6, .inl h)), (po, .inl (cI, 2, .inl j)), (q, .inr (3, [.long n0, (.ref u1.2.2.1)])), (u1.2.2.1, .inr (0, [.ref u1.2.2.2.1, .int 0, .int 0, .int 0])), (u1.2.2.2.1, .inl (cB, 4, .inl u1.2.2.2.2))]) (va_runV FX ((j_J0_equals_B l D cI cB u1.2.2.1 u1.2.2.2.1 nb nw 4 u1.2.2.2.2 nh (by decide) (fun j hj => (hp_1.2 j hj).trans (hnn j hj))) H.size) (my_cwV FX.2.2.2.2 mi_J0_equals_9ea2d ml_RL_284 (RMok.mk)) ⟨PJ.blind (zAnd_ok zC_ok zS_ok), (my_recv (i0 := 9) (ci := 0) hK hP rfl rfl rfl), fun U hU hW => ⟨rfl, my_preJ (zAnd_ok zC_ok zS_ok) ⟨hz.2.1.1, hz.2.2.2.2.1.2⟩ hS hA hK hP hD [9, 10] rfl rfl U hU hW⟩⟩ rfl rfl hl.1 rfl (lv_room (Nat.le_of_ble_eq_true rfl)) dL_law_1712 ⟨by omega, by omega⟩) hP hD hS hA [9, 10] rfl [0, 1, 2, 3, 4, 5, 6, 7, 8] rfl (by decide) [0, 1, 2, 3, 4, 5, 6, 7, 8, 9, 10] (fun _ => rfl) rfl (fun u3 H locs hp_3 hP hD hS => ?_)
          have hP : va_P D KL [(x, .inr (2, [.ref bx, .ref px, .ref t, .int ak, .int su, .int gt, .int lf, .int rf, .int kn])), (bx, .inl (cI, 6, .inl f)), (px, .inl (cI, 2, .inl g)), (t, .inr (1, [.ref bt, .int 0, .int u1.1, .int 4])), (bt, .inl (cB, 16, .inl u1.2.1)), (o, .inr (4, [.int (wth_X2_told r1), .ref bo, .ref po, .int ak', .int su', .int gt', .int lf', .int rf', .int kn'])), (bo, .inl (cI, 6, .inl h)), (po, .inl (cI, 2, .inl j)), (q, .inr (3, [.long n0, (.ref u1.2.2.1)])), (u1.2.2.1, .inr (0, [.ref u1.2.2.2.1, .int 0, .int 0, .int 0])), (u1.2.2.2.1, .inl (cB, 4, .inl u1.2.2.2.2))] H := hP
          have hD : va_D (fun q => s.heap.size ≤ q) [(x, .inr (2, [.ref bx, .ref px, .ref t, .int ak, .int su, .int gt, .int lf, .int rf, .int kn])), (bx, .inl (cI, 6, .inl f)), (px, .inl (cI, 2, .inl g)), (t, .inr (1, [.ref bt, .int 0, .int u1.1, .int 4])), (bt, .inl (cB, 16, .inl u1.2.1)), (o, .inr (4, [.int (wth_X2_told r1), .ref bo, .ref po, .int ak', .int su', .int gt', .int lf', .int rf', .int kn'])), (bo, .inl (cI, 6, .inl h)), (po, .inl (cI, 2, .inl j)), (q, .inr (3, [.long n0, (.ref u1.2.2.1)])), (u1.2.2.1, .inr (0, [.ref u1.2.2.2.1, .int 0, .int 0, .int 0])), (u1.2.2.2.1, .inl (cB, 4, .inl u1.2.2.2.2))] := hD
          refine W.eq (g2 := F0 m 1715 ls [.int 1]) rfl ?_
          refine lv_if_ne (tgt := 1720) FX.1 FX.2.1 dL_law_1715 (by decide) (fun c_3 => ?_) (fun c_3 => ?_)
          · refine lv_goto (tgt := 1830) FX.1 FX.2.1 dL_law_1720 (by decide) ?_
            refine W.widen (k := cc + 33) (n := ss + 321) (by omega) (by omega) ?_
            exact kk H locs f g ak su gt lf rf kn u1.1 4 u1.2.1 (wth_X2_told r1) h j ak' su' gt' lf' rf' kn' n0 (.ref u1.2.2.1) ls hI2 hp_1.1 (by decide) (hP.sub (ws' := [(x, .inr (2, [.ref bx, .ref px, .ref t, .int ak, .int su, .int gt, .int lf, .int rf, .int kn])), (bx, .inl (cI, 6, .inl f)), (px, .inl (cI, 2, .inl g)), (t, .inr (1, [.ref bt, .int 0, .int u1.1, .int 4])), (bt, .inl (cB, 16, .inl u1.2.1)), (o, .inr (4, [.int (wth_X2_told r1), .ref bo, .ref po, .int ak', .int su', .int gt', .int lf', .int rf', .int kn'])), (bo, .inl (cI, 6, .inl h)), (po, .inl (cI, 2, .inl j)), (q, .inr (3, [.long n0, (.ref u1.2.2.1)]))]) [0, 1, 2, 3, 4, 5, 6, 7, 8] rfl) (hD.sub (ws' := [(x, .inr (2, [.ref bx, .ref px, .ref t, .int ak, .int su, .int gt, .int lf, .int rf, .int kn])), (bx, .inl (cI, 6, .inl f)), (px, .inl (cI, 2, .inl g)), (t, .inr (1, [.ref bt, .int 0, .int u1.1, .int 4])), (bt, .inl (cB, 16, .inl u1.2.1)), (o, .inr (4, [.int (wth_X2_told r1), .ref bo, .ref po, .int ak', .int su', .int gt', .int lf', .int rf', .int kn'])), (bo, .inl (cI, 6, .inl h)), (po, .inl (cI, 2, .inl j)), (q, .inr (3, [.long n0, (.ref u1.2.2.1)]))]) [0, 1, 2, 3, 4, 5, 6, 7, 8] (by decide) rfl) hS (lv_sub hl [2, 3, 4, 5, 6] rfl)
          · exact absurd c_3 (by decide)
      · exact absurd eT0 c_1
    · obtain ⟨k, hk1, hk, ek⟩ := size_in hv
      refine c_J (W0 := [(x, .inr (2, [.ref bx, .ref px, .ref t, .int ak, .int su, .int gt, .int lf, .int rf, .int kn])), (bx, .inl (cI, 6, .inl f)), (px, .inl (cI, 2, .inl g)), (t, .inr (1, [.ref bt, .int 0, .int ml, .int cn])), (bt, .inl (cB, 16, .inl bs)), (q, .inr (3, [.long n0, sv]))]) (wr := [(o, .inr (4, [.int th, .ref bo, .ref po, .int ak', .int su', .int gt', .int lf', .int rf', .int kn'])), (bo, .inl (cI, 6, .inl h)), (po, .inl (cI, 2, .inl j))]) (wsN := fun u4 => [(x, .inr (2, [.ref bx, .ref px, .ref t, .int ak, .int su, .int gt, .int lf, .int rf, .int kn])), (bx, .inl (cI, 6, .inl f)), (px, .inl (cI, 2, .inl g)), (t, .inr (1, [.ref bt, .int 0, .int u4.1, .int (nI k)])), (bt, .inl (cB, 16, .inl u4.2.1)), (o, .inr (4, [.int th, .ref bo, .ref po, .int ak', .int su', .int gt', .int lf', .int rf', .int kn'])), (bo, .inl (cI, 6, .inl h)), (po, .inl (cI, 2, .inl j)), (q, .inr (3, [.long n0, (.ref u4.2.2.1)])), (u4.2.2.1, .inr (0, [.ref u4.2.2.2.1, .int 0, .int 0, .int 0])), (u4.2.2.2.1, .inl (cB, k, .inl u4.2.2.2.2))]) (vx_runSW FX ((j_L_told_1 l hl0 D cI cB x bx px t bt f g ak su gt lf rf kn ml cn bs q n0 sv r1 k to tt go gu na nv nf hfn hb hc hE (by rw [hn9]; exact hv) hk (by rw [hn9]; exact ek)) H.size) (my_cwSW FX.2.2.2.2 mh_L_told ml_RL_277 (RMok.mk)) ⟨PJ.blind (zAnd_ok (zAnd_ok (zAnd_ok zz_ok zN_ok) zF_ok) (zAnd_ok zC_ok (zAnd_ok (zAnd_ok zDg_ok zDg_ok) (zAnd_ok zR_ok zS_ok)))), fun U hU hW => ⟨rfl, my_preJ (zAnd_ok (zAnd_ok (zAnd_ok zz_ok zN_ok) zF_ok) (zAnd_ok zC_ok (zAnd_ok (zAnd_ok zDg_ok zDg_ok) (zAnd_ok zR_ok zS_ok)))) ⟨⟨hz.1.1, hz.1.2.2⟩, hz.2.1⟩ hS hA hK hP hD [0, 1, 2, 3, 4, 8] rfl rfl U hU hW⟩⟩ rfl rfl hl.1 rfl (lv_room (Nat.le_of_ble_eq_true rfl)) dL_law_1673 ⟨by omega, by omega⟩) hP hD hS hA [0, 1, 2, 3, 4, 8] rfl [5, 6, 7] rfl (by decide) [3, 4, 5, 6, 7, 0, 1, 2, 8, 9, 10] (fun _ => rfl) rfl (fun u4 H locs hp_4 hP hD hS => ?_)
      have hP : va_P D KL [(x, .inr (2, [.ref bx, .ref px, .ref t, .int ak, .int su, .int gt, .int lf, .int rf, .int kn])), (bx, .inl (cI, 6, .inl f)), (px, .inl (cI, 2, .inl g)), (t, .inr (1, [.ref bt, .int 0, .int u4.1, .int (nI k)])), (bt, .inl (cB, 16, .inl u4.2.1)), (o, .inr (4, [.int th, .ref bo, .ref po, .int ak', .int su', .int gt', .int lf', .int rf', .int kn'])), (bo, .inl (cI, 6, .inl h)), (po, .inl (cI, 2, .inl j)), (q, .inr (3, [.long n0, (.ref u4.2.2.1)])), (u4.2.2.1, .inr (0, [.ref u4.2.2.2.1, .int 0, .int 0, .int 0])), (u4.2.2.2.1, .inl (cB, k, .inl u4.2.2.2.2))] H := hP
      have hD : va_D (fun q => s.heap.size ≤ q) [(x, .inr (2, [.ref bx, .ref px, .ref t, .int ak, .int su, .int gt, .int lf, .int rf, .int kn])), (bx, .inl (cI, 6, .inl f)), (px, .inl (cI, 2, .inl g)), (t, .inr (1, [.ref bt, .int 0, .int u4.1, .int (nI k)])), (bt, .inl (cB, 16, .inl u4.2.1)), (o, .inr (4, [.int th, .ref bo, .ref po, .int ak', .int su', .int gt', .int lf', .int rf', .int kn'])), (bo, .inl (cI, 6, .inl h)), (po, .inl (cI, 2, .inl j)), (q, .inr (3, [.long n0, (.ref u4.2.2.1)])), (u4.2.2.1, .inr (0, [.ref u4.2.2.2.1, .int 0, .int 0, .int 0])), (u4.2.2.2.1, .inl (cB, k, .inl u4.2.2.2.2))] := hD
      refine W.eq (g2 := F0 m 1676 ls [.int 0]) rfl ?_
      refine lv_istore (lv' := [(5, .int 0), (4, .int (nI i)), (3, .ref q), (2, .ref o), (1, .ref x), (0, .ref b)]) FX.1 FX.2.1 dL_law_1676 hl (by decide) rfl (fun ls hl => ?_)
      refine lv_aload_n FX.1 FX.2.1 dL_law_1678 rfl (lv_at hl 3 rfl) ?_
      refine p_rd (k := 1) (v := r1) FX hX hbl hbA hS (lv_at hl 5 rfl) (lv_at hl 1 rfl) dL_law_1679 dL_law_1680 dL_law_1682 dL_law_1683 dL_law_1684 rfl hin1 ey1 ?_
      obtain ⟨eT, eA, hI2⟩ := st_told r1 n0 hI
      have eT0 : wth_X2_told r1 = 0 := eT.trans (if_pos hE)
      refine c_J (W0 := [(o, .inr (4, [.int th, .ref bo, .ref po, .int ak', .int su', .int gt', .int lf', .int rf', .int kn'])), (bo, .inl (cI, 6, .inl h)), (po, .inl (cI, 2, .inl j))]) (wr := [(x, .inr (2, [.ref bx, .ref px, .ref t, .int ak, .int su, .int gt, .int lf, .int rf, .int kn])), (bx, .inl (cI, 6, .inl f)), (px, .inl (cI, 2, .inl g)), (t, .inr (1, [.ref bt, .int 0, .int u4.1, .int (nI k)])), (bt, .inl (cB, 16, .inl u4.2.1)), (q, .inr (3, [.long n0, (.ref u4.2.2.1)])), (u4.2.2.1, .inr (0, [.ref u4.2.2.2.1, .int 0, .int 0, .int 0])), (u4.2.2.2.1, .inl (cB, k, .inl u4.2.2.2.2))]) (wsN := fun u5 => [(x, .inr (2, [.ref bx, .ref px, .ref t, .int ak, .int su, .int gt, .int lf, .int rf, .int kn])), (bx, .inl (cI, 6, .inl f)), (px, .inl (cI, 2, .inl g)), (t, .inr (1, [.ref bt, .int 0, .int u4.1, .int (nI k)])), (bt, .inl (cB, 16, .inl u4.2.1)), (o, .inr (4, [.int (wth_X2_told r1), .ref bo, .ref po, .int ak', .int su', .int gt', .int lf', .int rf', .int kn'])), (bo, .inl (cI, 6, .inl h)), (po, .inl (cI, 2, .inl j)), (q, .inr (3, [.long n0, (.ref u4.2.2.1)])), (u4.2.2.1, .inr (0, [.ref u4.2.2.2.1, .int 0, .int 0, .int 0])), (u4.2.2.2.1, .inl (cB, k, .inl u4.2.2.2.2)), (u5.1, .inr (0, [.ref u5.2.1, .int 0, .int 0, .int 0])), (u5.2.1, .inl (cB, k, .inl u5.2.2))]) (va_runV FX ((j_X2_told_1 l D cI cB o bo po th h j ak' su' gt' lf' rf' kn' r1 k to tt go gu nb nw nh ea ew ef hF hv hk ek hfe) H.size) (my_cwV FX.2.2.2.2 mi_X2_told ml_RL_279 (RMok.mk)) ⟨PJ.blind (zAnd_ok zC_ok (zAnd_ok (zAnd_ok zDg_ok zDg_ok) (zAnd_ok (zAnd_ok zR_ok zS_ok) (zAnd_ok zR_ok zS_ok)))), (my_recv (i0 := 5) (ci := 4) hK hP rfl rfl rfl), fun U hU hW => ⟨rfl, my_preJ (zAnd_ok zC_ok (zAnd_ok (zAnd_ok zDg_ok zDg_ok) (zAnd_ok (zAnd_ok zR_ok zS_ok) (zAnd_ok zR_ok zS_ok)))) hz.2.2 hS hA hK hP hD [5, 6, 7] rfl rfl U hU hW⟩⟩ rfl rfl hl.1 rfl (lv_room (Nat.le_of_ble_eq_true rfl)) dL_law_1685 ⟨by omega, by omega⟩) hP hD hS hA [5, 6, 7] rfl [0, 1, 2, 3, 4, 8, 9, 10] rfl (by decide) [0, 1, 2, 3, 4, 8, 9, 10, 5, 6, 7, 11, 12] (fun _ => rfl) rfl (fun u5 H locs hp_5 hP hD hS => ?_)
      have hP : va_P D KL [(x, .inr (2, [.ref bx, .ref px, .ref t, .int ak, .int su, .int gt, .int lf, .int rf, .int kn])), (bx, .inl (cI, 6, .inl f)), (px, .inl (cI, 2, .inl g)), (t, .inr (1, [.ref bt, .int 0, .int u4.1, .int (nI k)])), (bt, .inl (cB, 16, .inl u4.2.1)), (o, .inr (4, [.int (wth_X2_told r1), .ref bo, .ref po, .int ak', .int su', .int gt', .int lf', .int rf', .int kn'])), (bo, .inl (cI, 6, .inl h)), (po, .inl (cI, 2, .inl j)), (q, .inr (3, [.long n0, (.ref u4.2.2.1)])), (u4.2.2.1, .inr (0, [.ref u4.2.2.2.1, .int 0, .int 0, .int 0])), (u4.2.2.2.1, .inl (cB, k, .inl u4.2.2.2.2)), (u5.1, .inr (0, [.ref u5.2.1, .int 0, .int 0, .int 0])), (u5.2.1, .inl (cB, k, .inl u5.2.2))] H := hP
      have hD : va_D (fun q => s.heap.size ≤ q) [(x, .inr (2, [.ref bx, .ref px, .ref t, .int ak, .int su, .int gt, .int lf, .int rf, .int kn])), (bx, .inl (cI, 6, .inl f)), (px, .inl (cI, 2, .inl g)), (t, .inr (1, [.ref bt, .int 0, .int u4.1, .int (nI k)])), (bt, .inl (cB, 16, .inl u4.2.1)), (o, .inr (4, [.int (wth_X2_told r1), .ref bo, .ref po, .int ak', .int su', .int gt', .int lf', .int rf', .int kn'])), (bo, .inl (cI, 6, .inl h)), (po, .inl (cI, 2, .inl j)), (q, .inr (3, [.long n0, (.ref u4.2.2.1)])), (u4.2.2.1, .inr (0, [.ref u4.2.2.2.1, .int 0, .int 0, .int 0])), (u4.2.2.2.1, .inl (cB, k, .inl u4.2.2.2.2)), (u5.1, .inr (0, [.ref u5.2.1, .int 0, .int 0, .int 0])), (u5.2.1, .inl (cB, k, .inl u5.2.2))] := hD
      refine W.eq (g2 := F0 m 1688 ls [.ref u5.1]) rfl ?_
      refine lv_astore (lv' := [(6, .ref u5.1), (5, .int 0), (4, .int (nI i)), (3, .ref q), (2, .ref o), (1, .ref x), (0, .ref b)]) FX.1 FX.2.1 dL_law_1688 hl (by decide) rfl (fun ls hl => ?_)
      refine lv_aload_n FX.1 FX.2.1 dL_law_1690 rfl (lv_at hl 4 rfl) ?_
      refine c_RDV (i0 := 5) (ci := 4) FX (r_X2_thrown l D cI cB o bo po (wth_X2_told r1) h j ak' su' gt' lf' rf' kn') mi_X2_thrown rfl ml_RL_280 (RMok.mk) hl.1 rfl (Nat.le_of_ble_eq_true rfl) dL_law_1691 ⟨by omega, by omega⟩ hK hP [5, 6, 7] rfl rfl rfl rfl ?_
      refine lv_iload FX.1 FX.2.1 dL_law_1694 (lv_at hl 1 rfl) ?_
      refine lv_icmp_eq (tgt := 1701) FX.1 FX.2.1 dL_law_1696 (by decide) (fun c_4 => ?_) (fun c_4 => ?_)
      · refine lv_iload FX.1 FX.2.1 dL_law_1701 (lv_at hl 1 rfl) ?_
        refine lv_if_ne (tgt := 1720) FX.1 FX.2.1 dL_law_1703 (by decide) (fun c_5 => ?_) (fun c_5 => ?_)
        · exact absurd c_5 (by decide)
        · refine lv_aload_n FX.1 FX.2.1 dL_law_1706 rfl (lv_at hl 3 rfl) ?_
          refine p_getN (ci := 3) (v := .ref u4.2.2.1) FX inX1 hK hP 8 rfl rfl 1 (by decide) hz.1.2.2 rfl dL_law_1707 ?_
          refine lv_aload FX.1 FX.2.1 dL_law_1710 (lv_at hl 0 rfl) ?_
          refine c_J (W0 := [(u4.2.2.1, .inr (0, [.ref u4.2.2.2.1, .int 0, .int 0, .int 0])), (u4.2.2.2.1, .inl (cB, k, .inl u4.2.2.2.2)), (u5.1, .inr (0, [.ref u5.2.1, .int 0, .int 0, .int 0])), (u5.2.1, .inl (cB, k, .inl u5.2.2))]) (wr := [(x, .inr (2, [.ref bx, .ref px, .ref t, .int ak, .int su, .int gt, .int lf, .int rf, .int kn])), (bx, .inl (cI, 6, .inl f)), (px, .inl (cI, 2, .inl g)), (t, .inr (1, [.ref bt, .int 0, .int u4.1, .int (nI k)])), (bt, .inl (cB, 16, .inl u4.2.1)), (o, .inr (4, [.int (wth_X2_told r1), .ref bo, .ref po, .int ak', .int su', .int gt', .int lf', .int rf', .int kn'])), (bo, .inl (cI, 6, .inl h)), (po, .inl (cI, 2, .inl j)), (q, .inr (3, [.long n0, (.ref u4.2.2.1)]))]) (wsN := fun _ => [(x, .inr (2, [.ref bx, .ref px, .ref t, .int ak, .int su, .int gt, .int lf, .int rf, .int kn])), (bx, .inl (cI, 6, .inl f)), (px, .inl (cI, 2, .inl g)), (t, .inr (1, [.ref bt, .int 0, .int u4.1, .int (nI k)])), (bt, .inl (cB, 16, .inl u4.2.1)), (o, .inr (4, [.int (wth_X2_told r1), .ref bo, .ref po, .int ak', .int su', .int gt', .int lf', .int rf', .int kn'])), (bo, .inl (cI, 6, .inl h)), (po, .inl (cI, 2, .inl j)), (q, .inr (3, [.long n0, (.ref u4.2.2.1)])), (u4.2.2.1, .inr (0, [.ref u4.2.2.2.1, .int 0, .int 0, .int 0])), (u4.2.2.2.1, .inl (cB, k, .inl u4.2.2.2.2)), (u5.1, .inr (0, [.ref u5.2.1, .int 0, .int 0, .int 0])), (u5.2.1, .inl (cB, k, .inl u5.2.2))]) (va_runV FX ((j_J0_equals_A l D cI cB u4.2.2.1 u4.2.2.2.1 u5.1 u5.2.1 k u4.2.2.2.2 u5.2.2 hk (fun j hj => (hp_4.2 j hj).trans ((congrArg (fun z => tc z go gu j) hn9).trans (hp_5 j hj).symm))) H.size) (my_cwV FX.2.2.2.2 mi_J0_equals_9ea2d ml_RL_284 (RMok.mk)) ⟨PJ.blind zC_ok, (my_recv (i0 := 9) (ci := 0) hK hP rfl rfl rfl), fun U hU hW => ⟨rfl, my_preJ zC_ok hz.2.1.1 hS hA hK hP hD [9, 10, 11, 12] rfl rfl U hU hW⟩⟩ rfl rfl hl.1 rfl (lv_room (Nat.le_of_ble_eq_true rfl)) dL_law_1712 ⟨by omega, by omega⟩) hP hD hS hA [9, 10, 11, 12] rfl [0, 1, 2, 3, 4, 5, 6, 7, 8] rfl (by decide) [0, 1, 2, 3, 4, 5, 6, 7, 8, 9, 10, 11, 12] (fun _ => rfl) rfl (fun u6 H locs hp_6 hP hD hS => ?_)
          have hP : va_P D KL [(x, .inr (2, [.ref bx, .ref px, .ref t, .int ak, .int su, .int gt, .int lf, .int rf, .int kn])), (bx, .inl (cI, 6, .inl f)), (px, .inl (cI, 2, .inl g)), (t, .inr (1, [.ref bt, .int 0, .int u4.1, .int (nI k)])), (bt, .inl (cB, 16, .inl u4.2.1)), (o, .inr (4, [.int (wth_X2_told r1), .ref bo, .ref po, .int ak', .int su', .int gt', .int lf', .int rf', .int kn'])), (bo, .inl (cI, 6, .inl h)), (po, .inl (cI, 2, .inl j)), (q, .inr (3, [.long n0, (.ref u4.2.2.1)])), (u4.2.2.1, .inr (0, [.ref u4.2.2.2.1, .int 0, .int 0, .int 0])), (u4.2.2.2.1, .inl (cB, k, .inl u4.2.2.2.2)), (u5.1, .inr (0, [.ref u5.2.1, .int 0, .int 0, .int 0])), (u5.2.1, .inl (cB, k, .inl u5.2.2))] H := hP
          have hD : va_D (fun q => s.heap.size ≤ q) [(x, .inr (2, [.ref bx, .ref px, .ref t, .int ak, .int su, .int gt, .int lf, .int rf, .int kn])), (bx, .inl (cI, 6, .inl f)), (px, .inl (cI, 2, .inl g)), (t, .inr (1, [.ref bt, .int 0, .int u4.1, .int (nI k)])), (bt, .inl (cB, 16, .inl u4.2.1)), (o, .inr (4, [.int (wth_X2_told r1), .ref bo, .ref po, .int ak', .int su', .int gt', .int lf', .int rf', .int kn'])), (bo, .inl (cI, 6, .inl h)), (po, .inl (cI, 2, .inl j)), (q, .inr (3, [.long n0, (.ref u4.2.2.1)])), (u4.2.2.1, .inr (0, [.ref u4.2.2.2.1, .int 0, .int 0, .int 0])), (u4.2.2.2.1, .inl (cB, k, .inl u4.2.2.2.2)), (u5.1, .inr (0, [.ref u5.2.1, .int 0, .int 0, .int 0])), (u5.2.1, .inl (cB, k, .inl u5.2.2))] := hD
          refine W.eq (g2 := F0 m 1715 ls [.int 1]) rfl ?_
          refine lv_if_ne (tgt := 1720) FX.1 FX.2.1 dL_law_1715 (by decide) (fun c_6 => ?_) (fun c_6 => ?_)
          · refine lv_goto (tgt := 1830) FX.1 FX.2.1 dL_law_1720 (by decide) ?_
            refine W.widen (k := cc + 33) (n := ss + 321) (by omega) (by omega) ?_
            exact kk H locs f g ak su gt lf rf kn u4.1 (nI k) u4.2.1 (wth_X2_told r1) h j ak' su' gt' lf' rf' kn' n0 (.ref u4.2.2.1) ls hI2 hp_4.1 (nk0 hk) (hP.sub (ws' := [(x, .inr (2, [.ref bx, .ref px, .ref t, .int ak, .int su, .int gt, .int lf, .int rf, .int kn])), (bx, .inl (cI, 6, .inl f)), (px, .inl (cI, 2, .inl g)), (t, .inr (1, [.ref bt, .int 0, .int u4.1, .int (nI k)])), (bt, .inl (cB, 16, .inl u4.2.1)), (o, .inr (4, [.int (wth_X2_told r1), .ref bo, .ref po, .int ak', .int su', .int gt', .int lf', .int rf', .int kn'])), (bo, .inl (cI, 6, .inl h)), (po, .inl (cI, 2, .inl j)), (q, .inr (3, [.long n0, (.ref u4.2.2.1)]))]) [0, 1, 2, 3, 4, 5, 6, 7, 8] rfl) (hD.sub (ws' := [(x, .inr (2, [.ref bx, .ref px, .ref t, .int ak, .int su, .int gt, .int lf, .int rf, .int kn])), (bx, .inl (cI, 6, .inl f)), (px, .inl (cI, 2, .inl g)), (t, .inr (1, [.ref bt, .int 0, .int u4.1, .int (nI k)])), (bt, .inl (cB, 16, .inl u4.2.1)), (o, .inr (4, [.int (wth_X2_told r1), .ref bo, .ref po, .int ak', .int su', .int gt', .int lf', .int rf', .int kn'])), (bo, .inl (cI, 6, .inl h)), (po, .inl (cI, 2, .inl j)), (q, .inr (3, [.long n0, (.ref u4.2.2.1)]))]) [0, 1, 2, 3, 4, 5, 6, 7, 8] (by decide) rfl) hS (lv_sub hl [2, 3, 4, 5, 6] rfl)
          · exact absurd c_6 (by decide)
      · exact absurd eT0 c_4
  · have hF := told_x hE
    refine c_J (W0 := [(x, .inr (2, [.ref bx, .ref px, .ref t, .int ak, .int su, .int gt, .int lf, .int rf, .int kn])), (bx, .inl (cI, 6, .inl f)), (px, .inl (cI, 2, .inl g)), (t, .inr (1, [.ref bt, .int 0, .int ml, .int cn])), (bt, .inl (cB, 16, .inl bs)), (q, .inr (3, [.long n0, sv]))]) (wr := [(o, .inr (4, [.int th, .ref bo, .ref po, .int ak', .int su', .int gt', .int lf', .int rf', .int kn'])), (bo, .inl (cI, 6, .inl h)), (po, .inl (cI, 2, .inl j))]) (wsN := fun _ => [(x, .inr (2, [.ref bx, .ref px, .ref t, .int ak, .int su, .int gt, .int lf, .int rf, .int kn])), (bx, .inl (cI, 6, .inl f)), (px, .inl (cI, 2, .inl g)), (t, .inr (1, [.ref bt, .int 0, .int ml, .int cn])), (bt, .inl (cB, 16, .inl bs)), (o, .inr (4, [.int th, .ref bo, .ref po, .int ak', .int su', .int gt', .int lf', .int rf', .int kn'])), (bo, .inl (cI, 6, .inl h)), (po, .inl (cI, 2, .inl j)), (q, .inr (3, [.long n0, sv]))]) (vx_runSW FX ((j_L_told_x l hl0 D cI cB x bx px t bt f g ak su gt lf rf kn ml cn bs q n0 sv r1 to tt go gu na nv nf hE) H.size) (my_cwSW FX.2.2.2.2 mh_L_told ml_RL_277 (RMok.mk)) ⟨PJ.blind (zAnd_ok (zAnd_ok (zAnd_ok zz_ok zN_ok) zF_ok) (zAnd_ok zC_ok (zAnd_ok (zAnd_ok zDg_ok zDg_ok) (zAnd_ok zR_ok zS_ok)))), fun U hU hW => ⟨rfl, my_preJ (zAnd_ok (zAnd_ok (zAnd_ok zz_ok zN_ok) zF_ok) (zAnd_ok zC_ok (zAnd_ok (zAnd_ok zDg_ok zDg_ok) (zAnd_ok zR_ok zS_ok)))) ⟨⟨hz.1.1, hz.1.2.2⟩, hz.2.1⟩ hS hA hK hP hD [0, 1, 2, 3, 4, 8] rfl rfl U hU hW⟩⟩ rfl rfl hl.1 rfl (lv_room (Nat.le_of_ble_eq_true rfl)) dL_law_1673 ⟨by omega, by omega⟩) hP hD hS hA [0, 1, 2, 3, 4, 8] rfl [5, 6, 7] rfl (by decide) [3, 4, 5, 6, 7, 0, 1, 2, 8] (fun _ => rfl) rfl (fun u7 H locs hp_7 hP hD hS => ?_)
    have hP : va_P D KL [(x, .inr (2, [.ref bx, .ref px, .ref t, .int ak, .int su, .int gt, .int lf, .int rf, .int kn])), (bx, .inl (cI, 6, .inl f)), (px, .inl (cI, 2, .inl g)), (t, .inr (1, [.ref bt, .int 0, .int ml, .int cn])), (bt, .inl (cB, 16, .inl bs)), (o, .inr (4, [.int th, .ref bo, .ref po, .int ak', .int su', .int gt', .int lf', .int rf', .int kn'])), (bo, .inl (cI, 6, .inl h)), (po, .inl (cI, 2, .inl j)), (q, .inr (3, [.long n0, sv]))] H := hP
    have hD : va_D (fun q => s.heap.size ≤ q) [(x, .inr (2, [.ref bx, .ref px, .ref t, .int ak, .int su, .int gt, .int lf, .int rf, .int kn])), (bx, .inl (cI, 6, .inl f)), (px, .inl (cI, 2, .inl g)), (t, .inr (1, [.ref bt, .int 0, .int ml, .int cn])), (bt, .inl (cB, 16, .inl bs)), (o, .inr (4, [.int th, .ref bo, .ref po, .int ak', .int su', .int gt', .int lf', .int rf', .int kn'])), (bo, .inl (cI, 6, .inl h)), (po, .inl (cI, 2, .inl j)), (q, .inr (3, [.long n0, sv]))] := hD
    refine W.eq (g2 := F0 m 1676 ls [.int 1]) rfl ?_
    refine lv_istore (lv' := [(5, .int 1), (4, .int (nI i)), (3, .ref q), (2, .ref o), (1, .ref x), (0, .ref b)]) FX.1 FX.2.1 dL_law_1676 hl (by decide) rfl (fun ls hl => ?_)
    refine lv_aload_n FX.1 FX.2.1 dL_law_1678 rfl (lv_at hl 3 rfl) ?_
    refine p_rd (k := 1) (v := r1) FX hX hbl hbA hS (lv_at hl 5 rfl) (lv_at hl 1 rfl) dL_law_1679 dL_law_1680 dL_law_1682 dL_law_1683 dL_law_1684 rfl hin1 ey1 ?_
    obtain ⟨eT, eA, hI2⟩ := st_told r1 n0 hI
    have eT0 : wth_X2_told r1 = 1 := eT.trans (if_neg hE)
    refine c_J (W0 := [(o, .inr (4, [.int th, .ref bo, .ref po, .int ak', .int su', .int gt', .int lf', .int rf', .int kn'])), (bo, .inl (cI, 6, .inl h)), (po, .inl (cI, 2, .inl j))]) (wr := [(x, .inr (2, [.ref bx, .ref px, .ref t, .int ak, .int su, .int gt, .int lf, .int rf, .int kn])), (bx, .inl (cI, 6, .inl f)), (px, .inl (cI, 2, .inl g)), (t, .inr (1, [.ref bt, .int 0, .int ml, .int cn])), (bt, .inl (cB, 16, .inl bs)), (q, .inr (3, [.long n0, sv]))]) (wsN := fun _ => [(x, .inr (2, [.ref bx, .ref px, .ref t, .int ak, .int su, .int gt, .int lf, .int rf, .int kn])), (bx, .inl (cI, 6, .inl f)), (px, .inl (cI, 2, .inl g)), (t, .inr (1, [.ref bt, .int 0, .int ml, .int cn])), (bt, .inl (cB, 16, .inl bs)), (o, .inr (4, [.int (wth_X2_told r1), .ref bo, .ref po, .int ak', .int su', .int gt', .int lf', .int rf', .int kn'])), (bo, .inl (cI, 6, .inl h)), (po, .inl (cI, 2, .inl j)), (q, .inr (3, [.long n0, sv]))]) (va_runV FX ((j_X2_told_f l D cI cB o bo po th h j ak' su' gt' lf' rf' kn' r1 to tt go gu nb nw nh ea ew ef hF) H.size) (my_cwV FX.2.2.2.2 mi_X2_told ml_RL_279 (RMok.mk)) ⟨PJ.blind (zAnd_ok zC_ok (zAnd_ok (zAnd_ok zDg_ok zDg_ok) (zAnd_ok (zAnd_ok zR_ok zS_ok) (zAnd_ok zR_ok zS_ok)))), (my_recv (i0 := 5) (ci := 4) hK hP rfl rfl rfl), fun U hU hW => ⟨rfl, my_preJ (zAnd_ok zC_ok (zAnd_ok (zAnd_ok zDg_ok zDg_ok) (zAnd_ok (zAnd_ok zR_ok zS_ok) (zAnd_ok zR_ok zS_ok)))) hz.2.2 hS hA hK hP hD [5, 6, 7] rfl rfl U hU hW⟩⟩ rfl rfl hl.1 rfl (lv_room (Nat.le_of_ble_eq_true rfl)) dL_law_1685 ⟨by omega, by omega⟩) hP hD hS hA [5, 6, 7] rfl [0, 1, 2, 3, 4, 8] rfl (by decide) [0, 1, 2, 3, 4, 6, 7, 8, 5] (fun _ => rfl) rfl (fun u8 H locs hp_8 hP hD hS => ?_)
    have hP : va_P D KL [(x, .inr (2, [.ref bx, .ref px, .ref t, .int ak, .int su, .int gt, .int lf, .int rf, .int kn])), (bx, .inl (cI, 6, .inl f)), (px, .inl (cI, 2, .inl g)), (t, .inr (1, [.ref bt, .int 0, .int ml, .int cn])), (bt, .inl (cB, 16, .inl bs)), (o, .inr (4, [.int (wth_X2_told r1), .ref bo, .ref po, .int ak', .int su', .int gt', .int lf', .int rf', .int kn'])), (bo, .inl (cI, 6, .inl h)), (po, .inl (cI, 2, .inl j)), (q, .inr (3, [.long n0, sv]))] H := hP
    have hD : va_D (fun q => s.heap.size ≤ q) [(x, .inr (2, [.ref bx, .ref px, .ref t, .int ak, .int su, .int gt, .int lf, .int rf, .int kn])), (bx, .inl (cI, 6, .inl f)), (px, .inl (cI, 2, .inl g)), (t, .inr (1, [.ref bt, .int 0, .int ml, .int cn])), (bt, .inl (cB, 16, .inl bs)), (o, .inr (4, [.int (wth_X2_told r1), .ref bo, .ref po, .int ak', .int su', .int gt', .int lf', .int rf', .int kn'])), (bo, .inl (cI, 6, .inl h)), (po, .inl (cI, 2, .inl j)), (q, .inr (3, [.long n0, sv]))] := hD
    refine W.eq (g2 := F0 m 1688 ls [.ref ea]) rfl ?_
    refine lv_astore (lv' := [(6, .ref ea), (5, .int 1), (4, .int (nI i)), (3, .ref q), (2, .ref o), (1, .ref x), (0, .ref b)]) FX.1 FX.2.1 dL_law_1688 hl (by decide) rfl (fun ls hl => ?_)
    refine lv_aload_n FX.1 FX.2.1 dL_law_1690 rfl (lv_at hl 4 rfl) ?_
    refine c_RDV (i0 := 5) (ci := 4) FX (r_X2_thrown l D cI cB o bo po (wth_X2_told r1) h j ak' su' gt' lf' rf' kn') mi_X2_thrown rfl ml_RL_280 (RMok.mk) hl.1 rfl (Nat.le_of_ble_eq_true rfl) dL_law_1691 ⟨by omega, by omega⟩ hK hP [5, 6, 7] rfl rfl rfl rfl ?_
    refine lv_iload FX.1 FX.2.1 dL_law_1694 (lv_at hl 1 rfl) ?_
    refine lv_icmp_eq (tgt := 1701) FX.1 FX.2.1 dL_law_1696 (by decide) (fun c_7 => ?_) (fun c_7 => ?_)
    · refine lv_iload FX.1 FX.2.1 dL_law_1701 (lv_at hl 1 rfl) ?_
      refine lv_if_ne (tgt := 1720) FX.1 FX.2.1 dL_law_1703 (by decide) (fun c_8 => ?_) (fun c_8 => ?_)
      · refine lv_goto (tgt := 1830) FX.1 FX.2.1 dL_law_1720 (by decide) ?_
        refine W.widen (k := cc + 33) (n := ss + 321) (by omega) (by omega) ?_
        exact kk H locs f g ak su gt lf rf kn ml cn bs (wth_X2_told r1) h j ak' su' gt' lf' rf' kn' n0 sv ls hI2 hb hc hP hD hS (lv_sub hl [2, 3, 4, 5, 6] rfl)
      · exact absurd c_8 (by decide)
    · exact absurd eT0 c_7
set_option maxRecDepth 100000 in
set_option maxHeartbeats 4000000 in
theorem case_38 {p : Program} {l : Launch} {e : Env} {s : State} {m : MethodId} {below : List Frame} {meth : Method} {c : Code} (hl0 : l.stackTraces = false) (D : va_G) (cI cB : ClassId) (b L : Nat) (xs : Nat → Int32) (x bx px t bt o bo po q : Nat) (to tt : Nat) (go gu : Nat → Int32) (na nv : Nat) (nf : Nat → Int32) (nb nw : Nat) (nh : Nat → Int32) (ea ew : Nat) (ef : Nat → Int32) (i cc ss : Nat) (hi : i + 6 ≤ L) (hcc : cc + 33 ≤ room_1.cells) (hss : ss + 321 ≤ room_1.slots) (hL : L ≤ 3072) (FX : CallFix p m c cL_law 7 s #[.ref b] bigW RL) (hK : va_K D KL (TY cI cB) s) (hX : va_X b L xs s s.heap) (hbl : b < s.heap.size) (hz : zLaw to tt go gu na nv nf nb nw nh ea ew ef (fun q => s.heap.size ≤ q) s s.heap) (hfn : sb_Fit nf) (hfe : sb_Fit ef) (hnn : TL 4 nf nh) (kk : LGo p l e s m below meth c D cI cB b x bx px t bt o bo po q i 1830 (cc + 33) (ss + 321)) : LGo p l e s m below meth c D cI cB b x bx px t bt o bo po q i 1723 cc ss := by
  intro H locs f g ak su gt lf rf kn ml cn bs th h j ak' su' gt' lf' rf' kn' n0 sv ls hI hb hc hP hD hS hl
  have hA : ∀ q : Nat, s.heap.size ≤ q → s.heap.size ≤ q := fun _ h => h
  have hbA : ¬ (fun q : Nat => s.heap.size ≤ q) b := Nat.not_le.mpr hbl
  obtain ⟨r1, ey1⟩ : ∃ y, xs (i + 1) = y := ⟨_, rfl⟩
  have hin1 : i + 1 < L ∧ L < 2 ^ 31 := ⟨by omega, by omega⟩
  obtain ⟨r2, ey2⟩ : ∃ y, xs (i + 2) = y := ⟨_, rfl⟩
  have hin2 : i + 2 < L ∧ L < 2 ^ 31 := ⟨by omega, by omega⟩
  have hl : lv_has ls 7 [(4, .int (nI i)), (3, .ref q), (2, .ref o), (1, .ref x), (0, .ref b)] := hl
  have hP : va_P D KL [(x, .inr (2, [.ref bx, .ref px, .ref t, .int ak, .int su, .int gt, .int lf, .int rf, .int kn])), (bx, .inl (cI, 6, .inl f)), (px, .inl (cI, 2, .inl g)), (t, .inr (1, [.ref bt, .int 0, .int ml, .int cn])), (bt, .inl (cB, 16, .inl bs)), (o, .inr (4, [.int th, .ref bo, .ref po, .int ak', .int su', .int gt', .int lf', .int rf', .int kn'])), (bo, .inl (cI, 6, .inl h)), (po, .inl (cI, 2, .inl j)), (q, .inr (3, [.long n0, sv]))] H := hP
  have hD : va_D (fun q => s.heap.size ≤ q) [(x, .inr (2, [.ref bx, .ref px, .ref t, .int ak, .int su, .int gt, .int lf, .int rf, .int kn])), (bx, .inl (cI, 6, .inl f)), (px, .inl (cI, 2, .inl g)), (t, .inr (1, [.ref bt, .int 0, .int ml, .int cn])), (bt, .inl (cB, 16, .inl bs)), (o, .inr (4, [.int th, .ref bo, .ref po, .int ak', .int su', .int gt', .int lf', .int rf', .int kn'])), (bo, .inl (cI, 6, .inl h)), (po, .inl (cI, 2, .inl j)), (q, .inr (3, [.long n0, sv]))] := hD
  refine lv_aload_n FX.1 FX.2.1 dL_law_1723 rfl (lv_at hl 3 rfl) ?_
  refine p_rd (k := 1) (v := r1) FX hX hbl hbA hS (lv_at hl 4 rfl) (lv_at hl 0 rfl) dL_law_1724 dL_law_1725 dL_law_1727 dL_law_1728 dL_law_1729 rfl hin1 ey1 ?_
  refine p_rd (k := 2) (v := r2) FX hX hbl hbA hS (lv_at hl 4 rfl) (lv_at hl 0 rfl) dL_law_1730 dL_law_1731 dL_law_1733 dL_law_1734 dL_law_1735 rfl hin2 ey2 ?_
  refine lv_aload_n FX.1 FX.2.1 dL_law_1736 rfl (lv_at hl 1 rfl) ?_
  refine c_J (W0 := [(x, .inr (2, [.ref bx, .ref px, .ref t, .int ak, .int su, .int gt, .int lf, .int rf, .int kn])), (bx, .inl (cI, 6, .inl f)), (px, .inl (cI, 2, .inl g)), (q, .inr (3, [.long n0, sv]))]) (wr := [(t, .inr (1, [.ref bt, .int 0, .int ml, .int cn])), (bt, .inl (cB, 16, .inl bs)), (o, .inr (4, [.int th, .ref bo, .ref po, .int ak', .int su', .int gt', .int lf', .int rf', .int kn'])), (bo, .inl (cI, 6, .inl h)), (po, .inl (cI, 2, .inl j))]) (wsN := fun _ => [(x, .inr (2, [.ref bx, .ref px, .ref t, .int ak, .int su, .int gt, .int lf, .int rf, .int kn])), (bx, .inl (cI, 6, .inl f)), (px, .inl (cI, 2, .inl g)), (t, .inr (1, [.ref bt, .int 0, .int ml, .int cn])), (bt, .inl (cB, 16, .inl bs)), (o, .inr (4, [.int th, .ref bo, .ref po, .int ak', .int su', .int gt', .int lf', .int rf', .int kn'])), (bo, .inl (cI, 6, .inl h)), (po, .inl (cI, 2, .inl j)), (q, .inr (3, [.long (hn_place r1 r2 n0), sv]))]) (vx_runSW FX ((j_L_place l hl0 D cI cB x bx px t f g ak su gt lf rf kn q n0 sv r1 r2) H.size) (my_cwSW FX.2.2.2.2 mh_L_place ml_RL_290 (RMok.mk)) ⟨PJ.blind (zAnd_ok (zAnd_ok zz_ok zN_ok) zF_ok), fun U hU hW => ⟨rfl, my_preJ (zAnd_ok (zAnd_ok zz_ok zN_ok) zF_ok) ⟨hz.1.1, hz.1.2.1⟩ hS hA hK hP hD [0, 1, 2, 8] rfl rfl U hU hW⟩⟩ rfl rfl hl.1 rfl (lv_room (Nat.le_of_ble_eq_true rfl)) dL_law_1737 ⟨by omega, by omega⟩) hP hD hS hA [0, 1, 2, 8] rfl [3, 4, 5, 6, 7] rfl (by decide) [5, 6, 7, 0, 1, 2, 3, 4, 8] (fun _ => rfl) rfl (fun u1 H locs hp_1 hP hD hS => ?_)
  have hP : va_P D KL [(x, .inr (2, [.ref bx, .ref px, .ref t, .int ak, .int su, .int gt, .int lf, .int rf, .int kn])), (bx, .inl (cI, 6, .inl f)), (px, .inl (cI, 2, .inl g)), (t, .inr (1, [.ref bt, .int 0, .int ml, .int cn])), (bt, .inl (cB, 16, .inl bs)), (o, .inr (4, [.int th, .ref bo, .ref po, .int ak', .int su', .int gt', .int lf', .int rf', .int kn'])), (bo, .inl (cI, 6, .inl h)), (po, .inl (cI, 2, .inl j)), (q, .inr (3, [.long (hn_place r1 r2 n0), sv]))] H := hP
  have hD : va_D (fun q => s.heap.size ≤ q) [(x, .inr (2, [.ref bx, .ref px, .ref t, .int ak, .int su, .int gt, .int lf, .int rf, .int kn])), (bx, .inl (cI, 6, .inl f)), (px, .inl (cI, 2, .inl g)), (t, .inr (1, [.ref bt, .int 0, .int ml, .int cn])), (bt, .inl (cB, 16, .inl bs)), (o, .inr (4, [.int th, .ref bo, .ref po, .int ak', .int su', .int gt', .int lf', .int rf', .int kn'])), (bo, .inl (cI, 6, .inl h)), (po, .inl (cI, 2, .inl j)), (q, .inr (3, [.long (hn_place r1 r2 n0), sv]))] := hD
  refine W.eq (g2 := F0 m 1740 ls [.int (hk_place r1 r2)]) rfl ?_
  refine lv_istore (lv' := [(5, .int (hk_place r1 r2)), (4, .int (nI i)), (3, .ref q), (2, .ref o), (1, .ref x), (0, .ref b)]) FX.1 FX.2.1 dL_law_1740 hl (by decide) rfl (fun ls hl => ?_)
  refine lv_aload_n FX.1 FX.2.1 dL_law_1742 rfl (lv_at hl 3 rfl) ?_
  refine p_rd (k := 1) (v := r1) FX hX hbl hbA hS (lv_at hl 5 rfl) (lv_at hl 1 rfl) dL_law_1743 dL_law_1744 dL_law_1746 dL_law_1747 dL_law_1748 rfl hin1 ey1 ?_
  refine p_rd (k := 2) (v := r2) FX hX hbl hbA hS (lv_at hl 5 rfl) (lv_at hl 1 rfl) dL_law_1749 dL_law_1750 dL_law_1752 dL_law_1753 dL_law_1754 rfl hin2 ey2 ?_
  obtain ⟨eT, eA, hI2⟩ := st_place r1 r2 n0 hI
  refine c_WRV (wr := [(x, .inr (2, [.ref bx, .ref px, .ref t, .int ak, .int su, .int gt, .int lf, .int rf, .int kn])), (bx, .inl (cI, 6, .inl f)), (px, .inl (cI, 2, .inl g)), (t, .inr (1, [.ref bt, .int 0, .int ml, .int cn])), (bt, .inl (cB, 16, .inl bs)), (q, .inr (3, [.long (hn_place r1 r2 n0), sv]))]) (wsN := [(x, .inr (2, [.ref bx, .ref px, .ref t, .int ak, .int su, .int gt, .int lf, .int rf, .int kn])), (bx, .inl (cI, 6, .inl f)), (px, .inl (cI, 2, .inl g)), (t, .inr (1, [.ref bt, .int 0, .int ml, .int cn])), (bt, .inl (cB, 16, .inl bs)), (o, .inr (4, [.int (wth_X2_place r1 r2), .ref bo, .ref po, .int ak', .int su', .int gt', .int lf', .int rf', .int kn'])), (bo, .inl (cI, 6, .inl h)), (po, .inl (cI, 2, .inl j)), (q, .inr (3, [.long (hn_place r1 r2 n0), sv]))]) (i0 := 5) (ci := 4) FX (k_X2_place l D cI cB o bo po th h j ak' su' gt' lf' rf' kn' r1 r2) mi_X2_place rfl ml_RL_292 (RMok.mk) hl.1 rfl (Nat.le_of_ble_eq_true rfl) dL_law_1755 ⟨by omega, by omega⟩ hK hP hD hS hA [5, 6, 7] rfl [0, 1, 2, 3, 4, 8] rfl rfl (by decide) [0, 1, 2, 3, 4, 6, 7, 8, 5] rfl rfl rfl rfl rfl (fun H locs hP hD hS => ?_)
  refine lv_istore (lv' := [(6, .int (v_X2_place r1 r2)), (5, .int (hk_place r1 r2)), (4, .int (nI i)), (3, .ref q), (2, .ref o), (1, .ref x), (0, .ref b)]) FX.1 FX.2.1 dL_law_1758 hl (by decide) rfl (fun ls hl => ?_)
  refine lv_goto (tgt := 1830) FX.1 FX.2.1 dL_law_1760 (by decide) ?_
  refine W.widen (k := cc + 33) (n := ss + 321) (by omega) (by omega) ?_
  exact kk H locs f g ak su gt lf rf kn ml cn bs (wth_X2_place r1 r2) h j ak' su' gt' lf' rf' kn' (hn_place r1 r2 n0) sv ls hI2 hb hc hP hD hS (lv_sub hl [2, 3, 4, 5, 6] rfl)
set_option maxRecDepth 100000 in
set_option maxHeartbeats 4000000 in
theorem case_39 {p : Program} {l : Launch} {e : Env} {s : State} {m : MethodId} {below : List Frame} {meth : Method} {c : Code} (hl0 : l.stackTraces = false) (D : va_G) (cI cB : ClassId) (b L : Nat) (xs : Nat → Int32) (x bx px t bt o bo po q : Nat) (to tt : Nat) (go gu : Nat → Int32) (na nv : Nat) (nf : Nat → Int32) (nb nw : Nat) (nh : Nat → Int32) (ea ew : Nat) (ef : Nat → Int32) (i cc ss : Nat) (hi : i + 6 ≤ L) (hcc : cc + 33 ≤ room_1.cells) (hss : ss + 321 ≤ room_1.slots) (hL : L ≤ 3072) (FX : CallFix p m c cL_law 7 s #[.ref b] bigW RL) (hK : va_K D KL (TY cI cB) s) (hX : va_X b L xs s s.heap) (hbl : b < s.heap.size) (hz : zLaw to tt go gu na nv nf nb nw nh ea ew ef (fun q => s.heap.size ≤ q) s s.heap) (hfn : sb_Fit nf) (hfe : sb_Fit ef) (hnn : TL 4 nf nh) (kk : LGo p l e s m below meth c D cI cB b x bx px t bt o bo po q i 1830 (cc + 33) (ss + 321)) : LGo p l e s m below meth c D cI cB b x bx px t bt o bo po q i 1763 cc ss := by
  intro H locs f g ak su gt lf rf kn ml cn bs th h j ak' su' gt' lf' rf' kn' n0 sv ls hI hb hc hP hD hS hl
  have hA : ∀ q : Nat, s.heap.size ≤ q → s.heap.size ≤ q := fun _ h => h
  have hbA : ¬ (fun q : Nat => s.heap.size ≤ q) b := Nat.not_le.mpr hbl
  have hl : lv_has ls 7 [(4, .int (nI i)), (3, .ref q), (2, .ref o), (1, .ref x), (0, .ref b)] := hl
  have hP : va_P D KL [(x, .inr (2, [.ref bx, .ref px, .ref t, .int ak, .int su, .int gt, .int lf, .int rf, .int kn])), (bx, .inl (cI, 6, .inl f)), (px, .inl (cI, 2, .inl g)), (t, .inr (1, [.ref bt, .int 0, .int ml, .int cn])), (bt, .inl (cB, 16, .inl bs)), (o, .inr (4, [.int th, .ref bo, .ref po, .int ak', .int su', .int gt', .int lf', .int rf', .int kn'])), (bo, .inl (cI, 6, .inl h)), (po, .inl (cI, 2, .inl j)), (q, .inr (3, [.long n0, sv]))] H := hP
  have hD : va_D (fun q => s.heap.size ≤ q) [(x, .inr (2, [.ref bx, .ref px, .ref t, .int ak, .int su, .int gt, .int lf, .int rf, .int kn])), (bx, .inl (cI, 6, .inl f)), (px, .inl (cI, 2, .inl g)), (t, .inr (1, [.ref bt, .int 0, .int ml, .int cn])), (bt, .inl (cB, 16, .inl bs)), (o, .inr (4, [.int th, .ref bo, .ref po, .int ak', .int su', .int gt', .int lf', .int rf', .int kn'])), (bo, .inl (cI, 6, .inl h)), (po, .inl (cI, 2, .inl j)), (q, .inr (3, [.long n0, sv]))] := hD
  refine lv_aload_n FX.1 FX.2.1 dL_law_1763 rfl (lv_at hl 3 rfl) ?_
  refine c_WRV (wr := [(t, .inr (1, [.ref bt, .int 0, .int ml, .int cn])), (bt, .inl (cB, 16, .inl bs)), (o, .inr (4, [.int th, .ref bo, .ref po, .int ak', .int su', .int gt', .int lf', .int rf', .int kn'])), (bo, .inl (cI, 6, .inl h)), (po, .inl (cI, 2, .inl j)), (q, .inr (3, [.long n0, sv]))]) (wsN := [(x, .inr (2, [.ref bx, .ref px, .ref t, .int ak, .int su, .int gt, .int lf, .int rf, .int (wkn_X0_knock kn)])), (bx, .inl (cI, 6, .inl f)), (px, .inl (cI, 2, .inl g)), (t, .inr (1, [.ref bt, .int 0, .int ml, .int cn])), (bt, .inl (cB, 16, .inl bs)), (o, .inr (4, [.int th, .ref bo, .ref po, .int ak', .int su', .int gt', .int lf', .int rf', .int kn'])), (bo, .inl (cI, 6, .inl h)), (po, .inl (cI, 2, .inl j)), (q, .inr (3, [.long n0, sv]))]) (i0 := 0) (ci := 2) FX (k_X0_knock l D cI cB x bx px t f g ak su gt lf rf kn) mi_X0_knock rfl ml_RL_293 (RMok.mk) hl.1 rfl (Nat.le_of_ble_eq_true rfl) dL_law_1764 ⟨by omega, by omega⟩ hK hP hD hS hA [0, 1, 2] rfl [3, 4, 5, 6, 7, 8] rfl rfl (by decide) [6, 7, 8, 0, 1, 2, 3, 4, 5] rfl rfl rfl rfl rfl (fun H locs hP hD hS => ?_)
  refine lv_pop FX.1 FX.2.1 dL_law_1767 rfl ?_
  refine lv_aload_n FX.1 FX.2.1 dL_law_1768 rfl (lv_at hl 2 rfl) ?_
  have hI2 := (st_knock hI).2
  refine c_WRV (wr := [(x, .inr (2, [.ref bx, .ref px, .ref t, .int ak, .int su, .int gt, .int lf, .int rf, .int (wkn_X0_knock kn)])), (bx, .inl (cI, 6, .inl f)), (px, .inl (cI, 2, .inl g)), (t, .inr (1, [.ref bt, .int 0, .int ml, .int cn])), (bt, .inl (cB, 16, .inl bs)), (q, .inr (3, [.long n0, sv]))]) (wsN := [(x, .inr (2, [.ref bx, .ref px, .ref t, .int ak, .int su, .int gt, .int lf, .int rf, .int (wkn_X0_knock kn)])), (bx, .inl (cI, 6, .inl f)), (px, .inl (cI, 2, .inl g)), (t, .inr (1, [.ref bt, .int 0, .int ml, .int cn])), (bt, .inl (cB, 16, .inl bs)), (o, .inr (4, [.int wth_X2_knock, .ref bo, .ref po, .int ak', .int su', .int gt', .int lf', .int rf', .int (wkn_X2_knock kn')])), (bo, .inl (cI, 6, .inl h)), (po, .inl (cI, 2, .inl j)), (q, .inr (3, [.long n0, sv]))]) (i0 := 5) (ci := 4) FX (k_X2_knock l D cI cB o bo po th h j ak' su' gt' lf' rf' kn') mi_X2_knock rfl ml_RL_296 (RMok.mk) hl.1 rfl (Nat.le_of_ble_eq_true rfl) dL_law_1769 ⟨by omega, by omega⟩ hK hP hD hS hA [5, 6, 7] rfl [0, 1, 2, 3, 4, 8] rfl rfl (by decide) [0, 1, 2, 3, 4, 6, 7, 8, 5] rfl rfl rfl rfl rfl (fun H locs hP hD hS => ?_)
  refine lv_pop FX.1 FX.2.1 dL_law_1772 rfl ?_
  refine lv_goto (tgt := 1830) FX.1 FX.2.1 dL_law_1773 (by decide) ?_
  refine W.widen (k := cc + 33) (n := ss + 321) (by omega) (by omega) ?_
  exact kk H locs f g ak su gt lf rf (wkn_X0_knock kn) ml cn bs wth_X2_knock h j ak' su' gt' lf' rf' (wkn_X2_knock kn') n0 sv ls hI2 hb hc hP hD hS (lv_sub hl [0, 1, 2, 3, 4] rfl)
set_option maxRecDepth 100000 in
set_option maxHeartbeats 4000000 in
theorem case_40 {p : Program} {l : Launch} {e : Env} {s : State} {m : MethodId} {below : List Frame} {meth : Method} {c : Code} (hl0 : l.stackTraces = false) (D : va_G) (cI cB : ClassId) (b L : Nat) (xs : Nat → Int32) (x bx px t bt o bo po q : Nat) (to tt : Nat) (go gu : Nat → Int32) (na nv : Nat) (nf : Nat → Int32) (nb nw : Nat) (nh : Nat → Int32) (ea ew : Nat) (ef : Nat → Int32) (i cc ss : Nat) (hi : i + 6 ≤ L) (hcc : cc + 33 ≤ room_1.cells) (hss : ss + 321 ≤ room_1.slots) (hL : L ≤ 3072) (FX : CallFix p m c cL_law 7 s #[.ref b] bigW RL) (hK : va_K D KL (TY cI cB) s) (hX : va_X b L xs s s.heap) (hbl : b < s.heap.size) (hz : zLaw to tt go gu na nv nf nb nw nh ea ew ef (fun q => s.heap.size ≤ q) s s.heap) (hfn : sb_Fit nf) (hfe : sb_Fit ef) (hnn : TL 4 nf nh) (kk : LGo p l e s m below meth c D cI cB b x bx px t bt o bo po q i 1830 (cc + 33) (ss + 321)) : LGo p l e s m below meth c D cI cB b x bx px t bt o bo po q i 1776 cc ss := by
  intro H locs f g ak su gt lf rf kn ml cn bs th h j ak' su' gt' lf' rf' kn' n0 sv ls hI hb hc hP hD hS hl
  have hA : ∀ q : Nat, s.heap.size ≤ q → s.heap.size ≤ q := fun _ h => h
  have hbA : ¬ (fun q : Nat => s.heap.size ≤ q) b := Nat.not_le.mpr hbl
  obtain ⟨r1, ey1⟩ : ∃ y, xs (i + 1) = y := ⟨_, rfl⟩
  have hin1 : i + 1 < L ∧ L < 2 ^ 31 := ⟨by omega, by omega⟩
  have hl : lv_has ls 7 [(4, .int (nI i)), (3, .ref q), (2, .ref o), (1, .ref x), (0, .ref b)] := hl
  have hP : va_P D KL [(x, .inr (2, [.ref bx, .ref px, .ref t, .int ak, .int su, .int gt, .int lf, .int rf, .int kn])), (bx, .inl (cI, 6, .inl f)), (px, .inl (cI, 2, .inl g)), (t, .inr (1, [.ref bt, .int 0, .int ml, .int cn])), (bt, .inl (cB, 16, .inl bs)), (o, .inr (4, [.int th, .ref bo, .ref po, .int ak', .int su', .int gt', .int lf', .int rf', .int kn'])), (bo, .inl (cI, 6, .inl h)), (po, .inl (cI, 2, .inl j)), (q, .inr (3, [.long n0, sv]))] H := hP
  have hD : va_D (fun q => s.heap.size ≤ q) [(x, .inr (2, [.ref bx, .ref px, .ref t, .int ak, .int su, .int gt, .int lf, .int rf, .int kn])), (bx, .inl (cI, 6, .inl f)), (px, .inl (cI, 2, .inl g)), (t, .inr (1, [.ref bt, .int 0, .int ml, .int cn])), (bt, .inl (cB, 16, .inl bs)), (o, .inr (4, [.int th, .ref bo, .ref po, .int ak', .int su', .int gt', .int lf', .int rf', .int kn'])), (bo, .inl (cI, 6, .inl h)), (po, .inl (cI, 2, .inl j)), (q, .inr (3, [.long n0, sv]))] := hD
  refine lv_aload_n FX.1 FX.2.1 dL_law_1776 rfl (lv_at hl 3 rfl) ?_
  refine p_rd (k := 1) (v := r1) FX hX hbl hbA hS (lv_at hl 4 rfl) (lv_at hl 0 rfl) dL_law_1777 dL_law_1778 dL_law_1780 dL_law_1781 dL_law_1782 rfl hin1 ey1 ?_
  refine lv_aload_n FX.1 FX.2.1 dL_law_1783 rfl (lv_at hl 1 rfl) ?_
  refine c_J (W0 := [(x, .inr (2, [.ref bx, .ref px, .ref t, .int ak, .int su, .int gt, .int lf, .int rf, .int kn])), (bx, .inl (cI, 6, .inl f)), (px, .inl (cI, 2, .inl g)), (q, .inr (3, [.long n0, sv]))]) (wr := [(t, .inr (1, [.ref bt, .int 0, .int ml, .int cn])), (bt, .inl (cB, 16, .inl bs)), (o, .inr (4, [.int th, .ref bo, .ref po, .int ak', .int su', .int gt', .int lf', .int rf', .int kn'])), (bo, .inl (cI, 6, .inl h)), (po, .inl (cI, 2, .inl j))]) (wsN := fun _ => [(x, .inr (2, [.ref bx, .ref px, .ref t, .int ak, .int su, .int gt, .int lf, .int rf, .int kn])), (bx, .inl (cI, 6, .inl f)), (px, .inl (cI, 2, .inl g)), (t, .inr (1, [.ref bt, .int 0, .int ml, .int cn])), (bt, .inl (cB, 16, .inl bs)), (o, .inr (4, [.int th, .ref bo, .ref po, .int ak', .int su', .int gt', .int lf', .int rf', .int kn'])), (bo, .inl (cI, 6, .inl h)), (po, .inl (cI, 2, .inl j)), (q, .inr (3, [.long (hn_house r1 f g ak su gt lf rf kn n0), sv]))]) (vx_runSW FX ((j_L_house l hl0 D cI cB x bx px t f g ak su gt lf rf kn q n0 sv r1) H.size) (my_cwSW FX.2.2.2.2 mh_L_house ml_RL_297 (RMok.mk)) ⟨PJ.blind (zAnd_ok (zAnd_ok zz_ok zN_ok) zF_ok), fun U hU hW => ⟨rfl, my_preJ (zAnd_ok (zAnd_ok zz_ok zN_ok) zF_ok) ⟨hz.1.1, hz.1.2.1⟩ hS hA hK hP hD [0, 1, 2, 8] rfl rfl U hU hW⟩⟩ rfl rfl hl.1 rfl (lv_room (Nat.le_of_ble_eq_true rfl)) dL_law_1784 ⟨by omega, by omega⟩) hP hD hS hA [0, 1, 2, 8] rfl [3, 4, 5, 6, 7] rfl (by decide) [5, 6, 7, 0, 1, 2, 3, 4, 8] (fun _ => rfl) rfl (fun u1 H locs hp_1 hP hD hS => ?_)
  have hP : va_P D KL [(x, .inr (2, [.ref bx, .ref px, .ref t, .int ak, .int su, .int gt, .int lf, .int rf, .int kn])), (bx, .inl (cI, 6, .inl f)), (px, .inl (cI, 2, .inl g)), (t, .inr (1, [.ref bt, .int 0, .int ml, .int cn])), (bt, .inl (cB, 16, .inl bs)), (o, .inr (4, [.int th, .ref bo, .ref po, .int ak', .int su', .int gt', .int lf', .int rf', .int kn'])), (bo, .inl (cI, 6, .inl h)), (po, .inl (cI, 2, .inl j)), (q, .inr (3, [.long (hn_house r1 f g ak su gt lf rf kn n0), sv]))] H := hP
  have hD : va_D (fun q => s.heap.size ≤ q) [(x, .inr (2, [.ref bx, .ref px, .ref t, .int ak, .int su, .int gt, .int lf, .int rf, .int kn])), (bx, .inl (cI, 6, .inl f)), (px, .inl (cI, 2, .inl g)), (t, .inr (1, [.ref bt, .int 0, .int ml, .int cn])), (bt, .inl (cB, 16, .inl bs)), (o, .inr (4, [.int th, .ref bo, .ref po, .int ak', .int su', .int gt', .int lf', .int rf', .int kn'])), (bo, .inl (cI, 6, .inl h)), (po, .inl (cI, 2, .inl j)), (q, .inr (3, [.long (hn_house r1 f g ak su gt lf rf kn n0), sv]))] := hD
  refine W.eq (g2 := F0 m 1787 ls [.int (hk_house r1)]) rfl ?_
  refine lv_istore (lv' := [(5, .int (hk_house r1)), (4, .int (nI i)), (3, .ref q), (2, .ref o), (1, .ref x), (0, .ref b)]) FX.1 FX.2.1 dL_law_1787 hl (by decide) rfl (fun ls hl => ?_)
  refine lv_aload_n FX.1 FX.2.1 dL_law_1789 rfl (lv_at hl 3 rfl) ?_
  refine p_rd (k := 1) (v := r1) FX hX hbl hbA hS (lv_at hl 5 rfl) (lv_at hl 1 rfl) dL_law_1790 dL_law_1791 dL_law_1793 dL_law_1794 dL_law_1795 rfl hin1 ey1 ?_
  obtain ⟨eT, eA, hI2⟩ := st_house r1 n0 hI
  refine c_WRV (wr := [(x, .inr (2, [.ref bx, .ref px, .ref t, .int ak, .int su, .int gt, .int lf, .int rf, .int kn])), (bx, .inl (cI, 6, .inl f)), (px, .inl (cI, 2, .inl g)), (t, .inr (1, [.ref bt, .int 0, .int ml, .int cn])), (bt, .inl (cB, 16, .inl bs)), (q, .inr (3, [.long (hn_house r1 f g ak su gt lf rf kn n0), sv]))]) (wsN := [(x, .inr (2, [.ref bx, .ref px, .ref t, .int ak, .int su, .int gt, .int lf, .int rf, .int kn])), (bx, .inl (cI, 6, .inl f)), (px, .inl (cI, 2, .inl g)), (t, .inr (1, [.ref bt, .int 0, .int ml, .int cn])), (bt, .inl (cB, 16, .inl bs)), (o, .inr (4, [.int (wth_X2_house r1), .ref bo, .ref po, .int ak', .int su', .int gt', .int lf', .int rf', .int kn'])), (bo, .inl (cI, 6, .inl h)), (po, .inl (cI, 2, .inl j)), (q, .inr (3, [.long (hn_house r1 f g ak su gt lf rf kn n0), sv]))]) (i0 := 5) (ci := 4) FX (k_X2_house l D cI cB o bo po th h j ak' su' gt' lf' rf' kn' r1) mi_X2_house rfl ml_RL_299 (RMok.mk) hl.1 rfl (Nat.le_of_ble_eq_true rfl) dL_law_1796 ⟨by omega, by omega⟩ hK hP hD hS hA [5, 6, 7] rfl [0, 1, 2, 3, 4, 8] rfl rfl (by decide) [0, 1, 2, 3, 4, 6, 7, 8, 5] rfl rfl rfl rfl rfl (fun H locs hP hD hS => ?_)
  refine lv_istore (lv' := [(6, .int (v_X2_house r1 h j ak' su' gt' lf' rf' kn')), (5, .int (hk_house r1)), (4, .int (nI i)), (3, .ref q), (2, .ref o), (1, .ref x), (0, .ref b)]) FX.1 FX.2.1 dL_law_1799 hl (by decide) rfl (fun ls hl => ?_)
  refine lv_goto (tgt := 1830) FX.1 FX.2.1 dL_law_1801 (by decide) ?_
  refine W.widen (k := cc + 33) (n := ss + 321) (by omega) (by omega) ?_
  exact kk H locs f g ak su gt lf rf kn ml cn bs (wth_X2_house r1) h j ak' su' gt' lf' rf' kn' (hn_house r1 f g ak su gt lf rf kn n0) sv ls hI2 hb hc hP hD hS (lv_sub hl [2, 3, 4, 5, 6] rfl)
set_option maxRecDepth 100000 in
set_option maxHeartbeats 4000000 in
theorem case_41 {p : Program} {l : Launch} {e : Env} {s : State} {m : MethodId} {below : List Frame} {meth : Method} {c : Code} (hl0 : l.stackTraces = false) (D : va_G) (cI cB : ClassId) (b L : Nat) (xs : Nat → Int32) (x bx px t bt o bo po q : Nat) (to tt : Nat) (go gu : Nat → Int32) (na nv : Nat) (nf : Nat → Int32) (nb nw : Nat) (nh : Nat → Int32) (ea ew : Nat) (ef : Nat → Int32) (i cc ss : Nat) (hi : i + 6 ≤ L) (hcc : cc + 33 ≤ room_1.cells) (hss : ss + 321 ≤ room_1.slots) (hL : L ≤ 3072) (FX : CallFix p m c cL_law 7 s #[.ref b] bigW RL) (hK : va_K D KL (TY cI cB) s) (hX : va_X b L xs s s.heap) (hbl : b < s.heap.size) (hz : zLaw to tt go gu na nv nf nb nw nh ea ew ef (fun q => s.heap.size ≤ q) s s.heap) (hfn : sb_Fit nf) (hfe : sb_Fit ef) (hnn : TL 4 nf nh) (kk : LGo p l e s m below meth c D cI cB b x bx px t bt o bo po q i 1830 (cc + 33) (ss + 321)) : LGo p l e s m below meth c D cI cB b x bx px t bt o bo po q i 1804 cc ss := by
  intro H locs f g ak su gt lf rf kn ml cn bs th h j ak' su' gt' lf' rf' kn' n0 sv ls hI hb hc hP hD hS hl
  have hA : ∀ q : Nat, s.heap.size ≤ q → s.heap.size ≤ q := fun _ h => h
  have hbA : ¬ (fun q : Nat => s.heap.size ≤ q) b := Nat.not_le.mpr hbl
  have hl : lv_has ls 7 [(4, .int (nI i)), (3, .ref q), (2, .ref o), (1, .ref x), (0, .ref b)] := hl
  have hP : va_P D KL [(x, .inr (2, [.ref bx, .ref px, .ref t, .int ak, .int su, .int gt, .int lf, .int rf, .int kn])), (bx, .inl (cI, 6, .inl f)), (px, .inl (cI, 2, .inl g)), (t, .inr (1, [.ref bt, .int 0, .int ml, .int cn])), (bt, .inl (cB, 16, .inl bs)), (o, .inr (4, [.int th, .ref bo, .ref po, .int ak', .int su', .int gt', .int lf', .int rf', .int kn'])), (bo, .inl (cI, 6, .inl h)), (po, .inl (cI, 2, .inl j)), (q, .inr (3, [.long n0, sv]))] H := hP
  have hD : va_D (fun q => s.heap.size ≤ q) [(x, .inr (2, [.ref bx, .ref px, .ref t, .int ak, .int su, .int gt, .int lf, .int rf, .int kn])), (bx, .inl (cI, 6, .inl f)), (px, .inl (cI, 2, .inl g)), (t, .inr (1, [.ref bt, .int 0, .int ml, .int cn])), (bt, .inl (cB, 16, .inl bs)), (o, .inr (4, [.int th, .ref bo, .ref po, .int ak', .int su', .int gt', .int lf', .int rf', .int kn'])), (bo, .inl (cI, 6, .inl h)), (po, .inl (cI, 2, .inl j)), (q, .inr (3, [.long n0, sv]))] := hD
  refine lv_aload_n FX.1 FX.2.1 dL_law_1804 rfl (lv_at hl 3 rfl) ?_
  refine c_RDV (i0 := 0) (ci := 2) FX (r_X0_isSound l D cI cB x bx px t f g ak su gt lf rf kn hI.ok6) mi_X0_isSound rfl ml_RL_300 (RMok.mk) hl.1 rfl (Nat.le_of_ble_eq_true rfl) dL_law_1805 ⟨by omega, by omega⟩ hK hP [0, 1, 2] rfl rfl rfl rfl ?_
  refine lv_pop FX.1 FX.2.1 dL_law_1808 rfl ?_
  refine lv_aload_n FX.1 FX.2.1 dL_law_1809 rfl (lv_at hl 2 rfl) ?_
  refine c_WRV (wr := [(x, .inr (2, [.ref bx, .ref px, .ref t, .int ak, .int su, .int gt, .int lf, .int rf, .int kn])), (bx, .inl (cI, 6, .inl f)), (px, .inl (cI, 2, .inl g)), (t, .inr (1, [.ref bt, .int 0, .int ml, .int cn])), (bt, .inl (cB, 16, .inl bs)), (q, .inr (3, [.long n0, sv]))]) (wsN := [(x, .inr (2, [.ref bx, .ref px, .ref t, .int ak, .int su, .int gt, .int lf, .int rf, .int kn])), (bx, .inl (cI, 6, .inl f)), (px, .inl (cI, 2, .inl g)), (t, .inr (1, [.ref bt, .int 0, .int ml, .int cn])), (bt, .inl (cB, 16, .inl bs)), (o, .inr (4, [.int wth_X2_isSound, .ref bo, .ref po, .int ak', .int su', .int gt', .int lf', .int rf', .int kn'])), (bo, .inl (cI, 6, .inl h)), (po, .inl (cI, 2, .inl j)), (q, .inr (3, [.long n0, sv]))]) (i0 := 5) (ci := 4) FX (k_X2_isSound l D cI cB o bo po th h j ak' su' gt' lf' rf' kn') mi_X2_isSound rfl ml_RL_303 (RMok.mk) hl.1 rfl (Nat.le_of_ble_eq_true rfl) dL_law_1810 ⟨by omega, by omega⟩ hK hP hD hS hA [5, 6, 7] rfl [0, 1, 2, 3, 4, 8] rfl rfl (by decide) [0, 1, 2, 3, 4, 6, 7, 8, 5] rfl rfl rfl rfl rfl (fun H locs hP hD hS => ?_)
  refine lv_pop FX.1 FX.2.1 dL_law_1813 rfl ?_
  refine lv_goto (tgt := 1830) FX.1 FX.2.1 dL_law_1814 (by decide) ?_
  refine W.widen (k := cc + 33) (n := ss + 321) (by omega) (by omega) ?_
  exact kk H locs f g ak su gt lf rf kn ml cn bs wth_X2_isSound h j ak' su' gt' lf' rf' kn' n0 sv ls hI hb hc hP hD hS (lv_sub hl [0, 1, 2, 3, 4] rfl)
set_option maxRecDepth 100000 in
set_option maxHeartbeats 4000000 in
theorem case_42 {p : Program} {l : Launch} {e : Env} {s : State} {m : MethodId} {below : List Frame} {meth : Method} {c : Code} (hl0 : l.stackTraces = false) (D : va_G) (cI cB : ClassId) (b L : Nat) (xs : Nat → Int32) (x bx px t bt o bo po q : Nat) (to tt : Nat) (go gu : Nat → Int32) (na nv : Nat) (nf : Nat → Int32) (nb nw : Nat) (nh : Nat → Int32) (ea ew : Nat) (ef : Nat → Int32) (i cc ss : Nat) (hi : i + 6 ≤ L) (hcc : cc + 33 ≤ room_1.cells) (hss : ss + 321 ≤ room_1.slots) (hL : L ≤ 3072) (FX : CallFix p m c cL_law 7 s #[.ref b] bigW RL) (hK : va_K D KL (TY cI cB) s) (hX : va_X b L xs s s.heap) (hbl : b < s.heap.size) (hz : zLaw to tt go gu na nv nf nb nw nh ea ew ef (fun q => s.heap.size ≤ q) s s.heap) (hfn : sb_Fit nf) (hfe : sb_Fit ef) (hnn : TL 4 nf nh) (kk : LGo p l e s m below meth c D cI cB b x bx px t bt o bo po q i 1830 (cc + 33) (ss + 321)) : LGo p l e s m below meth c D cI cB b x bx px t bt o bo po q i 1817 cc ss := by
  intro H locs f g ak su gt lf rf kn ml cn bs th h j ak' su' gt' lf' rf' kn' n0 sv ls hI hb hc hP hD hS hl
  have hA : ∀ q : Nat, s.heap.size ≤ q → s.heap.size ≤ q := fun _ h => h
  have hbA : ¬ (fun q : Nat => s.heap.size ≤ q) b := Nat.not_le.mpr hbl
  have hl : lv_has ls 7 [(4, .int (nI i)), (3, .ref q), (2, .ref o), (1, .ref x), (0, .ref b)] := hl
  have hP : va_P D KL [(x, .inr (2, [.ref bx, .ref px, .ref t, .int ak, .int su, .int gt, .int lf, .int rf, .int kn])), (bx, .inl (cI, 6, .inl f)), (px, .inl (cI, 2, .inl g)), (t, .inr (1, [.ref bt, .int 0, .int ml, .int cn])), (bt, .inl (cB, 16, .inl bs)), (o, .inr (4, [.int th, .ref bo, .ref po, .int ak', .int su', .int gt', .int lf', .int rf', .int kn'])), (bo, .inl (cI, 6, .inl h)), (po, .inl (cI, 2, .inl j)), (q, .inr (3, [.long n0, sv]))] H := hP
  have hD : va_D (fun q => s.heap.size ≤ q) [(x, .inr (2, [.ref bx, .ref px, .ref t, .int ak, .int su, .int gt, .int lf, .int rf, .int kn])), (bx, .inl (cI, 6, .inl f)), (px, .inl (cI, 2, .inl g)), (t, .inr (1, [.ref bt, .int 0, .int ml, .int cn])), (bt, .inl (cB, 16, .inl bs)), (o, .inr (4, [.int th, .ref bo, .ref po, .int ak', .int su', .int gt', .int lf', .int rf', .int kn'])), (bo, .inl (cI, 6, .inl h)), (po, .inl (cI, 2, .inl j)), (q, .inr (3, [.long n0, sv]))] := hD
  refine lv_aload_n FX.1 FX.2.1 dL_law_1817 rfl (lv_at hl 3 rfl) ?_
  refine c_J (W0 := [(x, .inr (2, [.ref bx, .ref px, .ref t, .int ak, .int su, .int gt, .int lf, .int rf, .int kn])), (bx, .inl (cI, 6, .inl f)), (px, .inl (cI, 2, .inl g)), (t, .inr (1, [.ref bt, .int 0, .int ml, .int cn])), (bt, .inl (cB, 16, .inl bs))]) (wr := [(o, .inr (4, [.int th, .ref bo, .ref po, .int ak', .int su', .int gt', .int lf', .int rf', .int kn'])), (bo, .inl (cI, 6, .inl h)), (po, .inl (cI, 2, .inl j)), (q, .inr (3, [.long n0, sv]))]) (wsN := fun u1 => [(x, .inr (2, [.ref bx, .ref px, .ref t, .int ak, .int su, .int gt, .int lf, .int rf, .int kn])), (bx, .inl (cI, 6, .inl f)), (px, .inl (cI, 2, .inl g)), (t, .inr (1, [.ref bt, .int 0, .int u1.1, .int u1.2.1])), (bt, .inl (cB, 16, .inl u1.2.2)), (o, .inr (4, [.int th, .ref bo, .ref po, .int ak', .int su', .int gt', .int lf', .int rf', .int kn'])), (bo, .inl (cI, 6, .inl h)), (po, .inl (cI, 2, .inl j)), (q, .inr (3, [.long n0, sv]))]) (va_runV FX ((j_X0_digest l D cI cB x bx px t bt f g ak su gt lf rf kn ml cn bs to tt go gu na nv nf hfn hb hc hI.ok6) H.size) (my_cwV FX.2.2.2.2 mi_X0_digest ml_RL_304 (RMok.mk)) ⟨PJ.blind (zAnd_ok zC_ok (zAnd_ok (zAnd_ok zDg_ok zDg_ok) (zAnd_ok zR_ok zS_ok))), (my_recv (i0 := 0) (ci := 2) hK hP rfl rfl rfl), fun U hU hW => ⟨rfl, my_preJ (zAnd_ok zC_ok (zAnd_ok (zAnd_ok zDg_ok zDg_ok) (zAnd_ok zR_ok zS_ok))) hz.2.1 hS hA hK hP hD [0, 1, 2, 3, 4] rfl rfl U hU hW⟩⟩ rfl rfl hl.1 rfl (lv_room (Nat.le_of_ble_eq_true rfl)) dL_law_1818 ⟨by omega, by omega⟩) hP hD hS hA [0, 1, 2, 3, 4] rfl [5, 6, 7, 8] rfl (by decide) [4, 5, 6, 7, 8, 0, 1, 2, 3] (fun _ => rfl) rfl (fun u1 H locs hp_1 hP hD hS => ?_)
  have hP : va_P D KL [(x, .inr (2, [.ref bx, .ref px, .ref t, .int ak, .int su, .int gt, .int lf, .int rf, .int kn])), (bx, .inl (cI, 6, .inl f)), (px, .inl (cI, 2, .inl g)), (t, .inr (1, [.ref bt, .int 0, .int u1.1, .int u1.2.1])), (bt, .inl (cB, 16, .inl u1.2.2)), (o, .inr (4, [.int th, .ref bo, .ref po, .int ak', .int su', .int gt', .int lf', .int rf', .int kn'])), (bo, .inl (cI, 6, .inl h)), (po, .inl (cI, 2, .inl j)), (q, .inr (3, [.long n0, sv]))] H := hP
  have hD : va_D (fun q => s.heap.size ≤ q) [(x, .inr (2, [.ref bx, .ref px, .ref t, .int ak, .int su, .int gt, .int lf, .int rf, .int kn])), (bx, .inl (cI, 6, .inl f)), (px, .inl (cI, 2, .inl g)), (t, .inr (1, [.ref bt, .int 0, .int u1.1, .int u1.2.1])), (bt, .inl (cB, 16, .inl u1.2.2)), (o, .inr (4, [.int th, .ref bo, .ref po, .int ak', .int su', .int gt', .int lf', .int rf', .int kn'])), (bo, .inl (cI, 6, .inl h)), (po, .inl (cI, 2, .inl j)), (q, .inr (3, [.long n0, sv]))] := hD
  refine W.eq (g2 := F0 m 1821 ls [.long (y_dig f g ak su gt lf rf kn)]) rfl ?_
  refine lv_pop2_2 FX.1 FX.2.1 dL_law_1821 rfl ?_
  refine lv_aload_n FX.1 FX.2.1 dL_law_1822 rfl (lv_at hl 2 rfl) ?_
  refine c_J (W0 := [(o, .inr (4, [.int th, .ref bo, .ref po, .int ak', .int su', .int gt', .int lf', .int rf', .int kn'])), (bo, .inl (cI, 6, .inl h)), (po, .inl (cI, 2, .inl j))]) (wr := [(x, .inr (2, [.ref bx, .ref px, .ref t, .int ak, .int su, .int gt, .int lf, .int rf, .int kn])), (bx, .inl (cI, 6, .inl f)), (px, .inl (cI, 2, .inl g)), (t, .inr (1, [.ref bt, .int 0, .int u1.1, .int u1.2.1])), (bt, .inl (cB, 16, .inl u1.2.2)), (q, .inr (3, [.long n0, sv]))]) (wsN := fun _ => [(x, .inr (2, [.ref bx, .ref px, .ref t, .int ak, .int su, .int gt, .int lf, .int rf, .int kn])), (bx, .inl (cI, 6, .inl f)), (px, .inl (cI, 2, .inl g)), (t, .inr (1, [.ref bt, .int 0, .int u1.1, .int u1.2.1])), (bt, .inl (cB, 16, .inl u1.2.2)), (o, .inr (4, [.int 0, .ref bo, .ref po, .int ak', .int su', .int gt', .int lf', .int rf', .int kn'])), (bo, .inl (cI, 6, .inl h)), (po, .inl (cI, 2, .inl j)), (q, .inr (3, [.long n0, sv]))]) (va_runV FX ((j_X2_digest l D cI cB o bo po th h j ak' su' gt' lf' rf' kn' to tt go gu nb nw nh ea ew ef hfe hI.okm6) H.size) (my_cwV FX.2.2.2.2 mi_X2_digest ml_RL_308 (RMok.mk)) ⟨PJ.blind (zAnd_ok zC_ok (zAnd_ok (zAnd_ok zDg_ok zDg_ok) (zAnd_ok (zAnd_ok zR_ok zS_ok) (zAnd_ok zR_ok zS_ok)))), (my_recv (i0 := 5) (ci := 4) hK hP rfl rfl rfl), fun U hU hW => ⟨rfl, my_preJ (zAnd_ok zC_ok (zAnd_ok (zAnd_ok zDg_ok zDg_ok) (zAnd_ok (zAnd_ok zR_ok zS_ok) (zAnd_ok zR_ok zS_ok)))) hz.2.2 hS hA hK hP hD [5, 6, 7] rfl rfl U hU hW⟩⟩ rfl rfl hl.1 rfl (lv_room (Nat.le_of_ble_eq_true rfl)) dL_law_1823 ⟨by omega, by omega⟩) hP hD hS hA [5, 6, 7] rfl [0, 1, 2, 3, 4, 8] rfl (by decide) [0, 1, 2, 3, 4, 6, 7, 8, 5] (fun _ => rfl) rfl (fun u2 H locs hp_2 hP hD hS => ?_)
  have hP : va_P D KL [(x, .inr (2, [.ref bx, .ref px, .ref t, .int ak, .int su, .int gt, .int lf, .int rf, .int kn])), (bx, .inl (cI, 6, .inl f)), (px, .inl (cI, 2, .inl g)), (t, .inr (1, [.ref bt, .int 0, .int u1.1, .int u1.2.1])), (bt, .inl (cB, 16, .inl u1.2.2)), (o, .inr (4, [.int 0, .ref bo, .ref po, .int ak', .int su', .int gt', .int lf', .int rf', .int kn'])), (bo, .inl (cI, 6, .inl h)), (po, .inl (cI, 2, .inl j)), (q, .inr (3, [.long n0, sv]))] H := hP
  have hD : va_D (fun q => s.heap.size ≤ q) [(x, .inr (2, [.ref bx, .ref px, .ref t, .int ak, .int su, .int gt, .int lf, .int rf, .int kn])), (bx, .inl (cI, 6, .inl f)), (px, .inl (cI, 2, .inl g)), (t, .inr (1, [.ref bt, .int 0, .int u1.1, .int u1.2.1])), (bt, .inl (cB, 16, .inl u1.2.2)), (o, .inr (4, [.int 0, .ref bo, .ref po, .int ak', .int su', .int gt', .int lf', .int rf', .int kn'])), (bo, .inl (cI, 6, .inl h)), (po, .inl (cI, 2, .inl j)), (q, .inr (3, [.long n0, sv]))] := hD
  refine W.eq (g2 := F0 m 1826 ls [.long (m_dig h j ak' su' gt' lf' rf' kn')]) rfl ?_
  refine lv_pop2_2 FX.1 FX.2.1 dL_law_1826 rfl ?_
  refine lv_goto (tgt := 1830) FX.1 FX.2.1 dL_law_1827 (by decide) ?_
  refine W.widen (k := cc + 33) (n := ss + 321) (by omega) (by omega) ?_
  exact kk H locs f g ak su gt lf rf kn u1.1 u1.2.1 u1.2.2 0 h j ak' su' gt' lf' rf' kn' n0 sv ls hI hp_1.1 hp_1.2 hP hD hS (lv_sub hl [0, 1, 2, 3, 4] rfl)
