set_option maxRecDepth 20000 in
theorem ml_RL_156 : Cond.methodLink RL 156 yL_fill ∈ bigW := bt3 133 rfl rfl
set_option maxRecDepth 20000 in
theorem mh_L_fill : MIh yL_fill cL_fill 5 (some .int) [(0, 11, 14, 19), (0, 11, 18, 21)] 4 := ⟨bt3 135 rfl rfl, bt1 0 rfl rfl, bt3 134 rfl rfl, by decide, by decide, by decide +kernel⟩
set_option maxRecDepth 20000 in
theorem ml_RL_161 : Cond.methodLink RL 161 yX2_fill ∈ bigW := bt4 228 rfl rfl
set_option maxRecDepth 20000 in
theorem mi_X2_fill : MIv RX2 yX2_fill cX2_fill 4 (some .int) 2 := ⟨⟨bt4 231 rfl rfl, bt1 6 rfl rfl, by decide, by decide, by decide +kernel⟩, bt4 229 rfl rfl, bt4 230 rfl rfl⟩
set_option maxRecDepth 20000 in
theorem ml_RL_162 : Cond.methodLink RL 162 yX2_thrown ∈ bigW := bt4 224 rfl rfl
set_option maxRecDepth 20000 in
theorem mi_X2_thrown : MIv RX2 yX2_thrown cX2_thrown 1 (some .int) 0 := ⟨⟨bt4 227 rfl rfl, bt1 6 rfl rfl, by decide, by decide, by decide +kernel⟩, bt4 225 rfl rfl, bt4 226 rfl rfl⟩
set_option maxRecDepth 20000 in
theorem ml_RL_166 : Cond.methodLink RL 166 yL_empty ∈ bigW := bt3 146 rfl rfl
set_option maxRecDepth 20000 in
theorem mh_L_empty : MIh yL_empty cL_empty 4 (some .int) [(0, 10, 13, 19)] 3 := ⟨bt3 148 rfl rfl, bt1 0 rfl rfl, bt3 147 rfl rfl, by decide, by decide, by decide +kernel⟩
set_option maxRecDepth 20000 in
theorem ml_RL_169 : Cond.methodLink RL 169 yX2_empty ∈ bigW := bt5 8 rfl rfl
set_option maxRecDepth 20000 in
theorem mi_X2_empty : MIv RX2 yX2_empty cX2_empty 3 (some .int) 1 := ⟨⟨bt5 11 rfl rfl, bt1 6 rfl rfl, by decide, by decide, by decide +kernel⟩, bt5 9 rfl rfl, bt5 10 rfl rfl⟩
set_option maxRecDepth 20000 in
theorem ml_RL_170 : Cond.methodLink RL 170 yL_fillMaybe ∈ bigW := bt3 153 rfl rfl
set_option maxRecDepth 20000 in
theorem mh_L_fillMaybe : MIh yL_fillMaybe cL_fillMaybe 6 (some .int) [(0, 13, 16, 19), (0, 13, 20, 21)] 5 := ⟨bt3 155 rfl rfl, bt1 0 rfl rfl, bt3 154 rfl rfl, by decide, by decide, by decide +kernel⟩
set_option maxRecDepth 20000 in
theorem ml_RL_173 : Cond.methodLink RL 173 yX2_fillMaybe ∈ bigW := bt5 12 rfl rfl
set_option maxRecDepth 20000 in
theorem mi_X2_fillMaybe : MIv RX2 yX2_fillMaybe cX2_fillMaybe 4 (some .int) 3 := ⟨⟨bt5 15 rfl rfl, bt1 6 rfl rfl, by decide, by decide, by decide +kernel⟩, bt5 13 rfl rfl, bt5 14 rfl rfl⟩
set_option maxRecDepth 20000 in
theorem ml_RL_174 : Cond.methodLink RL 174 yL_copy ∈ bigW := bt3 160 rfl rfl
set_option maxRecDepth 20000 in
theorem mh_L_copy : MIh yL_copy cL_copy 5 (some .int) [(0, 11, 14, 19)] 4 := ⟨bt3 162 rfl rfl, bt1 0 rfl rfl, bt3 161 rfl rfl, by decide, by decide, by decide +kernel⟩
set_option maxRecDepth 20000 in
theorem ml_RL_176 : Cond.methodLink RL 176 yX2_copy ∈ bigW := bt5 20 rfl rfl
set_option maxRecDepth 20000 in
theorem ml_RL_177 : Cond.methodLink RL 177 yL_map ∈ bigW := bt3 167 rfl rfl
set_option maxRecDepth 20000 in
theorem mh_L_map : MIh yL_map cL_map 7 (some .int) [(0, 15, 18, 19), (0, 15, 22, 21)] 6 := ⟨bt3 169 rfl rfl, bt1 0 rfl rfl, bt3 168 rfl rfl, by decide, by decide, by decide +kernel⟩
set_option maxRecDepth 20000 in
theorem ml_RL_180 : Cond.methodLink RL 180 yX2_map ∈ bigW := bt5 24 rfl rfl
set_option maxRecDepth 20000 in
theorem mi_X2_map : MIv RX2 yX2_map cX2_map 5 (some .int) 4 := ⟨⟨bt5 27 rfl rfl, bt1 6 rfl rfl, by decide, by decide, by decide +kernel⟩, bt5 25 rfl rfl, bt5 26 rfl rfl⟩
set_option maxRecDepth 20000 in
theorem ml_RL_181 : Cond.methodLink RL 181 yL_turn ∈ bigW := bt3 174 rfl rfl
set_option maxRecDepth 20000 in
theorem mh_L_turn : MIh yL_turn cL_turn 7 (some .int) [(0, 15, 18, 19), (0, 15, 22, 21)] 6 := ⟨bt3 176 rfl rfl, bt1 0 rfl rfl, bt3 175 rfl rfl, by decide, by decide, by decide +kernel⟩
set_option maxRecDepth 20000 in
theorem ml_RL_183 : Cond.methodLink RL 183 yX2_turn ∈ bigW := bt5 38 rfl rfl
set_option maxRecDepth 20000 in
theorem mi_X2_turn : MIv RX2 yX2_turn cX2_turn 5 (some .int) 4 := ⟨⟨bt5 41 rfl rfl, bt1 6 rfl rfl, by decide, by decide, by decide +kernel⟩, bt5 39 rfl rfl, bt5 40 rfl rfl⟩
set_option maxRecDepth 20000 in
theorem ml_RL_184 : Cond.methodLink RL 184 yL_filter ∈ bigW := bt3 181 rfl rfl
set_option maxRecDepth 20000 in
theorem mh_L_filter : MIh yL_filter cL_filter 7 (some .int) [(0, 15, 18, 19), (0, 15, 22, 21)] 6 := ⟨bt3 183 rfl rfl, bt1 0 rfl rfl, bt3 182 rfl rfl, by decide, by decide, by decide +kernel⟩
set_option maxRecDepth 20000 in
theorem ml_RL_186 : Cond.methodLink RL 186 yX2_filter ∈ bigW := bt5 46 rfl rfl
set_option maxRecDepth 20000 in
theorem mi_X2_filter : MIv RX2 yX2_filter cX2_filter 5 (some .int) 4 := ⟨⟨bt5 49 rfl rfl, bt1 6 rfl rfl, by decide, by decide, by decide +kernel⟩, bt5 47 rfl rfl, bt5 48 rfl rfl⟩
set_option maxRecDepth 20000 in
theorem ml_RL_187 : Cond.methodLink RL 187 yL_or ∈ bigW := bt3 188 rfl rfl
set_option maxRecDepth 20000 in
theorem mh_L_or : MIh yL_or cL_or 6 (some .int) [(0, 13, 16, 19)] 5 := ⟨bt3 190 rfl rfl, bt1 0 rfl rfl, bt3 189 rfl rfl, by decide, by decide, by decide +kernel⟩
set_option maxRecDepth 20000 in
theorem ml_RL_190 : Cond.methodLink RL 190 yX2_or ∈ bigW := bt5 53 rfl rfl
set_option maxRecDepth 20000 in
theorem mi_X2_or : MIv RX2 yX2_or cX2_or 4 (some .int) 3 := ⟨⟨bt5 56 rfl rfl, bt1 6 rfl rfl, by decide, by decide, by decide +kernel⟩, bt5 54 rfl rfl, bt5 55 rfl rfl⟩
set_option maxRecDepth 20000 in
theorem ml_RL_191 : Cond.methodLink RL 191 yL_wrap ∈ bigW := bt3 195 rfl rfl
set_option maxRecDepth 20000 in
theorem mh_L_wrap : MIh yL_wrap cL_wrap 5 (some .int) [(0, 11, 14, 19)] 4 := ⟨bt3 197 rfl rfl, bt1 0 rfl rfl, bt3 196 rfl rfl, by decide, by decide, by decide +kernel⟩
set_option maxRecDepth 20000 in
theorem ml_RL_193 : Cond.methodLink RL 193 yX2_wrap ∈ bigW := bt5 57 rfl rfl
set_option maxRecDepth 20000 in
theorem mi_X2_wrap : MIv RX2 yX2_wrap cX2_wrap 3 (some .int) 2 := ⟨⟨bt5 60 rfl rfl, bt1 6 rfl rfl, by decide, by decide, by decide +kernel⟩, bt5 58 rfl rfl, bt5 59 rfl rfl⟩
set_option maxRecDepth 20000 in
theorem ml_RL_194 : Cond.methodLink RL 194 yL_both ∈ bigW := bt3 202 rfl rfl
set_option maxRecDepth 20000 in
theorem mh_L_both : MIh yL_both cL_both 8 (some .int) [(0, 17, 20, 19), (0, 17, 24, 21)] 7 := ⟨bt3 204 rfl rfl, bt1 0 rfl rfl, bt3 203 rfl rfl, by decide, by decide, by decide +kernel⟩
set_option maxRecDepth 20000 in
theorem ml_RL_197 : Cond.methodLink RL 197 yX2_both ∈ bigW := bt5 62 rfl rfl
set_option maxRecDepth 20000 in
theorem mi_X2_both : MIv RX2 yX2_both cX2_both 7 (some .int) 5 := ⟨⟨bt5 65 rfl rfl, bt1 6 rfl rfl, by decide, by decide, by decide +kernel⟩, bt5 63 rfl rfl, bt5 64 rfl rfl⟩
set_option maxRecDepth 20000 in
theorem ml_RL_198 : Cond.methodLink RL 198 yL_take ∈ bigW := bt3 209 rfl rfl
set_option maxRecDepth 20000 in
theorem mh_L_take : MIh yL_take cL_take 4 (some .int) [(0, 10, 13, 19)] 3 := ⟨bt3 211 rfl rfl, bt1 0 rfl rfl, bt3 210 rfl rfl, by decide, by decide, by decide +kernel⟩
set_option maxRecDepth 20000 in
theorem ml_RL_200 : Cond.methodLink RL 200 yX2_take ∈ bigW := bt5 66 rfl rfl
set_option maxRecDepth 20000 in
theorem mi_X2_take : MIv RX2 yX2_take cX2_take 2 (some .int) 1 := ⟨⟨bt5 69 rfl rfl, bt1 6 rfl rfl, by decide, by decide, by decide +kernel⟩, bt5 67 rfl rfl, bt5 68 rfl rfl⟩
set_option maxRecDepth 20000 in
theorem ml_RL_201 : Cond.methodLink RL 201 yL_takeOrLeave ∈ bigW := bt3 220 rfl rfl
set_option maxRecDepth 20000 in
theorem mh_L_takeOrLeave : MIh yL_takeOrLeave cL_takeOrLeave 4 (some .int) [(0, 10, 13, 19)] 3 := ⟨bt3 222 rfl rfl, bt1 0 rfl rfl, bt3 221 rfl rfl, by decide, by decide, by decide +kernel⟩
set_option maxRecDepth 20000 in
theorem ml_RL_203 : Cond.methodLink RL 203 yX2_takeOrLeave ∈ bigW := bt5 74 rfl rfl
set_option maxRecDepth 20000 in
theorem mi_X2_takeOrLeave : MIv RX2 yX2_takeOrLeave cX2_takeOrLeave 2 (some .int) 1 := ⟨⟨bt5 77 rfl rfl, bt1 6 rfl rfl, by decide, by decide, by decide +kernel⟩, bt5 75 rfl rfl, bt5 76 rfl rfl⟩
set_option maxRecDepth 20000 in
theorem ml_RL_204 : Cond.methodLink RL 204 yL_get ∈ bigW := bt3 227 rfl rfl
set_option maxRecDepth 20000 in
theorem mh_L_get : MIh yL_get cL_get 4 (some .int) [(0, 10, 13, 19)] 3 := ⟨bt3 229 rfl rfl, bt1 0 rfl rfl, bt3 228 rfl rfl, by decide, by decide, by decide +kernel⟩
set_option maxRecDepth 20000 in
theorem ml_RL_206 : Cond.methodLink RL 206 yX2_get ∈ bigW := bt5 78 rfl rfl
set_option maxRecDepth 20000 in
theorem ml_RL_207 : Cond.methodLink RL 207 yL_orElse ∈ bigW := bt3 238 rfl rfl
set_option maxRecDepth 20000 in
theorem mh_L_orElse : MIh yL_orElse cL_orElse 5 (some .int) [(0, 11, 14, 19), (0, 11, 18, 21)] 4 := ⟨bt4 0 rfl rfl, bt1 0 rfl rfl, bt3 239 rfl rfl, by decide, by decide, by decide +kernel⟩
set_option maxRecDepth 20000 in
theorem ml_RL_209 : Cond.methodLink RL 209 yX2_orElse ∈ bigW := bt5 86 rfl rfl
set_option maxRecDepth 20000 in
theorem ml_RL_210 : Cond.methodLink RL 210 yL_orElseGet ∈ bigW := bt4 5 rfl rfl
set_option maxRecDepth 20000 in
theorem mh_L_orElseGet : MIh yL_orElseGet cL_orElseGet 5 (some .int) [(0, 11, 14, 19), (0, 11, 18, 21)] 4 := ⟨bt4 7 rfl rfl, bt1 0 rfl rfl, bt4 6 rfl rfl, by decide, by decide, by decide +kernel⟩
set_option maxRecDepth 20000 in
theorem ml_RL_212 : Cond.methodLink RL 212 yX2_orElseGet ∈ bigW := bt5 90 rfl rfl
set_option maxRecDepth 20000 in
theorem mi_X2_orElseGet : MIv RX2 yX2_orElseGet cX2_orElseGet 4 (some .int) 2 := ⟨⟨bt5 93 rfl rfl, bt1 6 rfl rfl, by decide, by decide, by decide +kernel⟩, bt5 91 rfl rfl, bt5 92 rfl rfl⟩
set_option maxRecDepth 20000 in
theorem ml_RL_213 : Cond.methodLink RL 213 yL_orElseThrow ∈ bigW := bt4 12 rfl rfl
set_option maxRecDepth 20000 in
theorem mh_L_orElseThrow : MIh yL_orElseThrow cL_orElseThrow 4 (some .int) [(0, 10, 13, 19), (0, 10, 16, 73)] 3 := ⟨bt4 14 rfl rfl, bt1 0 rfl rfl, bt4 13 rfl rfl, by decide, by decide, by decide +kernel⟩
set_option maxRecDepth 20000 in
theorem ml_RL_215 : Cond.methodLink RL 215 yX2_orElseThrow ∈ bigW := bt5 94 rfl rfl
set_option maxRecDepth 20000 in
theorem mi_X2_orElseThrow : MIv RX2 yX2_orElseThrow cX2_orElseThrow 2 (some .int) 1 := ⟨⟨bt5 97 rfl rfl, bt1 6 rfl rfl, by decide, by decide, by decide +kernel⟩, bt5 95 rfl rfl, bt5 96 rfl rfl⟩
set_option maxRecDepth 20000 in
theorem ml_RL_216 : Cond.methodLink RL 216 yL_isFull ∈ bigW := bt4 36 rfl rfl
set_option maxRecDepth 20000 in
theorem mh_L_isFull : MIh yL_isFull cL_isFull 4 (some .int) [(0, 17, 20, 19)] 3 := ⟨bt4 38 rfl rfl, bt1 0 rfl rfl, bt4 37 rfl rfl, by decide, by decide, by decide +kernel⟩
set_option maxRecDepth 20000 in
theorem ml_RL_218 : Cond.methodLink RL 218 yX2_isFull ∈ bigW := bt5 98 rfl rfl
set_option maxRecDepth 20000 in
theorem ml_RL_219 : Cond.methodLink RL 219 yL_isEmpty ∈ bigW := bt4 43 rfl rfl
set_option maxRecDepth 20000 in
theorem mh_L_isEmpty : MIh yL_isEmpty cL_isEmpty 4 (some .int) [(0, 17, 20, 19)] 3 := ⟨bt4 45 rfl rfl, bt1 0 rfl rfl, bt4 44 rfl rfl, by decide, by decide, by decide +kernel⟩
set_option maxRecDepth 20000 in
theorem ml_RL_221 : Cond.methodLink RL 221 yX2_isEmpty ∈ bigW := bt5 102 rfl rfl
set_option maxRecDepth 20000 in
theorem ml_RL_222 : Cond.methodLink RL 222 yL_isLike ∈ bigW := bt4 50 rfl rfl
set_option maxRecDepth 20000 in
theorem mh_L_isLike : MIh yL_isLike cL_isLike 5 (some .int) [(0, 18, 21, 19)] 4 := ⟨bt4 52 rfl rfl, bt1 0 rfl rfl, bt4 51 rfl rfl, by decide, by decide, by decide +kernel⟩
set_option maxRecDepth 20000 in
theorem ml_RL_224 : Cond.methodLink RL 224 yX2_isLike ∈ bigW := bt5 106 rfl rfl
set_option maxRecDepth 20000 in
theorem ml_RL_225 : Cond.methodLink RL 225 yL_code ∈ bigW := bt4 54 rfl rfl
set_option maxRecDepth 20000 in
theorem mh_L_code : MIh yL_code cL_code 4 (some .int) [(0, 10, 13, 19)] 3 := ⟨bt4 56 rfl rfl, bt1 0 rfl rfl, bt4 55 rfl rfl, by decide, by decide, by decide +kernel⟩
set_option maxRecDepth 20000 in
theorem ml_RL_227 : Cond.methodLink RL 227 yX2_code ∈ bigW := bt5 110 rfl rfl
set_option maxRecDepth 20000 in
theorem ml_RL_228 : Cond.methodLink RL 228 yL_fillPlain ∈ bigW := bt4 61 rfl rfl
set_option maxRecDepth 20000 in
theorem mh_L_fillPlain : MIh yL_fillPlain cL_fillPlain 5 (some .int) [(0, 11, 14, 19), (0, 11, 18, 21)] 4 := ⟨bt4 63 rfl rfl, bt1 0 rfl rfl, bt4 62 rfl rfl, by decide, by decide, by decide +kernel⟩
set_option maxRecDepth 20000 in
theorem ml_RL_230 : Cond.methodLink RL 230 yX2_fillPlain ∈ bigW := bt5 117 rfl rfl
set_option maxRecDepth 20000 in
theorem mi_X2_fillPlain : MIv RX2 yX2_fillPlain cX2_fillPlain 4 (some .int) 2 := ⟨⟨bt5 120 rfl rfl, bt1 6 rfl rfl, by decide, by decide, by decide +kernel⟩, bt5 118 rfl rfl, bt5 119 rfl rfl⟩
set_option maxRecDepth 20000 in
theorem ml_RL_231 : Cond.methodLink RL 231 yL_emptyPlain ∈ bigW := bt4 72 rfl rfl
set_option maxRecDepth 20000 in
theorem mh_L_emptyPlain : MIh yL_emptyPlain cL_emptyPlain 4 (some .int) [(0, 10, 13, 19)] 3 := ⟨bt4 74 rfl rfl, bt1 0 rfl rfl, bt4 73 rfl rfl, by decide, by decide, by decide +kernel⟩
set_option maxRecDepth 20000 in
theorem ml_RL_233 : Cond.methodLink RL 233 yX2_emptyPlain ∈ bigW := bt5 124 rfl rfl
set_option maxRecDepth 20000 in
theorem mi_X2_emptyPlain : MIv RX2 yX2_emptyPlain cX2_emptyPlain 3 (some .int) 1 := ⟨⟨bt5 127 rfl rfl, bt1 6 rfl rfl, by decide, by decide, by decide +kernel⟩, bt5 125 rfl rfl, bt5 126 rfl rfl⟩
set_option maxRecDepth 20000 in
theorem ml_RL_234 : Cond.methodLink RL 234 yL_getPlain ∈ bigW := bt4 79 rfl rfl
set_option maxRecDepth 20000 in
theorem mh_L_getPlain : MIh yL_getPlain cL_getPlain 4 (some .int) [(0, 10, 13, 19)] 3 := ⟨bt4 81 rfl rfl, bt1 0 rfl rfl, bt4 80 rfl rfl, by decide, by decide, by decide +kernel⟩
set_option maxRecDepth 20000 in
theorem ml_RL_236 : Cond.methodLink RL 236 yX2_getPlain ∈ bigW := bt5 128 rfl rfl
set_option maxRecDepth 20000 in
theorem mi_X2_getPlain : MIv RX2 yX2_getPlain cX2_getPlain 2 (some .int) 1 := ⟨⟨bt5 131 rfl rfl, bt1 6 rfl rfl, by decide, by decide, by decide +kernel⟩, bt5 129 rfl rfl, bt5 130 rfl rfl⟩
set_option maxRecDepth 20000 in
theorem ml_RL_237 : Cond.methodLink RL 237 yL_orElsePlain ∈ bigW := bt4 86 rfl rfl
set_option maxRecDepth 20000 in
theorem mh_L_orElsePlain : MIh yL_orElsePlain cL_orElsePlain 5 (some .int) [(0, 11, 14, 19), (0, 11, 18, 21)] 4 := ⟨bt4 88 rfl rfl, bt1 0 rfl rfl, bt4 87 rfl rfl, by decide, by decide, by decide +kernel⟩
set_option maxRecDepth 20000 in
theorem ml_RL_239 : Cond.methodLink RL 239 yX2_orElsePlain ∈ bigW := bt5 132 rfl rfl
set_option maxRecDepth 20000 in
theorem mi_X2_orElsePlain : MIv RX2 yX2_orElsePlain cX2_orElsePlain 3 (some .int) 2 := ⟨⟨bt5 135 rfl rfl, bt1 6 rfl rfl, by decide, by decide, by decide +kernel⟩, bt5 133 rfl rfl, bt5 134 rfl rfl⟩
set_option maxRecDepth 20000 in
theorem ml_RL_240 : Cond.methodLink RL 240 yL_isFullPlain ∈ bigW := bt4 93 rfl rfl
set_option maxRecDepth 20000 in
theorem mh_L_isFullPlain : MIh yL_isFullPlain cL_isFullPlain 4 (some .int) [(0, 17, 20, 19)] 3 := ⟨bt4 95 rfl rfl, bt1 0 rfl rfl, bt4 94 rfl rfl, by decide, by decide, by decide +kernel⟩
set_option maxRecDepth 20000 in
theorem ml_RL_242 : Cond.methodLink RL 242 yX2_isFullPlain ∈ bigW := bt5 136 rfl rfl
set_option maxRecDepth 20000 in
theorem mi_X2_isFullPlain : MIv RX2 yX2_isFullPlain cX2_isFullPlain 2 (some .boolean) 1 := ⟨⟨bt5 139 rfl rfl, bt1 6 rfl rfl, by decide, by decide, by decide +kernel⟩, bt5 137 rfl rfl, bt5 138 rfl rfl⟩
set_option maxRecDepth 20000 in
theorem ml_RL_243 : Cond.methodLink RL 243 yL_takePlain ∈ bigW := bt4 100 rfl rfl
set_option maxRecDepth 20000 in
theorem mh_L_takePlain : MIh yL_takePlain cL_takePlain 4 (some .int) [(0, 10, 13, 19)] 3 := ⟨bt4 102 rfl rfl, bt1 0 rfl rfl, bt4 101 rfl rfl, by decide, by decide, by decide +kernel⟩
set_option maxRecDepth 20000 in
theorem ml_RL_245 : Cond.methodLink RL 245 yX2_takePlain ∈ bigW := bt5 140 rfl rfl
set_option maxRecDepth 20000 in
theorem mi_X2_takePlain : MIv RX2 yX2_takePlain cX2_takePlain 2 (some .int) 1 := ⟨⟨bt5 143 rfl rfl, bt1 6 rfl rfl, by decide, by decide, by decide +kernel⟩, bt5 141 rfl rfl, bt5 142 rfl rfl⟩
set_option maxRecDepth 20000 in
theorem ml_RL_246 : Cond.methodLink RL 246 yX0_arePlainLike ∈ bigW := bt1 93 rfl rfl
set_option maxRecDepth 20000 in
theorem mi_X0_arePlainLike : MIv RX0 yX0_arePlainLike cX0_arePlainLike 1 (some .boolean) 0 := ⟨⟨bt1 96 rfl rfl, bt1 1 rfl rfl, by decide, by decide, by decide +kernel⟩, bt1 94 rfl rfl, bt1 95 rfl rfl⟩
set_option maxRecDepth 20000 in
theorem ml_RL_250 : Cond.methodLink RL 250 yX2_arePlainLike ∈ bigW := bt5 144 rfl rfl
set_option maxRecDepth 20000 in
theorem mi_X2_arePlainLike : MIv RX2 yX2_arePlainLike cX2_arePlainLike 1 (some .boolean) 0 := ⟨⟨bt5 147 rfl rfl, bt1 6 rfl rfl, by decide, by decide, by decide +kernel⟩, bt5 145 rfl rfl, bt5 146 rfl rfl⟩
set_option maxRecDepth 20000 in
theorem ml_RL_251 : Cond.methodLink RL 251 yL_toPlain ∈ bigW := bt4 107 rfl rfl
set_option maxRecDepth 20000 in
theorem mh_L_toPlain : MIh yL_toPlain cL_toPlain 5 (some .int) [(0, 11, 14, 19)] 4 := ⟨bt4 109 rfl rfl, bt1 0 rfl rfl, bt4 108 rfl rfl, by decide, by decide, by decide +kernel⟩
set_option maxRecDepth 20000 in
theorem ml_RL_253 : Cond.methodLink RL 253 yX2_toPlain ∈ bigW := bt5 148 rfl rfl
set_option maxRecDepth 20000 in
theorem mi_X2_toPlain : MIv RX2 yX2_toPlain cX2_toPlain 3 (some .int) 2 := ⟨⟨bt5 151 rfl rfl, bt1 6 rfl rfl, by decide, by decide, by decide +kernel⟩, bt5 149 rfl rfl, bt5 150 rfl rfl⟩
set_option maxRecDepth 20000 in
theorem ml_RL_254 : Cond.methodLink RL 254 yL_fromPlain ∈ bigW := bt4 114 rfl rfl
set_option maxRecDepth 20000 in
theorem mh_L_fromPlain : MIh yL_fromPlain cL_fromPlain 5 (some .int) [(0, 11, 14, 19)] 4 := ⟨bt4 116 rfl rfl, bt1 0 rfl rfl, bt4 115 rfl rfl, by decide, by decide, by decide +kernel⟩
set_option maxRecDepth 20000 in
theorem ml_RL_256 : Cond.methodLink RL 256 yX2_fromPlain ∈ bigW := bt5 152 rfl rfl
set_option maxRecDepth 20000 in
theorem mi_X2_fromPlain : MIv RX2 yX2_fromPlain cX2_fromPlain 3 (some .int) 2 := ⟨⟨bt5 155 rfl rfl, bt1 6 rfl rfl, by decide, by decide, by decide +kernel⟩, bt5 153 rfl rfl, bt5 154 rfl rfl⟩
set_option maxRecDepth 20000 in
theorem ml_RL_257 : Cond.methodLink RL 257 yL_areLike ∈ bigW := bt4 121 rfl rfl
set_option maxRecDepth 20000 in
theorem mh_L_areLike : MIh yL_areLike cL_areLike 5 (some .int) [(0, 18, 21, 19)] 4 := ⟨bt4 123 rfl rfl, bt1 0 rfl rfl, bt4 122 rfl rfl, by decide, by decide, by decide +kernel⟩
set_option maxRecDepth 20000 in
theorem ml_RL_259 : Cond.methodLink RL 259 yX2_areLike ∈ bigW := bt5 156 rfl rfl
set_option maxRecDepth 20000 in
theorem mi_X2_areLike : MIv RX2 yX2_areLike cX2_areLike 3 (some .boolean) 2 := ⟨⟨bt5 159 rfl rfl, bt1 6 rfl rfl, by decide, by decide, by decide +kernel⟩, bt5 157 rfl rfl, bt5 158 rfl rfl⟩
set_option maxRecDepth 20000 in
theorem ml_RL_260 : Cond.methodLink RL 260 yL_compare ∈ bigW := bt4 125 rfl rfl
set_option maxRecDepth 20000 in
theorem mh_L_compare : MIh yL_compare cL_compare 6 (some .int) [(0, 13, 16, 19), (0, 13, 20, 21)] 5 := ⟨bt4 127 rfl rfl, bt1 0 rfl rfl, bt4 126 rfl rfl, by decide, by decide, by decide +kernel⟩
set_option maxRecDepth 20000 in
theorem ml_RL_262 : Cond.methodLink RL 262 yX2_compare ∈ bigW := bt5 161 rfl rfl
set_option maxRecDepth 20000 in
theorem mi_X2_compare : MIv RX2 yX2_compare cX2_compare 4 (some .int) 3 := ⟨⟨bt5 164 rfl rfl, bt1 6 rfl rfl, by decide, by decide, by decide +kernel⟩, bt5 162 rfl rfl, bt5 163 rfl rfl⟩
set_option maxRecDepth 20000 in
theorem ml_RL_263 : Cond.methodLink RL 263 yL_codes ∈ bigW := bt4 129 rfl rfl
set_option maxRecDepth 20000 in
theorem mh_L_codes : MIh yL_codes cL_codes 6 (some .int) [(0, 13, 16, 19)] 5 := ⟨bt4 131 rfl rfl, bt1 0 rfl rfl, bt4 130 rfl rfl, by decide, by decide, by decide +kernel⟩
set_option maxRecDepth 20000 in
theorem ml_RL_265 : Cond.methodLink RL 265 yX2_codes ∈ bigW := bt5 169 rfl rfl
set_option maxRecDepth 20000 in
theorem mi_X2_codes : MIv RX2 yX2_codes cX2_codes 4 (some .int) 3 := ⟨⟨bt5 172 rfl rfl, bt1 6 rfl rfl, by decide, by decide, by decide +kernel⟩, bt5 170 rfl rfl, bt5 171 rfl rfl⟩
set_option maxRecDepth 20000 in
theorem ml_RL_266 : Cond.methodLink RL 266 yL_codeOf ∈ bigW := bt4 133 rfl rfl
set_option maxRecDepth 20000 in
theorem mh_L_codeOf : MIh yL_codeOf cL_codeOf 4 (some .int) [(0, 10, 13, 19)] 3 := ⟨bt4 135 rfl rfl, bt1 0 rfl rfl, bt4 134 rfl rfl, by decide, by decide, by decide +kernel⟩
set_option maxRecDepth 20000 in
theorem ml_RL_268 : Cond.methodLink RL 268 yX2_codeOf ∈ bigW := bt5 177 rfl rfl
set_option maxRecDepth 20000 in
theorem mi_X2_codeOf : MIv RX2 yX2_codeOf cX2_codeOf 2 (some .int) 1 := ⟨⟨bt5 180 rfl rfl, bt1 6 rfl rfl, by decide, by decide, by decide +kernel⟩, bt5 178 rfl rfl, bt5 179 rfl rfl⟩
set_option maxRecDepth 20000 in
theorem ml_RL_269 : Cond.methodLink RL 269 yL_must ∈ bigW := bt4 140 rfl rfl
set_option maxRecDepth 20000 in
theorem mh_L_must : MIh yL_must cL_must 4 (some .int) [(0, 10, 13, 19)] 3 := ⟨bt4 142 rfl rfl, bt1 0 rfl rfl, bt4 141 rfl rfl, by decide, by decide, by decide +kernel⟩
set_option maxRecDepth 20000 in
theorem ml_RL_271 : Cond.methodLink RL 271 yX2_must ∈ bigW := bt5 182 rfl rfl
set_option maxRecDepth 20000 in
theorem mi_X2_must : MIv RX2 yX2_must cX2_must 2 (some .int) 1 := ⟨⟨bt5 185 rfl rfl, bt1 6 rfl rfl, by decide, by decide, by decide +kernel⟩, bt5 183 rfl rfl, bt5 184 rfl rfl⟩
set_option maxRecDepth 20000 in
theorem ml_RL_272 : Cond.methodLink RL 272 yL_mustElse ∈ bigW := bt4 147 rfl rfl
set_option maxRecDepth 20000 in
theorem mh_L_mustElse : MIh yL_mustElse cL_mustElse 5 (some .int) [(0, 11, 14, 19), (0, 11, 18, 21)] 4 := ⟨bt4 149 rfl rfl, bt1 0 rfl rfl, bt4 148 rfl rfl, by decide, by decide, by decide +kernel⟩
set_option maxRecDepth 20000 in
theorem ml_RL_274 : Cond.methodLink RL 274 yX2_mustElse ∈ bigW := bt5 187 rfl rfl
set_option maxRecDepth 20000 in
theorem mi_X2_mustElse : MIv RX2 yX2_mustElse cX2_mustElse 3 (some .int) 2 := ⟨⟨bt5 190 rfl rfl, bt1 6 rfl rfl, by decide, by decide, by decide +kernel⟩, bt5 188 rfl rfl, bt5 189 rfl rfl⟩
set_option maxRecDepth 20000 in
theorem ml_RL_275 : Cond.methodLink RL 275 yL_isNothing ∈ bigW := bt4 154 rfl rfl
set_option maxRecDepth 20000 in
theorem mh_L_isNothing : MIh yL_isNothing cL_isNothing 4 (some .int) [(0, 17, 20, 19)] 3 := ⟨bt4 156 rfl rfl, bt1 0 rfl rfl, bt4 155 rfl rfl, by decide, by decide, by decide +kernel⟩
set_option maxRecDepth 20000 in
theorem ml_RL_277 : Cond.methodLink RL 277 yX2_isNothing ∈ bigW := bt5 192 rfl rfl
set_option maxRecDepth 20000 in
theorem mi_X2_isNothing : MIv RX2 yX2_isNothing cX2_isNothing 2 (some .boolean) 1 := ⟨⟨bt5 195 rfl rfl, bt1 6 rfl rfl, by decide, by decide, by decide +kernel⟩, bt5 193 rfl rfl, bt5 194 rfl rfl⟩
set_option maxRecDepth 20000 in
theorem ml_RL_278 : Cond.methodLink RL 278 yL_isSomething ∈ bigW := bt4 161 rfl rfl
set_option maxRecDepth 20000 in
theorem mh_L_isSomething : MIh yL_isSomething cL_isSomething 4 (some .int) [(0, 17, 20, 19)] 3 := ⟨bt4 163 rfl rfl, bt1 0 rfl rfl, bt4 162 rfl rfl, by decide, by decide, by decide +kernel⟩
set_option maxRecDepth 20000 in
theorem ml_RL_280 : Cond.methodLink RL 280 yX2_isSomething ∈ bigW := bt5 197 rfl rfl
set_option maxRecDepth 20000 in
theorem mi_X2_isSomething : MIv RX2 yX2_isSomething cX2_isSomething 2 (some .boolean) 1 := ⟨⟨bt5 200 rfl rfl, bt1 6 rfl rfl, by decide, by decide, by decide +kernel⟩, bt5 198 rfl rfl, bt5 199 rfl rfl⟩
set_option maxRecDepth 20000 in
theorem ml_RL_281 : Cond.methodLink RL 281 yL_told ∈ bigW := bt4 168 rfl rfl
set_option maxRecDepth 20000 in
theorem mh_L_told : MIh yL_told cL_told 4 (some .int) [(0, 9, 12, 19)] 3 := ⟨bt4 170 rfl rfl, bt1 0 rfl rfl, bt4 169 rfl rfl, by decide, by decide, by decide +kernel⟩
set_option maxRecDepth 20000 in
theorem ml_RL_283 : Cond.methodLink RL 283 yX2_told ∈ bigW := bt5 202 rfl rfl
set_option maxRecDepth 20000 in
theorem mi_X2_told : MIv RX2 yX2_told cX2_told 2 (some (.object "java/lang/String")) 1 := ⟨⟨bt5 205 rfl rfl, bt1 6 rfl rfl, by decide, by decide, by decide +kernel⟩, bt5 203 rfl rfl, bt5 204 rfl rfl⟩
set_option maxRecDepth 20000 in
theorem ml_RL_284 : Cond.methodLink RL 284 yJ0_equals_9ea2d ∈ bigW := bt6 10 rfl rfl
set_option maxRecDepth 20000 in
theorem mi_J0_equals_9ea2d : MIv RJ0 yJ0_equals_9ea2d cJ0_equals_9ea2d 3 (some .boolean) 1 := ⟨⟨bt6 13 rfl rfl, bt1 4 rfl rfl, by decide, by decide, by decide +kernel⟩, bt6 11 rfl rfl, bt6 12 rfl rfl⟩
set_option maxRecDepth 20000 in
theorem ml_RL_290 : Cond.methodLink RL 290 yL_place ∈ bigW := bt4 176 rfl rfl
set_option maxRecDepth 20000 in
theorem mh_L_place : MIh yL_place cL_place 5 (some .int) [(0, 11, 14, 21), (0, 11, 18, 19)] 4 := ⟨bt4 178 rfl rfl, bt1 0 rfl rfl, bt4 177 rfl rfl, by decide, by decide, by decide +kernel⟩
set_option maxRecDepth 20000 in
theorem ml_RL_292 : Cond.methodLink RL 292 yX2_place ∈ bigW := bt5 216 rfl rfl
set_option maxRecDepth 20000 in
theorem mi_X2_place : MIv RX2 yX2_place cX2_place 3 (some .int) 2 := ⟨⟨bt5 219 rfl rfl, bt1 6 rfl rfl, by decide, by decide, by decide +kernel⟩, bt5 217 rfl rfl, bt5 218 rfl rfl⟩
set_option maxRecDepth 20000 in
theorem ml_RL_293 : Cond.methodLink RL 293 yX0_knock ∈ bigW := bt1 100 rfl rfl
set_option maxRecDepth 20000 in
theorem mi_X0_knock : MIv RX0 yX0_knock cX0_knock 1 (some .int) 0 := ⟨⟨bt1 103 rfl rfl, bt1 1 rfl rfl, by decide, by decide, by decide +kernel⟩, bt1 101 rfl rfl, bt1 102 rfl rfl⟩
set_option maxRecDepth 20000 in
theorem ml_RL_296 : Cond.methodLink RL 296 yX2_knock ∈ bigW := bt5 220 rfl rfl
set_option maxRecDepth 20000 in
theorem mi_X2_knock : MIv RX2 yX2_knock cX2_knock 1 (some .int) 0 := ⟨⟨bt5 223 rfl rfl, bt1 6 rfl rfl, by decide, by decide, by decide +kernel⟩, bt5 221 rfl rfl, bt5 222 rfl rfl⟩
set_option maxRecDepth 20000 in
theorem ml_RL_297 : Cond.methodLink RL 297 yL_house ∈ bigW := bt4 185 rfl rfl
set_option maxRecDepth 20000 in
theorem mh_L_house : MIh yL_house cL_house 4 (some .int) [(0, 10, 13, 21)] 3 := ⟨bt4 187 rfl rfl, bt1 0 rfl rfl, bt4 186 rfl rfl, by decide, by decide, by decide +kernel⟩
set_option maxRecDepth 20000 in
theorem ml_RL_299 : Cond.methodLink RL 299 yX2_house ∈ bigW := bt5 224 rfl rfl
set_option maxRecDepth 20000 in
theorem mi_X2_house : MIv RX2 yX2_house cX2_house 2 (some .int) 1 := ⟨⟨bt5 227 rfl rfl, bt1 6 rfl rfl, by decide, by decide, by decide +kernel⟩, bt5 225 rfl rfl, bt5 226 rfl rfl⟩
set_option maxRecDepth 20000 in
theorem ml_RL_300 : Cond.methodLink RL 300 yX0_isSound ∈ bigW := bt1 104 rfl rfl
set_option maxRecDepth 20000 in
theorem ml_RL_303 : Cond.methodLink RL 303 yX2_isSound ∈ bigW := bt5 232 rfl rfl
set_option maxRecDepth 20000 in
theorem mi_X2_isSound : MIv RX2 yX2_isSound cX2_isSound 1 (some .boolean) 0 := ⟨⟨bt5 235 rfl rfl, bt1 6 rfl rfl, by decide, by decide, by decide +kernel⟩, bt5 233 rfl rfl, bt5 234 rfl rfl⟩
set_option maxRecDepth 20000 in
theorem ml_RL_304 : Cond.methodLink RL 304 yX0_digest ∈ bigW := bt2 46 rfl rfl
set_option maxRecDepth 20000 in
theorem mi_X0_digest : MIv RX0 yX0_digest cX0_digest 4 (some .long) 0 := ⟨⟨bt2 49 rfl rfl, bt1 1 rfl rfl, by decide, by decide, by decide +kernel⟩, bt2 47 rfl rfl, bt2 48 rfl rfl⟩
set_option maxRecDepth 20000 in
theorem ml_RL_308 : Cond.methodLink RL 308 yX2_digest ∈ bigW := bt6 0 rfl rfl
set_option maxRecDepth 20000 in
theorem mi_X2_digest : MIv RX2 yX2_digest cX2_digest 12 (some .long) 0 := ⟨⟨bt6 3 rfl rfl, bt1 6 rfl rfl, by decide, by decide, by decide +kernel⟩, bt6 1 rfl rfl, bt6 2 rfl rfl⟩
theorem dL_law_232 : decode cL_law 232 = .ok (.aload_n 1, 1) := dc_row (B := pc_L_law_w9) (a := 216) (p := 16) pc_L_law_a9 (by decide +kernel)
theorem dL_law_233 : decode cL_law 233 = .ok (.aload_n 0, 1) := dc_row (B := pc_L_law_w9) (a := 216) (p := 17) pc_L_law_a9 (by decide +kernel)
theorem dL_law_234 : decode cL_law 234 = .ok (.iload 4, 2) := dc_row (B := pc_L_law_w9) (a := 216) (p := 18) pc_L_law_a9 (by decide +kernel)
theorem dL_law_236 : decode cL_law 236 = .ok (.iconst 1, 1) := dc_row (B := pc_L_law_w9) (a := 216) (p := 20) pc_L_law_a9 (by decide +kernel)
theorem dL_law_237 : decode cL_law 237 = .ok (.iadd, 1) := dc_row (B := pc_L_law_w9) (a := 216) (p := 21) pc_L_law_a9 (by decide +kernel)
theorem dL_law_238 : decode cL_law 238 = .ok (.iaload, 1) := dc_row (B := pc_L_law_w9) (a := 216) (p := 22) pc_L_law_a9 (by decide +kernel)
theorem dL_law_239 : decode cL_law 239 = .ok (.aload_n 0, 1) := dc_row (B := pc_L_law_w9) (a := 216) (p := 23) pc_L_law_a9 (by decide +kernel)
theorem dL_law_240 : decode cL_law 240 = .ok (.iload 4, 2) := dc_row (B := pc_L_law_w10) (a := 240) (p := 0) pc_L_law_a10 (by decide +kernel)
theorem dL_law_242 : decode cL_law 242 = .ok (.iconst 2, 1) := dc_row (B := pc_L_law_w10) (a := 240) (p := 2) pc_L_law_a10 (by decide +kernel)
theorem dL_law_243 : decode cL_law 243 = .ok (.iadd, 1) := dc_row (B := pc_L_law_w10) (a := 240) (p := 3) pc_L_law_a10 (by decide +kernel)
theorem dL_law_244 : decode cL_law 244 = .ok (.iaload, 1) := dc_row (B := pc_L_law_w10) (a := 240) (p := 4) pc_L_law_a10 (by decide +kernel)
theorem dL_law_245 : decode cL_law 245 = .ok (.aload_n 3, 1) := dc_row (B := pc_L_law_w10) (a := 240) (p := 5) pc_L_law_a10 (by decide +kernel)
theorem dL_law_246 : decode cL_law 246 = .ok (.invokestatic 156, 3) := dc_row (B := pc_L_law_w10) (a := 240) (p := 6) pc_L_law_a10 (by decide +kernel)
theorem dL_law_249 : decode cL_law 249 = .ok (.istore 5, 2) := dc_row (B := pc_L_law_w10) (a := 240) (p := 9) pc_L_law_a10 (by decide +kernel)
theorem dL_law_251 : decode cL_law 251 = .ok (.aload_n 2, 1) := dc_row (B := pc_L_law_w10) (a := 240) (p := 11) pc_L_law_a10 (by decide +kernel)
theorem dL_law_252 : decode cL_law 252 = .ok (.aload_n 0, 1) := dc_row (B := pc_L_law_w10) (a := 240) (p := 12) pc_L_law_a10 (by decide +kernel)
theorem dL_law_253 : decode cL_law 253 = .ok (.iload 4, 2) := dc_row (B := pc_L_law_w10) (a := 240) (p := 13) pc_L_law_a10 (by decide +kernel)
theorem dL_law_255 : decode cL_law 255 = .ok (.iconst 1, 1) := dc_row (B := pc_L_law_w10) (a := 240) (p := 15) pc_L_law_a10 (by decide +kernel)
theorem dL_law_256 : decode cL_law 256 = .ok (.iadd, 1) := dc_row (B := pc_L_law_w10) (a := 240) (p := 16) pc_L_law_a10 (by decide +kernel)
theorem dL_law_257 : decode cL_law 257 = .ok (.iaload, 1) := dc_row (B := pc_L_law_w10) (a := 240) (p := 17) pc_L_law_a10 (by decide +kernel)
theorem dL_law_258 : decode cL_law 258 = .ok (.aload_n 0, 1) := dc_row (B := pc_L_law_w10) (a := 240) (p := 18) pc_L_law_a10 (by decide +kernel)
theorem dL_law_259 : decode cL_law 259 = .ok (.iload 4, 2) := dc_row (B := pc_L_law_w10) (a := 240) (p := 19) pc_L_law_a10 (by decide +kernel)
theorem dL_law_261 : decode cL_law 261 = .ok (.iconst 2, 1) := dc_row (B := pc_L_law_w10) (a := 240) (p := 21) pc_L_law_a10 (by decide +kernel)
theorem dL_law_262 : decode cL_law 262 = .ok (.iadd, 1) := dc_row (B := pc_L_law_w10) (a := 240) (p := 22) pc_L_law_a10 (by decide +kernel)
theorem dL_law_263 : decode cL_law 263 = .ok (.iaload, 1) := dc_row (B := pc_L_law_w10) (a := 240) (p := 23) pc_L_law_a10 (by decide +kernel)
theorem dL_law_264 : decode cL_law 264 = .ok (.invokevirtual 161, 3) := dc_row (B := pc_L_law_w11) (a := 264) (p := 0) pc_L_law_a11 (by decide +kernel)
theorem dL_law_267 : decode cL_law 267 = .ok (.istore 6, 2) := dc_row (B := pc_L_law_w11) (a := 264) (p := 3) pc_L_law_a11 (by decide +kernel)
theorem dL_law_269 : decode cL_law 269 = .ok (.aload_n 2, 1) := dc_row (B := pc_L_law_w11) (a := 264) (p := 5) pc_L_law_a11 (by decide +kernel)
theorem dL_law_270 : decode cL_law 270 = .ok (.invokevirtual 162, 3) := dc_row (B := pc_L_law_w11) (a := 264) (p := 6) pc_L_law_a11 (by decide +kernel)
theorem dL_law_273 : decode cL_law 273 = .ok (.iload 5, 2) := dc_row (B := pc_L_law_w11) (a := 264) (p := 9) pc_L_law_a11 (by decide +kernel)
theorem dL_law_275 : decode cL_law 275 = .ok (.if_icmp .eq 5, 3) := dc_row (B := pc_L_law_w11) (a := 264) (p := 11) pc_L_law_a11 (by decide +kernel)
theorem dL_law_280 : decode cL_law 280 = .ok (.iload 5, 2) := dc_row (B := pc_L_law_w11) (a := 264) (p := 16) pc_L_law_a11 (by decide +kernel)
theorem dL_law_282 : decode cL_law 282 = .ok (.ifCond .ne 16, 3) := dc_row (B := pc_L_law_w11) (a := 264) (p := 18) pc_L_law_a11 (by decide +kernel)
theorem dL_law_285 : decode cL_law 285 = .ok (.aload_n 3, 1) := dc_row (B := pc_L_law_w11) (a := 264) (p := 21) pc_L_law_a11 (by decide +kernel)
theorem dL_law_286 : decode cL_law 286 = .ok (.getfield 13, 3) := dc_row (B := pc_L_law_w11) (a := 264) (p := 22) pc_L_law_a11 (by decide +kernel)
theorem dL_law_289 : decode cL_law 289 = .ok (.iload 6, 2) := dc_row (B := pc_L_law_w12) (a := 288) (p := 1) pc_L_law_a12 (by decide +kernel)
theorem dL_law_291 : decode cL_law 291 = .ok (.i2l, 1) := dc_row (B := pc_L_law_w12) (a := 288) (p := 3) pc_L_law_a12 (by decide +kernel)
theorem dL_law_292 : decode cL_law 292 = .ok (.lcmp, 1) := dc_row (B := pc_L_law_w12) (a := 288) (p := 4) pc_L_law_a12 (by decide +kernel)
theorem dL_law_293 : decode cL_law 293 = .ok (.ifCond .eq 5, 3) := dc_row (B := pc_L_law_w12) (a := 288) (p := 5) pc_L_law_a12 (by decide +kernel)
theorem dL_law_298 : decode cL_law 298 = .ok (.goto 2684, 3) := dc_row (B := pc_L_law_w12) (a := 288) (p := 10) pc_L_law_a12 (by decide +kernel)
theorem dL_law_301 : decode cL_law 301 = .ok (.aload_n 1, 1) := dc_row (B := pc_L_law_w12) (a := 288) (p := 13) pc_L_law_a12 (by decide +kernel)
theorem dL_law_302 : decode cL_law 302 = .ok (.aload_n 0, 1) := dc_row (B := pc_L_law_w12) (a := 288) (p := 14) pc_L_law_a12 (by decide +kernel)
theorem dL_law_303 : decode cL_law 303 = .ok (.iload 4, 2) := dc_row (B := pc_L_law_w12) (a := 288) (p := 15) pc_L_law_a12 (by decide +kernel)
theorem dL_law_305 : decode cL_law 305 = .ok (.iconst 1, 1) := dc_row (B := pc_L_law_w12) (a := 288) (p := 17) pc_L_law_a12 (by decide +kernel)
theorem dL_law_306 : decode cL_law 306 = .ok (.iadd, 1) := dc_row (B := pc_L_law_w12) (a := 288) (p := 18) pc_L_law_a12 (by decide +kernel)
theorem dL_law_307 : decode cL_law 307 = .ok (.iaload, 1) := dc_row (B := pc_L_law_w12) (a := 288) (p := 19) pc_L_law_a12 (by decide +kernel)
theorem dL_law_308 : decode cL_law 308 = .ok (.aload_n 3, 1) := dc_row (B := pc_L_law_w12) (a := 288) (p := 20) pc_L_law_a12 (by decide +kernel)
theorem dL_law_309 : decode cL_law 309 = .ok (.invokestatic 166, 3) := dc_row (B := pc_L_law_w12) (a := 288) (p := 21) pc_L_law_a12 (by decide +kernel)
theorem dL_law_312 : decode cL_law 312 = .ok (.istore 5, 2) := dc_row (B := pc_L_law_w13) (a := 312) (p := 0) pc_L_law_a13 (by decide +kernel)
theorem dL_law_314 : decode cL_law 314 = .ok (.aload_n 2, 1) := dc_row (B := pc_L_law_w13) (a := 312) (p := 2) pc_L_law_a13 (by decide +kernel)
theorem dL_law_315 : decode cL_law 315 = .ok (.aload_n 0, 1) := dc_row (B := pc_L_law_w13) (a := 312) (p := 3) pc_L_law_a13 (by decide +kernel)
theorem dL_law_316 : decode cL_law 316 = .ok (.iload 4, 2) := dc_row (B := pc_L_law_w13) (a := 312) (p := 4) pc_L_law_a13 (by decide +kernel)
theorem dL_law_318 : decode cL_law 318 = .ok (.iconst 1, 1) := dc_row (B := pc_L_law_w13) (a := 312) (p := 6) pc_L_law_a13 (by decide +kernel)
theorem dL_law_319 : decode cL_law 319 = .ok (.iadd, 1) := dc_row (B := pc_L_law_w13) (a := 312) (p := 7) pc_L_law_a13 (by decide +kernel)
theorem dL_law_320 : decode cL_law 320 = .ok (.iaload, 1) := dc_row (B := pc_L_law_w13) (a := 312) (p := 8) pc_L_law_a13 (by decide +kernel)
theorem dL_law_321 : decode cL_law 321 = .ok (.invokevirtual 169, 3) := dc_row (B := pc_L_law_w13) (a := 312) (p := 9) pc_L_law_a13 (by decide +kernel)
theorem dL_law_324 : decode cL_law 324 = .ok (.istore 6, 2) := dc_row (B := pc_L_law_w13) (a := 312) (p := 12) pc_L_law_a13 (by decide +kernel)
theorem dL_law_326 : decode cL_law 326 = .ok (.aload_n 2, 1) := dc_row (B := pc_L_law_w13) (a := 312) (p := 14) pc_L_law_a13 (by decide +kernel)
theorem dL_law_327 : decode cL_law 327 = .ok (.invokevirtual 162, 3) := dc_row (B := pc_L_law_w13) (a := 312) (p := 15) pc_L_law_a13 (by decide +kernel)
theorem dL_law_330 : decode cL_law 330 = .ok (.iload 5, 2) := dc_row (B := pc_L_law_w13) (a := 312) (p := 18) pc_L_law_a13 (by decide +kernel)
theorem dL_law_332 : decode cL_law 332 = .ok (.if_icmp .eq 5, 3) := dc_row (B := pc_L_law_w13) (a := 312) (p := 20) pc_L_law_a13 (by decide +kernel)
theorem dL_law_337 : decode cL_law 337 = .ok (.iload 5, 2) := dc_row (B := pc_L_law_w14) (a := 336) (p := 1) pc_L_law_a14 (by decide +kernel)
theorem dL_law_339 : decode cL_law 339 = .ok (.ifCond .ne 16, 3) := dc_row (B := pc_L_law_w14) (a := 336) (p := 3) pc_L_law_a14 (by decide +kernel)
theorem dL_law_342 : decode cL_law 342 = .ok (.aload_n 3, 1) := dc_row (B := pc_L_law_w14) (a := 336) (p := 6) pc_L_law_a14 (by decide +kernel)
theorem dL_law_343 : decode cL_law 343 = .ok (.getfield 13, 3) := dc_row (B := pc_L_law_w14) (a := 336) (p := 7) pc_L_law_a14 (by decide +kernel)
theorem dL_law_346 : decode cL_law 346 = .ok (.iload 6, 2) := dc_row (B := pc_L_law_w14) (a := 336) (p := 10) pc_L_law_a14 (by decide +kernel)
theorem dL_law_348 : decode cL_law 348 = .ok (.i2l, 1) := dc_row (B := pc_L_law_w14) (a := 336) (p := 12) pc_L_law_a14 (by decide +kernel)
theorem dL_law_349 : decode cL_law 349 = .ok (.lcmp, 1) := dc_row (B := pc_L_law_w14) (a := 336) (p := 13) pc_L_law_a14 (by decide +kernel)
theorem dL_law_350 : decode cL_law 350 = .ok (.ifCond .eq 5, 3) := dc_row (B := pc_L_law_w14) (a := 336) (p := 14) pc_L_law_a14 (by decide +kernel)
theorem dL_law_355 : decode cL_law 355 = .ok (.goto 2627, 3) := dc_row (B := pc_L_law_w14) (a := 336) (p := 19) pc_L_law_a14 (by decide +kernel)
theorem dL_law_358 : decode cL_law 358 = .ok (.aload_n 1, 1) := dc_row (B := pc_L_law_w14) (a := 336) (p := 22) pc_L_law_a14 (by decide +kernel)
theorem dL_law_359 : decode cL_law 359 = .ok (.aload_n 0, 1) := dc_row (B := pc_L_law_w14) (a := 336) (p := 23) pc_L_law_a14 (by decide +kernel)
theorem dL_law_360 : decode cL_law 360 = .ok (.iload 4, 2) := dc_row (B := pc_L_law_w15) (a := 360) (p := 0) pc_L_law_a15 (by decide +kernel)
theorem dL_law_362 : decode cL_law 362 = .ok (.iconst 1, 1) := dc_row (B := pc_L_law_w15) (a := 360) (p := 2) pc_L_law_a15 (by decide +kernel)
theorem dL_law_363 : decode cL_law 363 = .ok (.iadd, 1) := dc_row (B := pc_L_law_w15) (a := 360) (p := 3) pc_L_law_a15 (by decide +kernel)
theorem dL_law_364 : decode cL_law 364 = .ok (.iaload, 1) := dc_row (B := pc_L_law_w15) (a := 360) (p := 4) pc_L_law_a15 (by decide +kernel)
theorem dL_law_365 : decode cL_law 365 = .ok (.aload_n 0, 1) := dc_row (B := pc_L_law_w15) (a := 360) (p := 5) pc_L_law_a15 (by decide +kernel)
theorem dL_law_366 : decode cL_law 366 = .ok (.iload 4, 2) := dc_row (B := pc_L_law_w15) (a := 360) (p := 6) pc_L_law_a15 (by decide +kernel)
theorem dL_law_368 : decode cL_law 368 = .ok (.iconst 2, 1) := dc_row (B := pc_L_law_w15) (a := 360) (p := 8) pc_L_law_a15 (by decide +kernel)
theorem dL_law_369 : decode cL_law 369 = .ok (.iadd, 1) := dc_row (B := pc_L_law_w15) (a := 360) (p := 9) pc_L_law_a15 (by decide +kernel)
theorem dL_law_370 : decode cL_law 370 = .ok (.iaload, 1) := dc_row (B := pc_L_law_w15) (a := 360) (p := 10) pc_L_law_a15 (by decide +kernel)
theorem dL_law_371 : decode cL_law 371 = .ok (.aload_n 0, 1) := dc_row (B := pc_L_law_w15) (a := 360) (p := 11) pc_L_law_a15 (by decide +kernel)
theorem dL_law_372 : decode cL_law 372 = .ok (.iload 4, 2) := dc_row (B := pc_L_law_w15) (a := 360) (p := 12) pc_L_law_a15 (by decide +kernel)
theorem dL_law_374 : decode cL_law 374 = .ok (.iconst 3, 1) := dc_row (B := pc_L_law_w15) (a := 360) (p := 14) pc_L_law_a15 (by decide +kernel)
theorem dL_law_375 : decode cL_law 375 = .ok (.iadd, 1) := dc_row (B := pc_L_law_w15) (a := 360) (p := 15) pc_L_law_a15 (by decide +kernel)
theorem dL_law_376 : decode cL_law 376 = .ok (.iaload, 1) := dc_row (B := pc_L_law_w15) (a := 360) (p := 16) pc_L_law_a15 (by decide +kernel)
theorem dL_law_377 : decode cL_law 377 = .ok (.ifCond .eq 7, 3) := dc_row (B := pc_L_law_w15) (a := 360) (p := 17) pc_L_law_a15 (by decide +kernel)
theorem dL_law_380 : decode cL_law 380 = .ok (.iconst 1, 1) := dc_row (B := pc_L_law_w15) (a := 360) (p := 20) pc_L_law_a15 (by decide +kernel)
theorem dL_law_381 : decode cL_law 381 = .ok (.goto 4, 3) := dc_row (B := pc_L_law_w15) (a := 360) (p := 21) pc_L_law_a15 (by decide +kernel)
theorem dL_law_384 : decode cL_law 384 = .ok (.iconst 0, 1) := dc_row (B := pc_L_law_w16) (a := 384) (p := 0) pc_L_law_a16 (by decide +kernel)
theorem dL_law_385 : decode cL_law 385 = .ok (.aload_n 3, 1) := dc_row (B := pc_L_law_w16) (a := 384) (p := 1) pc_L_law_a16 (by decide +kernel)
theorem dL_law_386 : decode cL_law 386 = .ok (.invokestatic 170, 3) := dc_row (B := pc_L_law_w16) (a := 384) (p := 2) pc_L_law_a16 (by decide +kernel)
theorem dL_law_389 : decode cL_law 389 = .ok (.istore 5, 2) := dc_row (B := pc_L_law_w16) (a := 384) (p := 5) pc_L_law_a16 (by decide +kernel)
theorem dL_law_391 : decode cL_law 391 = .ok (.aload_n 2, 1) := dc_row (B := pc_L_law_w16) (a := 384) (p := 7) pc_L_law_a16 (by decide +kernel)
theorem dL_law_392 : decode cL_law 392 = .ok (.aload_n 0, 1) := dc_row (B := pc_L_law_w16) (a := 384) (p := 8) pc_L_law_a16 (by decide +kernel)
theorem dL_law_393 : decode cL_law 393 = .ok (.iload 4, 2) := dc_row (B := pc_L_law_w16) (a := 384) (p := 9) pc_L_law_a16 (by decide +kernel)
theorem dL_law_395 : decode cL_law 395 = .ok (.iconst 1, 1) := dc_row (B := pc_L_law_w16) (a := 384) (p := 11) pc_L_law_a16 (by decide +kernel)
theorem dL_law_396 : decode cL_law 396 = .ok (.iadd, 1) := dc_row (B := pc_L_law_w16) (a := 384) (p := 12) pc_L_law_a16 (by decide +kernel)
theorem dL_law_397 : decode cL_law 397 = .ok (.iaload, 1) := dc_row (B := pc_L_law_w16) (a := 384) (p := 13) pc_L_law_a16 (by decide +kernel)
theorem dL_law_398 : decode cL_law 398 = .ok (.aload_n 0, 1) := dc_row (B := pc_L_law_w16) (a := 384) (p := 14) pc_L_law_a16 (by decide +kernel)
theorem dL_law_399 : decode cL_law 399 = .ok (.iload 4, 2) := dc_row (B := pc_L_law_w16) (a := 384) (p := 15) pc_L_law_a16 (by decide +kernel)
theorem dL_law_401 : decode cL_law 401 = .ok (.iconst 2, 1) := dc_row (B := pc_L_law_w16) (a := 384) (p := 17) pc_L_law_a16 (by decide +kernel)
theorem dL_law_402 : decode cL_law 402 = .ok (.iadd, 1) := dc_row (B := pc_L_law_w16) (a := 384) (p := 18) pc_L_law_a16 (by decide +kernel)
theorem dL_law_403 : decode cL_law 403 = .ok (.iaload, 1) := dc_row (B := pc_L_law_w16) (a := 384) (p := 19) pc_L_law_a16 (by decide +kernel)
theorem dL_law_404 : decode cL_law 404 = .ok (.aload_n 0, 1) := dc_row (B := pc_L_law_w16) (a := 384) (p := 20) pc_L_law_a16 (by decide +kernel)
theorem dL_law_405 : decode cL_law 405 = .ok (.iload 4, 2) := dc_row (B := pc_L_law_w16) (a := 384) (p := 21) pc_L_law_a16 (by decide +kernel)
theorem dL_law_407 : decode cL_law 407 = .ok (.iconst 3, 1) := dc_row (B := pc_L_law_w16) (a := 384) (p := 23) pc_L_law_a16 (by decide +kernel)
theorem dL_law_408 : decode cL_law 408 = .ok (.iadd, 1) := dc_row (B := pc_L_law_w17) (a := 408) (p := 0) pc_L_law_a17 (by decide +kernel)
theorem dL_law_409 : decode cL_law 409 = .ok (.iaload, 1) := dc_row (B := pc_L_law_w17) (a := 408) (p := 1) pc_L_law_a17 (by decide +kernel)
theorem dL_law_410 : decode cL_law 410 = .ok (.ifCond .eq 7, 3) := dc_row (B := pc_L_law_w17) (a := 408) (p := 2) pc_L_law_a17 (by decide +kernel)
theorem dL_law_413 : decode cL_law 413 = .ok (.iconst 1, 1) := dc_row (B := pc_L_law_w17) (a := 408) (p := 5) pc_L_law_a17 (by decide +kernel)
theorem dL_law_414 : decode cL_law 414 = .ok (.goto 4, 3) := dc_row (B := pc_L_law_w17) (a := 408) (p := 6) pc_L_law_a17 (by decide +kernel)
theorem dL_law_417 : decode cL_law 417 = .ok (.iconst 0, 1) := dc_row (B := pc_L_law_w17) (a := 408) (p := 9) pc_L_law_a17 (by decide +kernel)
theorem dL_law_418 : decode cL_law 418 = .ok (.invokevirtual 173, 3) := dc_row (B := pc_L_law_w17) (a := 408) (p := 10) pc_L_law_a17 (by decide +kernel)
theorem dL_law_421 : decode cL_law 421 = .ok (.istore 6, 2) := dc_row (B := pc_L_law_w17) (a := 408) (p := 13) pc_L_law_a17 (by decide +kernel)
theorem dL_law_423 : decode cL_law 423 = .ok (.aload_n 2, 1) := dc_row (B := pc_L_law_w17) (a := 408) (p := 15) pc_L_law_a17 (by decide +kernel)
theorem dL_law_424 : decode cL_law 424 = .ok (.invokevirtual 162, 3) := dc_row (B := pc_L_law_w17) (a := 408) (p := 16) pc_L_law_a17 (by decide +kernel)
theorem dL_law_427 : decode cL_law 427 = .ok (.iload 5, 2) := dc_row (B := pc_L_law_w17) (a := 408) (p := 19) pc_L_law_a17 (by decide +kernel)
theorem dL_law_429 : decode cL_law 429 = .ok (.if_icmp .eq 5, 3) := dc_row (B := pc_L_law_w17) (a := 408) (p := 21) pc_L_law_a17 (by decide +kernel)
theorem dL_law_434 : decode cL_law 434 = .ok (.iload 5, 2) := dc_row (B := pc_L_law_w18) (a := 432) (p := 2) pc_L_law_a18 (by decide +kernel)
theorem dL_law_436 : decode cL_law 436 = .ok (.ifCond .ne 16, 3) := dc_row (B := pc_L_law_w18) (a := 432) (p := 4) pc_L_law_a18 (by decide +kernel)
theorem dL_law_439 : decode cL_law 439 = .ok (.aload_n 3, 1) := dc_row (B := pc_L_law_w18) (a := 432) (p := 7) pc_L_law_a18 (by decide +kernel)
theorem dL_law_440 : decode cL_law 440 = .ok (.getfield 13, 3) := dc_row (B := pc_L_law_w18) (a := 432) (p := 8) pc_L_law_a18 (by decide +kernel)
theorem dL_law_443 : decode cL_law 443 = .ok (.iload 6, 2) := dc_row (B := pc_L_law_w18) (a := 432) (p := 11) pc_L_law_a18 (by decide +kernel)
theorem dL_law_445 : decode cL_law 445 = .ok (.i2l, 1) := dc_row (B := pc_L_law_w18) (a := 432) (p := 13) pc_L_law_a18 (by decide +kernel)
theorem dL_law_446 : decode cL_law 446 = .ok (.lcmp, 1) := dc_row (B := pc_L_law_w18) (a := 432) (p := 14) pc_L_law_a18 (by decide +kernel)
theorem dL_law_447 : decode cL_law 447 = .ok (.ifCond .eq 5, 3) := dc_row (B := pc_L_law_w18) (a := 432) (p := 15) pc_L_law_a18 (by decide +kernel)
theorem dL_law_452 : decode cL_law 452 = .ok (.goto 2530, 3) := dc_row (B := pc_L_law_w18) (a := 432) (p := 20) pc_L_law_a18 (by decide +kernel)
theorem dL_law_455 : decode cL_law 455 = .ok (.aload_n 1, 1) := dc_row (B := pc_L_law_w18) (a := 432) (p := 23) pc_L_law_a18 (by decide +kernel)
theorem dL_law_456 : decode cL_law 456 = .ok (.aload_n 0, 1) := dc_row (B := pc_L_law_w19) (a := 456) (p := 0) pc_L_law_a19 (by decide +kernel)
theorem dL_law_457 : decode cL_law 457 = .ok (.iload 4, 2) := dc_row (B := pc_L_law_w19) (a := 456) (p := 1) pc_L_law_a19 (by decide +kernel)
theorem dL_law_459 : decode cL_law 459 = .ok (.iconst 1, 1) := dc_row (B := pc_L_law_w19) (a := 456) (p := 3) pc_L_law_a19 (by decide +kernel)
theorem dL_law_460 : decode cL_law 460 = .ok (.iadd, 1) := dc_row (B := pc_L_law_w19) (a := 456) (p := 4) pc_L_law_a19 (by decide +kernel)
theorem dL_law_461 : decode cL_law 461 = .ok (.iaload, 1) := dc_row (B := pc_L_law_w19) (a := 456) (p := 5) pc_L_law_a19 (by decide +kernel)
theorem dL_law_462 : decode cL_law 462 = .ok (.aload_n 0, 1) := dc_row (B := pc_L_law_w19) (a := 456) (p := 6) pc_L_law_a19 (by decide +kernel)
theorem dL_law_463 : decode cL_law 463 = .ok (.iload 4, 2) := dc_row (B := pc_L_law_w19) (a := 456) (p := 7) pc_L_law_a19 (by decide +kernel)
theorem dL_law_465 : decode cL_law 465 = .ok (.iconst 2, 1) := dc_row (B := pc_L_law_w19) (a := 456) (p := 9) pc_L_law_a19 (by decide +kernel)
theorem dL_law_466 : decode cL_law 466 = .ok (.iadd, 1) := dc_row (B := pc_L_law_w19) (a := 456) (p := 10) pc_L_law_a19 (by decide +kernel)
theorem dL_law_467 : decode cL_law 467 = .ok (.iaload, 1) := dc_row (B := pc_L_law_w19) (a := 456) (p := 11) pc_L_law_a19 (by decide +kernel)
theorem dL_law_468 : decode cL_law 468 = .ok (.aload_n 3, 1) := dc_row (B := pc_L_law_w19) (a := 456) (p := 12) pc_L_law_a19 (by decide +kernel)
theorem dL_law_469 : decode cL_law 469 = .ok (.invokestatic 174, 3) := dc_row (B := pc_L_law_w19) (a := 456) (p := 13) pc_L_law_a19 (by decide +kernel)
theorem dL_law_472 : decode cL_law 472 = .ok (.istore 5, 2) := dc_row (B := pc_L_law_w19) (a := 456) (p := 16) pc_L_law_a19 (by decide +kernel)
theorem dL_law_474 : decode cL_law 474 = .ok (.aload_n 2, 1) := dc_row (B := pc_L_law_w19) (a := 456) (p := 18) pc_L_law_a19 (by decide +kernel)
theorem dL_law_475 : decode cL_law 475 = .ok (.aload_n 0, 1) := dc_row (B := pc_L_law_w19) (a := 456) (p := 19) pc_L_law_a19 (by decide +kernel)
theorem dL_law_476 : decode cL_law 476 = .ok (.iload 4, 2) := dc_row (B := pc_L_law_w19) (a := 456) (p := 20) pc_L_law_a19 (by decide +kernel)
theorem dL_law_478 : decode cL_law 478 = .ok (.iconst 1, 1) := dc_row (B := pc_L_law_w19) (a := 456) (p := 22) pc_L_law_a19 (by decide +kernel)
theorem dL_law_479 : decode cL_law 479 = .ok (.iadd, 1) := dc_row (B := pc_L_law_w19) (a := 456) (p := 23) pc_L_law_a19 (by decide +kernel)
theorem dL_law_480 : decode cL_law 480 = .ok (.iaload, 1) := dc_row (B := pc_L_law_w20) (a := 480) (p := 0) pc_L_law_a20 (by decide +kernel)
theorem dL_law_481 : decode cL_law 481 = .ok (.aload_n 0, 1) := dc_row (B := pc_L_law_w20) (a := 480) (p := 1) pc_L_law_a20 (by decide +kernel)
theorem dL_law_482 : decode cL_law 482 = .ok (.iload 4, 2) := dc_row (B := pc_L_law_w20) (a := 480) (p := 2) pc_L_law_a20 (by decide +kernel)
theorem dL_law_484 : decode cL_law 484 = .ok (.iconst 2, 1) := dc_row (B := pc_L_law_w20) (a := 480) (p := 4) pc_L_law_a20 (by decide +kernel)
theorem dL_law_485 : decode cL_law 485 = .ok (.iadd, 1) := dc_row (B := pc_L_law_w20) (a := 480) (p := 5) pc_L_law_a20 (by decide +kernel)
theorem dL_law_486 : decode cL_law 486 = .ok (.iaload, 1) := dc_row (B := pc_L_law_w20) (a := 480) (p := 6) pc_L_law_a20 (by decide +kernel)
theorem dL_law_487 : decode cL_law 487 = .ok (.invokevirtual 176, 3) := dc_row (B := pc_L_law_w20) (a := 480) (p := 7) pc_L_law_a20 (by decide +kernel)
theorem dL_law_490 : decode cL_law 490 = .ok (.istore 6, 2) := dc_row (B := pc_L_law_w20) (a := 480) (p := 10) pc_L_law_a20 (by decide +kernel)
theorem dL_law_492 : decode cL_law 492 = .ok (.aload_n 2, 1) := dc_row (B := pc_L_law_w20) (a := 480) (p := 12) pc_L_law_a20 (by decide +kernel)
theorem dL_law_493 : decode cL_law 493 = .ok (.invokevirtual 162, 3) := dc_row (B := pc_L_law_w20) (a := 480) (p := 13) pc_L_law_a20 (by decide +kernel)
theorem dL_law_496 : decode cL_law 496 = .ok (.iload 5, 2) := dc_row (B := pc_L_law_w20) (a := 480) (p := 16) pc_L_law_a20 (by decide +kernel)
theorem dL_law_498 : decode cL_law 498 = .ok (.if_icmp .eq 5, 3) := dc_row (B := pc_L_law_w20) (a := 480) (p := 18) pc_L_law_a20 (by decide +kernel)
theorem dL_law_503 : decode cL_law 503 = .ok (.iload 5, 2) := dc_row (B := pc_L_law_w20) (a := 480) (p := 23) pc_L_law_a20 (by decide +kernel)
theorem dL_law_505 : decode cL_law 505 = .ok (.ifCond .ne 16, 3) := dc_row (B := pc_L_law_w21) (a := 504) (p := 1) pc_L_law_a21 (by decide +kernel)
theorem dL_law_508 : decode cL_law 508 = .ok (.aload_n 3, 1) := dc_row (B := pc_L_law_w21) (a := 504) (p := 4) pc_L_law_a21 (by decide +kernel)
theorem dL_law_509 : decode cL_law 509 = .ok (.getfield 13, 3) := dc_row (B := pc_L_law_w21) (a := 504) (p := 5) pc_L_law_a21 (by decide +kernel)
theorem dL_law_512 : decode cL_law 512 = .ok (.iload 6, 2) := dc_row (B := pc_L_law_w21) (a := 504) (p := 8) pc_L_law_a21 (by decide +kernel)
theorem dL_law_514 : decode cL_law 514 = .ok (.i2l, 1) := dc_row (B := pc_L_law_w21) (a := 504) (p := 10) pc_L_law_a21 (by decide +kernel)
theorem dL_law_515 : decode cL_law 515 = .ok (.lcmp, 1) := dc_row (B := pc_L_law_w21) (a := 504) (p := 11) pc_L_law_a21 (by decide +kernel)
theorem dL_law_516 : decode cL_law 516 = .ok (.ifCond .eq 5, 3) := dc_row (B := pc_L_law_w21) (a := 504) (p := 12) pc_L_law_a21 (by decide +kernel)
theorem dL_law_521 : decode cL_law 521 = .ok (.goto 2461, 3) := dc_row (B := pc_L_law_w21) (a := 504) (p := 17) pc_L_law_a21 (by decide +kernel)
theorem dL_law_524 : decode cL_law 524 = .ok (.aload_n 1, 1) := dc_row (B := pc_L_law_w21) (a := 504) (p := 20) pc_L_law_a21 (by decide +kernel)
theorem dL_law_525 : decode cL_law 525 = .ok (.aload_n 0, 1) := dc_row (B := pc_L_law_w21) (a := 504) (p := 21) pc_L_law_a21 (by decide +kernel)
theorem dL_law_526 : decode cL_law 526 = .ok (.iload 4, 2) := dc_row (B := pc_L_law_w21) (a := 504) (p := 22) pc_L_law_a21 (by decide +kernel)
theorem dL_law_528 : decode cL_law 528 = .ok (.iconst 1, 1) := dc_row (B := pc_L_law_w22) (a := 528) (p := 0) pc_L_law_a22 (by decide +kernel)
theorem dL_law_529 : decode cL_law 529 = .ok (.iadd, 1) := dc_row (B := pc_L_law_w22) (a := 528) (p := 1) pc_L_law_a22 (by decide +kernel)
theorem dL_law_530 : decode cL_law 530 = .ok (.iaload, 1) := dc_row (B := pc_L_law_w22) (a := 528) (p := 2) pc_L_law_a22 (by decide +kernel)
theorem dL_law_531 : decode cL_law 531 = .ok (.aload_n 0, 1) := dc_row (B := pc_L_law_w22) (a := 528) (p := 3) pc_L_law_a22 (by decide +kernel)
theorem dL_law_532 : decode cL_law 532 = .ok (.iload 4, 2) := dc_row (B := pc_L_law_w22) (a := 528) (p := 4) pc_L_law_a22 (by decide +kernel)
theorem dL_law_534 : decode cL_law 534 = .ok (.iconst 2, 1) := dc_row (B := pc_L_law_w22) (a := 528) (p := 6) pc_L_law_a22 (by decide +kernel)
theorem dL_law_535 : decode cL_law 535 = .ok (.iadd, 1) := dc_row (B := pc_L_law_w22) (a := 528) (p := 7) pc_L_law_a22 (by decide +kernel)
theorem dL_law_536 : decode cL_law 536 = .ok (.iaload, 1) := dc_row (B := pc_L_law_w22) (a := 528) (p := 8) pc_L_law_a22 (by decide +kernel)
theorem dL_law_537 : decode cL_law 537 = .ok (.aload_n 0, 1) := dc_row (B := pc_L_law_w22) (a := 528) (p := 9) pc_L_law_a22 (by decide +kernel)
theorem dL_law_538 : decode cL_law 538 = .ok (.iload 4, 2) := dc_row (B := pc_L_law_w22) (a := 528) (p := 10) pc_L_law_a22 (by decide +kernel)
theorem dL_law_540 : decode cL_law 540 = .ok (.iconst 3, 1) := dc_row (B := pc_L_law_w22) (a := 528) (p := 12) pc_L_law_a22 (by decide +kernel)
theorem dL_law_541 : decode cL_law 541 = .ok (.iadd, 1) := dc_row (B := pc_L_law_w22) (a := 528) (p := 13) pc_L_law_a22 (by decide +kernel)
theorem dL_law_542 : decode cL_law 542 = .ok (.iaload, 1) := dc_row (B := pc_L_law_w22) (a := 528) (p := 14) pc_L_law_a22 (by decide +kernel)
theorem dL_law_543 : decode cL_law 543 = .ok (.aload_n 0, 1) := dc_row (B := pc_L_law_w22) (a := 528) (p := 15) pc_L_law_a22 (by decide +kernel)
theorem dL_law_544 : decode cL_law 544 = .ok (.iload 4, 2) := dc_row (B := pc_L_law_w22) (a := 528) (p := 16) pc_L_law_a22 (by decide +kernel)
theorem dL_law_546 : decode cL_law 546 = .ok (.iconst 4, 1) := dc_row (B := pc_L_law_w22) (a := 528) (p := 18) pc_L_law_a22 (by decide +kernel)
theorem dL_law_547 : decode cL_law 547 = .ok (.iadd, 1) := dc_row (B := pc_L_law_w22) (a := 528) (p := 19) pc_L_law_a22 (by decide +kernel)
theorem dL_law_548 : decode cL_law 548 = .ok (.iaload, 1) := dc_row (B := pc_L_law_w22) (a := 528) (p := 20) pc_L_law_a22 (by decide +kernel)
theorem dL_law_549 : decode cL_law 549 = .ok (.aload_n 3, 1) := dc_row (B := pc_L_law_w22) (a := 528) (p := 21) pc_L_law_a22 (by decide +kernel)
theorem dL_law_550 : decode cL_law 550 = .ok (.invokestatic 177, 3) := dc_row (B := pc_L_law_w22) (a := 528) (p := 22) pc_L_law_a22 (by decide +kernel)
theorem dL_law_553 : decode cL_law 553 = .ok (.istore 5, 2) := dc_row (B := pc_L_law_w23) (a := 552) (p := 1) pc_L_law_a23 (by decide +kernel)
theorem dL_law_555 : decode cL_law 555 = .ok (.aload_n 2, 1) := dc_row (B := pc_L_law_w23) (a := 552) (p := 3) pc_L_law_a23 (by decide +kernel)
theorem dL_law_556 : decode cL_law 556 = .ok (.aload_n 0, 1) := dc_row (B := pc_L_law_w23) (a := 552) (p := 4) pc_L_law_a23 (by decide +kernel)
theorem dL_law_557 : decode cL_law 557 = .ok (.iload 4, 2) := dc_row (B := pc_L_law_w23) (a := 552) (p := 5) pc_L_law_a23 (by decide +kernel)
theorem dL_law_559 : decode cL_law 559 = .ok (.iconst 1, 1) := dc_row (B := pc_L_law_w23) (a := 552) (p := 7) pc_L_law_a23 (by decide +kernel)
theorem dL_law_560 : decode cL_law 560 = .ok (.iadd, 1) := dc_row (B := pc_L_law_w23) (a := 552) (p := 8) pc_L_law_a23 (by decide +kernel)
theorem dL_law_561 : decode cL_law 561 = .ok (.iaload, 1) := dc_row (B := pc_L_law_w23) (a := 552) (p := 9) pc_L_law_a23 (by decide +kernel)
theorem dL_law_562 : decode cL_law 562 = .ok (.aload_n 0, 1) := dc_row (B := pc_L_law_w23) (a := 552) (p := 10) pc_L_law_a23 (by decide +kernel)
theorem dL_law_563 : decode cL_law 563 = .ok (.iload 4, 2) := dc_row (B := pc_L_law_w23) (a := 552) (p := 11) pc_L_law_a23 (by decide +kernel)
theorem dL_law_565 : decode cL_law 565 = .ok (.iconst 2, 1) := dc_row (B := pc_L_law_w23) (a := 552) (p := 13) pc_L_law_a23 (by decide +kernel)
theorem dL_law_566 : decode cL_law 566 = .ok (.iadd, 1) := dc_row (B := pc_L_law_w23) (a := 552) (p := 14) pc_L_law_a23 (by decide +kernel)
theorem dL_law_567 : decode cL_law 567 = .ok (.iaload, 1) := dc_row (B := pc_L_law_w23) (a := 552) (p := 15) pc_L_law_a23 (by decide +kernel)
theorem dL_law_568 : decode cL_law 568 = .ok (.aload_n 0, 1) := dc_row (B := pc_L_law_w23) (a := 552) (p := 16) pc_L_law_a23 (by decide +kernel)
theorem dL_law_569 : decode cL_law 569 = .ok (.iload 4, 2) := dc_row (B := pc_L_law_w23) (a := 552) (p := 17) pc_L_law_a23 (by decide +kernel)
theorem dL_law_571 : decode cL_law 571 = .ok (.iconst 3, 1) := dc_row (B := pc_L_law_w23) (a := 552) (p := 19) pc_L_law_a23 (by decide +kernel)
theorem dL_law_572 : decode cL_law 572 = .ok (.iadd, 1) := dc_row (B := pc_L_law_w23) (a := 552) (p := 20) pc_L_law_a23 (by decide +kernel)
theorem dL_law_573 : decode cL_law 573 = .ok (.iaload, 1) := dc_row (B := pc_L_law_w23) (a := 552) (p := 21) pc_L_law_a23 (by decide +kernel)
theorem dL_law_574 : decode cL_law 574 = .ok (.aload_n 0, 1) := dc_row (B := pc_L_law_w23) (a := 552) (p := 22) pc_L_law_a23 (by decide +kernel)
theorem dL_law_575 : decode cL_law 575 = .ok (.iload 4, 2) := dc_row (B := pc_L_law_w23) (a := 552) (p := 23) pc_L_law_a23 (by decide +kernel)
theorem dL_law_577 : decode cL_law 577 = .ok (.iconst 4, 1) := dc_row (B := pc_L_law_w24) (a := 576) (p := 1) pc_L_law_a24 (by decide +kernel)
theorem dL_law_578 : decode cL_law 578 = .ok (.iadd, 1) := dc_row (B := pc_L_law_w24) (a := 576) (p := 2) pc_L_law_a24 (by decide +kernel)
theorem dL_law_579 : decode cL_law 579 = .ok (.iaload, 1) := dc_row (B := pc_L_law_w24) (a := 576) (p := 3) pc_L_law_a24 (by decide +kernel)
theorem dL_law_580 : decode cL_law 580 = .ok (.invokevirtual 180, 3) := dc_row (B := pc_L_law_w24) (a := 576) (p := 4) pc_L_law_a24 (by decide +kernel)
theorem dL_law_583 : decode cL_law 583 = .ok (.istore 6, 2) := dc_row (B := pc_L_law_w24) (a := 576) (p := 7) pc_L_law_a24 (by decide +kernel)
theorem dL_law_585 : decode cL_law 585 = .ok (.aload_n 2, 1) := dc_row (B := pc_L_law_w24) (a := 576) (p := 9) pc_L_law_a24 (by decide +kernel)
theorem dL_law_586 : decode cL_law 586 = .ok (.invokevirtual 162, 3) := dc_row (B := pc_L_law_w24) (a := 576) (p := 10) pc_L_law_a24 (by decide +kernel)
theorem dL_law_589 : decode cL_law 589 = .ok (.iload 5, 2) := dc_row (B := pc_L_law_w24) (a := 576) (p := 13) pc_L_law_a24 (by decide +kernel)
theorem dL_law_591 : decode cL_law 591 = .ok (.if_icmp .eq 5, 3) := dc_row (B := pc_L_law_w24) (a := 576) (p := 15) pc_L_law_a24 (by decide +kernel)
theorem dL_law_596 : decode cL_law 596 = .ok (.iload 5, 2) := dc_row (B := pc_L_law_w24) (a := 576) (p := 20) pc_L_law_a24 (by decide +kernel)
theorem dL_law_598 : decode cL_law 598 = .ok (.ifCond .ne 16, 3) := dc_row (B := pc_L_law_w24) (a := 576) (p := 22) pc_L_law_a24 (by decide +kernel)
theorem dL_law_601 : decode cL_law 601 = .ok (.aload_n 3, 1) := dc_row (B := pc_L_law_w25) (a := 600) (p := 1) pc_L_law_a25 (by decide +kernel)
theorem dL_law_602 : decode cL_law 602 = .ok (.getfield 13, 3) := dc_row (B := pc_L_law_w25) (a := 600) (p := 2) pc_L_law_a25 (by decide +kernel)
theorem dL_law_605 : decode cL_law 605 = .ok (.iload 6, 2) := dc_row (B := pc_L_law_w25) (a := 600) (p := 5) pc_L_law_a25 (by decide +kernel)
theorem dL_law_607 : decode cL_law 607 = .ok (.i2l, 1) := dc_row (B := pc_L_law_w25) (a := 600) (p := 7) pc_L_law_a25 (by decide +kernel)
theorem dL_law_608 : decode cL_law 608 = .ok (.lcmp, 1) := dc_row (B := pc_L_law_w25) (a := 600) (p := 8) pc_L_law_a25 (by decide +kernel)
theorem dL_law_609 : decode cL_law 609 = .ok (.ifCond .eq 5, 3) := dc_row (B := pc_L_law_w25) (a := 600) (p := 9) pc_L_law_a25 (by decide +kernel)
theorem dL_law_614 : decode cL_law 614 = .ok (.goto 2368, 3) := dc_row (B := pc_L_law_w25) (a := 600) (p := 14) pc_L_law_a25 (by decide +kernel)
theorem dL_law_617 : decode cL_law 617 = .ok (.aload_n 1, 1) := dc_row (B := pc_L_law_w25) (a := 600) (p := 17) pc_L_law_a25 (by decide +kernel)
theorem dL_law_618 : decode cL_law 618 = .ok (.aload_n 0, 1) := dc_row (B := pc_L_law_w25) (a := 600) (p := 18) pc_L_law_a25 (by decide +kernel)
theorem dL_law_619 : decode cL_law 619 = .ok (.iload 4, 2) := dc_row (B := pc_L_law_w25) (a := 600) (p := 19) pc_L_law_a25 (by decide +kernel)
theorem dL_law_621 : decode cL_law 621 = .ok (.iconst 1, 1) := dc_row (B := pc_L_law_w25) (a := 600) (p := 21) pc_L_law_a25 (by decide +kernel)
theorem dL_law_622 : decode cL_law 622 = .ok (.iadd, 1) := dc_row (B := pc_L_law_w25) (a := 600) (p := 22) pc_L_law_a25 (by decide +kernel)
theorem dL_law_623 : decode cL_law 623 = .ok (.iaload, 1) := dc_row (B := pc_L_law_w25) (a := 600) (p := 23) pc_L_law_a25 (by decide +kernel)
theorem dL_law_624 : decode cL_law 624 = .ok (.aload_n 0, 1) := dc_row (B := pc_L_law_w26) (a := 624) (p := 0) pc_L_law_a26 (by decide +kernel)
theorem dL_law_625 : decode cL_law 625 = .ok (.iload 4, 2) := dc_row (B := pc_L_law_w26) (a := 624) (p := 1) pc_L_law_a26 (by decide +kernel)
theorem dL_law_627 : decode cL_law 627 = .ok (.iconst 2, 1) := dc_row (B := pc_L_law_w26) (a := 624) (p := 3) pc_L_law_a26 (by decide +kernel)
theorem dL_law_628 : decode cL_law 628 = .ok (.iadd, 1) := dc_row (B := pc_L_law_w26) (a := 624) (p := 4) pc_L_law_a26 (by decide +kernel)
theorem dL_law_629 : decode cL_law 629 = .ok (.iaload, 1) := dc_row (B := pc_L_law_w26) (a := 624) (p := 5) pc_L_law_a26 (by decide +kernel)
theorem dL_law_630 : decode cL_law 630 = .ok (.aload_n 0, 1) := dc_row (B := pc_L_law_w26) (a := 624) (p := 6) pc_L_law_a26 (by decide +kernel)
theorem dL_law_631 : decode cL_law 631 = .ok (.iload 4, 2) := dc_row (B := pc_L_law_w26) (a := 624) (p := 7) pc_L_law_a26 (by decide +kernel)
theorem dL_law_633 : decode cL_law 633 = .ok (.iconst 3, 1) := dc_row (B := pc_L_law_w26) (a := 624) (p := 9) pc_L_law_a26 (by decide +kernel)
theorem dL_law_634 : decode cL_law 634 = .ok (.iadd, 1) := dc_row (B := pc_L_law_w26) (a := 624) (p := 10) pc_L_law_a26 (by decide +kernel)
theorem dL_law_635 : decode cL_law 635 = .ok (.iaload, 1) := dc_row (B := pc_L_law_w26) (a := 624) (p := 11) pc_L_law_a26 (by decide +kernel)
theorem dL_law_636 : decode cL_law 636 = .ok (.aload_n 0, 1) := dc_row (B := pc_L_law_w26) (a := 624) (p := 12) pc_L_law_a26 (by decide +kernel)
theorem dL_law_637 : decode cL_law 637 = .ok (.iload 4, 2) := dc_row (B := pc_L_law_w26) (a := 624) (p := 13) pc_L_law_a26 (by decide +kernel)
theorem dL_law_639 : decode cL_law 639 = .ok (.iconst 4, 1) := dc_row (B := pc_L_law_w26) (a := 624) (p := 15) pc_L_law_a26 (by decide +kernel)
theorem dL_law_640 : decode cL_law 640 = .ok (.iadd, 1) := dc_row (B := pc_L_law_w26) (a := 624) (p := 16) pc_L_law_a26 (by decide +kernel)
theorem dL_law_641 : decode cL_law 641 = .ok (.iaload, 1) := dc_row (B := pc_L_law_w26) (a := 624) (p := 17) pc_L_law_a26 (by decide +kernel)
theorem dL_law_642 : decode cL_law 642 = .ok (.aload_n 3, 1) := dc_row (B := pc_L_law_w26) (a := 624) (p := 18) pc_L_law_a26 (by decide +kernel)
theorem dL_law_643 : decode cL_law 643 = .ok (.invokestatic 181, 3) := dc_row (B := pc_L_law_w26) (a := 624) (p := 19) pc_L_law_a26 (by decide +kernel)
theorem dL_law_646 : decode cL_law 646 = .ok (.istore 5, 2) := dc_row (B := pc_L_law_w26) (a := 624) (p := 22) pc_L_law_a26 (by decide +kernel)
theorem dL_law_648 : decode cL_law 648 = .ok (.aload_n 2, 1) := dc_row (B := pc_L_law_w27) (a := 648) (p := 0) pc_L_law_a27 (by decide +kernel)
theorem dL_law_649 : decode cL_law 649 = .ok (.aload_n 0, 1) := dc_row (B := pc_L_law_w27) (a := 648) (p := 1) pc_L_law_a27 (by decide +kernel)
theorem dL_law_650 : decode cL_law 650 = .ok (.iload 4, 2) := dc_row (B := pc_L_law_w27) (a := 648) (p := 2) pc_L_law_a27 (by decide +kernel)
theorem dL_law_652 : decode cL_law 652 = .ok (.iconst 1, 1) := dc_row (B := pc_L_law_w27) (a := 648) (p := 4) pc_L_law_a27 (by decide +kernel)
theorem dL_law_653 : decode cL_law 653 = .ok (.iadd, 1) := dc_row (B := pc_L_law_w27) (a := 648) (p := 5) pc_L_law_a27 (by decide +kernel)
theorem dL_law_654 : decode cL_law 654 = .ok (.iaload, 1) := dc_row (B := pc_L_law_w27) (a := 648) (p := 6) pc_L_law_a27 (by decide +kernel)
theorem dL_law_655 : decode cL_law 655 = .ok (.aload_n 0, 1) := dc_row (B := pc_L_law_w27) (a := 648) (p := 7) pc_L_law_a27 (by decide +kernel)
theorem dL_law_656 : decode cL_law 656 = .ok (.iload 4, 2) := dc_row (B := pc_L_law_w27) (a := 648) (p := 8) pc_L_law_a27 (by decide +kernel)
theorem dL_law_658 : decode cL_law 658 = .ok (.iconst 2, 1) := dc_row (B := pc_L_law_w27) (a := 648) (p := 10) pc_L_law_a27 (by decide +kernel)
theorem dL_law_659 : decode cL_law 659 = .ok (.iadd, 1) := dc_row (B := pc_L_law_w27) (a := 648) (p := 11) pc_L_law_a27 (by decide +kernel)
theorem dL_law_660 : decode cL_law 660 = .ok (.iaload, 1) := dc_row (B := pc_L_law_w27) (a := 648) (p := 12) pc_L_law_a27 (by decide +kernel)
theorem dL_law_661 : decode cL_law 661 = .ok (.aload_n 0, 1) := dc_row (B := pc_L_law_w27) (a := 648) (p := 13) pc_L_law_a27 (by decide +kernel)
theorem dL_law_662 : decode cL_law 662 = .ok (.iload 4, 2) := dc_row (B := pc_L_law_w27) (a := 648) (p := 14) pc_L_law_a27 (by decide +kernel)
theorem dL_law_664 : decode cL_law 664 = .ok (.iconst 3, 1) := dc_row (B := pc_L_law_w27) (a := 648) (p := 16) pc_L_law_a27 (by decide +kernel)
theorem dL_law_665 : decode cL_law 665 = .ok (.iadd, 1) := dc_row (B := pc_L_law_w27) (a := 648) (p := 17) pc_L_law_a27 (by decide +kernel)
theorem dL_law_666 : decode cL_law 666 = .ok (.iaload, 1) := dc_row (B := pc_L_law_w27) (a := 648) (p := 18) pc_L_law_a27 (by decide +kernel)
theorem dL_law_667 : decode cL_law 667 = .ok (.aload_n 0, 1) := dc_row (B := pc_L_law_w27) (a := 648) (p := 19) pc_L_law_a27 (by decide +kernel)
theorem dL_law_668 : decode cL_law 668 = .ok (.iload 4, 2) := dc_row (B := pc_L_law_w27) (a := 648) (p := 20) pc_L_law_a27 (by decide +kernel)
theorem dL_law_670 : decode cL_law 670 = .ok (.iconst 4, 1) := dc_row (B := pc_L_law_w27) (a := 648) (p := 22) pc_L_law_a27 (by decide +kernel)
theorem dL_law_671 : decode cL_law 671 = .ok (.iadd, 1) := dc_row (B := pc_L_law_w27) (a := 648) (p := 23) pc_L_law_a27 (by decide +kernel)
theorem dL_law_672 : decode cL_law 672 = .ok (.iaload, 1) := dc_row (B := pc_L_law_w28) (a := 672) (p := 0) pc_L_law_a28 (by decide +kernel)
theorem dL_law_673 : decode cL_law 673 = .ok (.invokevirtual 183, 3) := dc_row (B := pc_L_law_w28) (a := 672) (p := 1) pc_L_law_a28 (by decide +kernel)
theorem dL_law_676 : decode cL_law 676 = .ok (.istore 6, 2) := dc_row (B := pc_L_law_w28) (a := 672) (p := 4) pc_L_law_a28 (by decide +kernel)
theorem dL_law_678 : decode cL_law 678 = .ok (.aload_n 2, 1) := dc_row (B := pc_L_law_w28) (a := 672) (p := 6) pc_L_law_a28 (by decide +kernel)
theorem dL_law_679 : decode cL_law 679 = .ok (.invokevirtual 162, 3) := dc_row (B := pc_L_law_w28) (a := 672) (p := 7) pc_L_law_a28 (by decide +kernel)
theorem dL_law_682 : decode cL_law 682 = .ok (.iload 5, 2) := dc_row (B := pc_L_law_w28) (a := 672) (p := 10) pc_L_law_a28 (by decide +kernel)
theorem dL_law_684 : decode cL_law 684 = .ok (.if_icmp .eq 5, 3) := dc_row (B := pc_L_law_w28) (a := 672) (p := 12) pc_L_law_a28 (by decide +kernel)
theorem dL_law_689 : decode cL_law 689 = .ok (.iload 5, 2) := dc_row (B := pc_L_law_w28) (a := 672) (p := 17) pc_L_law_a28 (by decide +kernel)
theorem dL_law_691 : decode cL_law 691 = .ok (.ifCond .ne 16, 3) := dc_row (B := pc_L_law_w28) (a := 672) (p := 19) pc_L_law_a28 (by decide +kernel)
theorem dL_law_694 : decode cL_law 694 = .ok (.aload_n 3, 1) := dc_row (B := pc_L_law_w28) (a := 672) (p := 22) pc_L_law_a28 (by decide +kernel)
theorem dL_law_695 : decode cL_law 695 = .ok (.getfield 13, 3) := dc_row (B := pc_L_law_w28) (a := 672) (p := 23) pc_L_law_a28 (by decide +kernel)
theorem dL_law_698 : decode cL_law 698 = .ok (.iload 6, 2) := dc_row (B := pc_L_law_w29) (a := 696) (p := 2) pc_L_law_a29 (by decide +kernel)
theorem dL_law_700 : decode cL_law 700 = .ok (.i2l, 1) := dc_row (B := pc_L_law_w29) (a := 696) (p := 4) pc_L_law_a29 (by decide +kernel)
theorem dL_law_701 : decode cL_law 701 = .ok (.lcmp, 1) := dc_row (B := pc_L_law_w29) (a := 696) (p := 5) pc_L_law_a29 (by decide +kernel)
theorem dL_law_702 : decode cL_law 702 = .ok (.ifCond .eq 5, 3) := dc_row (B := pc_L_law_w29) (a := 696) (p := 6) pc_L_law_a29 (by decide +kernel)
theorem dL_law_707 : decode cL_law 707 = .ok (.goto 2275, 3) := dc_row (B := pc_L_law_w29) (a := 696) (p := 11) pc_L_law_a29 (by decide +kernel)
theorem dL_law_710 : decode cL_law 710 = .ok (.aload_n 1, 1) := dc_row (B := pc_L_law_w29) (a := 696) (p := 14) pc_L_law_a29 (by decide +kernel)
theorem dL_law_711 : decode cL_law 711 = .ok (.aload_n 0, 1) := dc_row (B := pc_L_law_w29) (a := 696) (p := 15) pc_L_law_a29 (by decide +kernel)
theorem dL_law_712 : decode cL_law 712 = .ok (.iload 4, 2) := dc_row (B := pc_L_law_w29) (a := 696) (p := 16) pc_L_law_a29 (by decide +kernel)
theorem dL_law_714 : decode cL_law 714 = .ok (.iconst 1, 1) := dc_row (B := pc_L_law_w29) (a := 696) (p := 18) pc_L_law_a29 (by decide +kernel)
theorem dL_law_715 : decode cL_law 715 = .ok (.iadd, 1) := dc_row (B := pc_L_law_w29) (a := 696) (p := 19) pc_L_law_a29 (by decide +kernel)
theorem dL_law_716 : decode cL_law 716 = .ok (.iaload, 1) := dc_row (B := pc_L_law_w29) (a := 696) (p := 20) pc_L_law_a29 (by decide +kernel)
theorem dL_law_717 : decode cL_law 717 = .ok (.aload_n 0, 1) := dc_row (B := pc_L_law_w29) (a := 696) (p := 21) pc_L_law_a29 (by decide +kernel)
theorem dL_law_718 : decode cL_law 718 = .ok (.iload 4, 2) := dc_row (B := pc_L_law_w29) (a := 696) (p := 22) pc_L_law_a29 (by decide +kernel)
theorem dL_law_720 : decode cL_law 720 = .ok (.iconst 2, 1) := dc_row (B := pc_L_law_w30) (a := 720) (p := 0) pc_L_law_a30 (by decide +kernel)
theorem dL_law_721 : decode cL_law 721 = .ok (.iadd, 1) := dc_row (B := pc_L_law_w30) (a := 720) (p := 1) pc_L_law_a30 (by decide +kernel)
theorem dL_law_722 : decode cL_law 722 = .ok (.iaload, 1) := dc_row (B := pc_L_law_w30) (a := 720) (p := 2) pc_L_law_a30 (by decide +kernel)
theorem dL_law_723 : decode cL_law 723 = .ok (.aload_n 0, 1) := dc_row (B := pc_L_law_w30) (a := 720) (p := 3) pc_L_law_a30 (by decide +kernel)
theorem dL_law_724 : decode cL_law 724 = .ok (.iload 4, 2) := dc_row (B := pc_L_law_w30) (a := 720) (p := 4) pc_L_law_a30 (by decide +kernel)
theorem dL_law_726 : decode cL_law 726 = .ok (.iconst 3, 1) := dc_row (B := pc_L_law_w30) (a := 720) (p := 6) pc_L_law_a30 (by decide +kernel)
theorem dL_law_727 : decode cL_law 727 = .ok (.iadd, 1) := dc_row (B := pc_L_law_w30) (a := 720) (p := 7) pc_L_law_a30 (by decide +kernel)
theorem dL_law_728 : decode cL_law 728 = .ok (.iaload, 1) := dc_row (B := pc_L_law_w30) (a := 720) (p := 8) pc_L_law_a30 (by decide +kernel)
theorem dL_law_729 : decode cL_law 729 = .ok (.aload_n 0, 1) := dc_row (B := pc_L_law_w30) (a := 720) (p := 9) pc_L_law_a30 (by decide +kernel)
theorem dL_law_730 : decode cL_law 730 = .ok (.iload 4, 2) := dc_row (B := pc_L_law_w30) (a := 720) (p := 10) pc_L_law_a30 (by decide +kernel)
theorem dL_law_732 : decode cL_law 732 = .ok (.iconst 4, 1) := dc_row (B := pc_L_law_w30) (a := 720) (p := 12) pc_L_law_a30 (by decide +kernel)
theorem dL_law_733 : decode cL_law 733 = .ok (.iadd, 1) := dc_row (B := pc_L_law_w30) (a := 720) (p := 13) pc_L_law_a30 (by decide +kernel)
theorem dL_law_734 : decode cL_law 734 = .ok (.iaload, 1) := dc_row (B := pc_L_law_w30) (a := 720) (p := 14) pc_L_law_a30 (by decide +kernel)
theorem dL_law_735 : decode cL_law 735 = .ok (.aload_n 3, 1) := dc_row (B := pc_L_law_w30) (a := 720) (p := 15) pc_L_law_a30 (by decide +kernel)
theorem dL_law_736 : decode cL_law 736 = .ok (.invokestatic 184, 3) := dc_row (B := pc_L_law_w30) (a := 720) (p := 16) pc_L_law_a30 (by decide +kernel)
theorem dL_law_739 : decode cL_law 739 = .ok (.istore 5, 2) := dc_row (B := pc_L_law_w30) (a := 720) (p := 19) pc_L_law_a30 (by decide +kernel)
theorem dL_law_741 : decode cL_law 741 = .ok (.aload_n 2, 1) := dc_row (B := pc_L_law_w30) (a := 720) (p := 21) pc_L_law_a30 (by decide +kernel)
theorem dL_law_742 : decode cL_law 742 = .ok (.aload_n 0, 1) := dc_row (B := pc_L_law_w30) (a := 720) (p := 22) pc_L_law_a30 (by decide +kernel)
theorem dL_law_743 : decode cL_law 743 = .ok (.iload 4, 2) := dc_row (B := pc_L_law_w30) (a := 720) (p := 23) pc_L_law_a30 (by decide +kernel)
theorem dL_law_745 : decode cL_law 745 = .ok (.iconst 1, 1) := dc_row (B := pc_L_law_w31) (a := 744) (p := 1) pc_L_law_a31 (by decide +kernel)
theorem dL_law_746 : decode cL_law 746 = .ok (.iadd, 1) := dc_row (B := pc_L_law_w31) (a := 744) (p := 2) pc_L_law_a31 (by decide +kernel)
theorem dL_law_747 : decode cL_law 747 = .ok (.iaload, 1) := dc_row (B := pc_L_law_w31) (a := 744) (p := 3) pc_L_law_a31 (by decide +kernel)
theorem dL_law_748 : decode cL_law 748 = .ok (.aload_n 0, 1) := dc_row (B := pc_L_law_w31) (a := 744) (p := 4) pc_L_law_a31 (by decide +kernel)
theorem dL_law_749 : decode cL_law 749 = .ok (.iload 4, 2) := dc_row (B := pc_L_law_w31) (a := 744) (p := 5) pc_L_law_a31 (by decide +kernel)
theorem dL_law_751 : decode cL_law 751 = .ok (.iconst 2, 1) := dc_row (B := pc_L_law_w31) (a := 744) (p := 7) pc_L_law_a31 (by decide +kernel)
theorem dL_law_752 : decode cL_law 752 = .ok (.iadd, 1) := dc_row (B := pc_L_law_w31) (a := 744) (p := 8) pc_L_law_a31 (by decide +kernel)
theorem dL_law_753 : decode cL_law 753 = .ok (.iaload, 1) := dc_row (B := pc_L_law_w31) (a := 744) (p := 9) pc_L_law_a31 (by decide +kernel)
theorem dL_law_754 : decode cL_law 754 = .ok (.aload_n 0, 1) := dc_row (B := pc_L_law_w31) (a := 744) (p := 10) pc_L_law_a31 (by decide +kernel)
theorem dL_law_755 : decode cL_law 755 = .ok (.iload 4, 2) := dc_row (B := pc_L_law_w31) (a := 744) (p := 11) pc_L_law_a31 (by decide +kernel)
theorem dL_law_757 : decode cL_law 757 = .ok (.iconst 3, 1) := dc_row (B := pc_L_law_w31) (a := 744) (p := 13) pc_L_law_a31 (by decide +kernel)
theorem dL_law_758 : decode cL_law 758 = .ok (.iadd, 1) := dc_row (B := pc_L_law_w31) (a := 744) (p := 14) pc_L_law_a31 (by decide +kernel)
theorem dL_law_759 : decode cL_law 759 = .ok (.iaload, 1) := dc_row (B := pc_L_law_w31) (a := 744) (p := 15) pc_L_law_a31 (by decide +kernel)
theorem dL_law_760 : decode cL_law 760 = .ok (.aload_n 0, 1) := dc_row (B := pc_L_law_w31) (a := 744) (p := 16) pc_L_law_a31 (by decide +kernel)
theorem dL_law_761 : decode cL_law 761 = .ok (.iload 4, 2) := dc_row (B := pc_L_law_w31) (a := 744) (p := 17) pc_L_law_a31 (by decide +kernel)
theorem dL_law_763 : decode cL_law 763 = .ok (.iconst 4, 1) := dc_row (B := pc_L_law_w31) (a := 744) (p := 19) pc_L_law_a31 (by decide +kernel)
theorem dL_law_764 : decode cL_law 764 = .ok (.iadd, 1) := dc_row (B := pc_L_law_w31) (a := 744) (p := 20) pc_L_law_a31 (by decide +kernel)
theorem dL_law_765 : decode cL_law 765 = .ok (.iaload, 1) := dc_row (B := pc_L_law_w31) (a := 744) (p := 21) pc_L_law_a31 (by decide +kernel)
theorem dL_law_766 : decode cL_law 766 = .ok (.invokevirtual 186, 3) := dc_row (B := pc_L_law_w31) (a := 744) (p := 22) pc_L_law_a31 (by decide +kernel)
theorem dL_law_769 : decode cL_law 769 = .ok (.istore 6, 2) := dc_row (B := pc_L_law_w32) (a := 768) (p := 1) pc_L_law_a32 (by decide +kernel)
theorem dL_law_771 : decode cL_law 771 = .ok (.aload_n 2, 1) := dc_row (B := pc_L_law_w32) (a := 768) (p := 3) pc_L_law_a32 (by decide +kernel)
theorem dL_law_772 : decode cL_law 772 = .ok (.invokevirtual 162, 3) := dc_row (B := pc_L_law_w32) (a := 768) (p := 4) pc_L_law_a32 (by decide +kernel)
theorem dL_law_775 : decode cL_law 775 = .ok (.iload 5, 2) := dc_row (B := pc_L_law_w32) (a := 768) (p := 7) pc_L_law_a32 (by decide +kernel)
theorem dL_law_777 : decode cL_law 777 = .ok (.if_icmp .eq 5, 3) := dc_row (B := pc_L_law_w32) (a := 768) (p := 9) pc_L_law_a32 (by decide +kernel)
theorem dL_law_782 : decode cL_law 782 = .ok (.iload 5, 2) := dc_row (B := pc_L_law_w32) (a := 768) (p := 14) pc_L_law_a32 (by decide +kernel)
theorem dL_law_784 : decode cL_law 784 = .ok (.ifCond .ne 16, 3) := dc_row (B := pc_L_law_w32) (a := 768) (p := 16) pc_L_law_a32 (by decide +kernel)
theorem dL_law_787 : decode cL_law 787 = .ok (.aload_n 3, 1) := dc_row (B := pc_L_law_w32) (a := 768) (p := 19) pc_L_law_a32 (by decide +kernel)
theorem dL_law_788 : decode cL_law 788 = .ok (.getfield 13, 3) := dc_row (B := pc_L_law_w32) (a := 768) (p := 20) pc_L_law_a32 (by decide +kernel)
theorem dL_law_791 : decode cL_law 791 = .ok (.iload 6, 2) := dc_row (B := pc_L_law_w32) (a := 768) (p := 23) pc_L_law_a32 (by decide +kernel)
theorem dL_law_793 : decode cL_law 793 = .ok (.i2l, 1) := dc_row (B := pc_L_law_w33) (a := 792) (p := 1) pc_L_law_a33 (by decide +kernel)
theorem dL_law_794 : decode cL_law 794 = .ok (.lcmp, 1) := dc_row (B := pc_L_law_w33) (a := 792) (p := 2) pc_L_law_a33 (by decide +kernel)
theorem dL_law_795 : decode cL_law 795 = .ok (.ifCond .eq 5, 3) := dc_row (B := pc_L_law_w33) (a := 792) (p := 3) pc_L_law_a33 (by decide +kernel)
theorem dL_law_800 : decode cL_law 800 = .ok (.goto 2182, 3) := dc_row (B := pc_L_law_w33) (a := 792) (p := 8) pc_L_law_a33 (by decide +kernel)
theorem dL_law_803 : decode cL_law 803 = .ok (.aload_n 1, 1) := dc_row (B := pc_L_law_w33) (a := 792) (p := 11) pc_L_law_a33 (by decide +kernel)
theorem dL_law_804 : decode cL_law 804 = .ok (.aload_n 0, 1) := dc_row (B := pc_L_law_w33) (a := 792) (p := 12) pc_L_law_a33 (by decide +kernel)
theorem dL_law_805 : decode cL_law 805 = .ok (.iload 4, 2) := dc_row (B := pc_L_law_w33) (a := 792) (p := 13) pc_L_law_a33 (by decide +kernel)
theorem dL_law_807 : decode cL_law 807 = .ok (.iconst 1, 1) := dc_row (B := pc_L_law_w33) (a := 792) (p := 15) pc_L_law_a33 (by decide +kernel)
theorem dL_law_808 : decode cL_law 808 = .ok (.iadd, 1) := dc_row (B := pc_L_law_w33) (a := 792) (p := 16) pc_L_law_a33 (by decide +kernel)
theorem dL_law_809 : decode cL_law 809 = .ok (.iaload, 1) := dc_row (B := pc_L_law_w33) (a := 792) (p := 17) pc_L_law_a33 (by decide +kernel)
theorem dL_law_810 : decode cL_law 810 = .ok (.aload_n 0, 1) := dc_row (B := pc_L_law_w33) (a := 792) (p := 18) pc_L_law_a33 (by decide +kernel)
theorem dL_law_811 : decode cL_law 811 = .ok (.iload 4, 2) := dc_row (B := pc_L_law_w33) (a := 792) (p := 19) pc_L_law_a33 (by decide +kernel)
theorem dL_law_813 : decode cL_law 813 = .ok (.iconst 2, 1) := dc_row (B := pc_L_law_w33) (a := 792) (p := 21) pc_L_law_a33 (by decide +kernel)
theorem dL_law_814 : decode cL_law 814 = .ok (.iadd, 1) := dc_row (B := pc_L_law_w33) (a := 792) (p := 22) pc_L_law_a33 (by decide +kernel)
theorem dL_law_815 : decode cL_law 815 = .ok (.iaload, 1) := dc_row (B := pc_L_law_w33) (a := 792) (p := 23) pc_L_law_a33 (by decide +kernel)
theorem dL_law_816 : decode cL_law 816 = .ok (.aload_n 0, 1) := dc_row (B := pc_L_law_w34) (a := 816) (p := 0) pc_L_law_a34 (by decide +kernel)
theorem dL_law_817 : decode cL_law 817 = .ok (.iload 4, 2) := dc_row (B := pc_L_law_w34) (a := 816) (p := 1) pc_L_law_a34 (by decide +kernel)
theorem dL_law_819 : decode cL_law 819 = .ok (.iconst 3, 1) := dc_row (B := pc_L_law_w34) (a := 816) (p := 3) pc_L_law_a34 (by decide +kernel)
theorem dL_law_820 : decode cL_law 820 = .ok (.iadd, 1) := dc_row (B := pc_L_law_w34) (a := 816) (p := 4) pc_L_law_a34 (by decide +kernel)
theorem dL_law_821 : decode cL_law 821 = .ok (.iaload, 1) := dc_row (B := pc_L_law_w34) (a := 816) (p := 5) pc_L_law_a34 (by decide +kernel)
theorem dL_law_822 : decode cL_law 822 = .ok (.aload_n 3, 1) := dc_row (B := pc_L_law_w34) (a := 816) (p := 6) pc_L_law_a34 (by decide +kernel)
theorem dL_law_823 : decode cL_law 823 = .ok (.invokestatic 187, 3) := dc_row (B := pc_L_law_w34) (a := 816) (p := 7) pc_L_law_a34 (by decide +kernel)
theorem dL_law_826 : decode cL_law 826 = .ok (.istore 5, 2) := dc_row (B := pc_L_law_w34) (a := 816) (p := 10) pc_L_law_a34 (by decide +kernel)
theorem dL_law_828 : decode cL_law 828 = .ok (.aload_n 2, 1) := dc_row (B := pc_L_law_w34) (a := 816) (p := 12) pc_L_law_a34 (by decide +kernel)
theorem dL_law_829 : decode cL_law 829 = .ok (.aload_n 0, 1) := dc_row (B := pc_L_law_w34) (a := 816) (p := 13) pc_L_law_a34 (by decide +kernel)
theorem dL_law_830 : decode cL_law 830 = .ok (.iload 4, 2) := dc_row (B := pc_L_law_w34) (a := 816) (p := 14) pc_L_law_a34 (by decide +kernel)
theorem dL_law_832 : decode cL_law 832 = .ok (.iconst 1, 1) := dc_row (B := pc_L_law_w34) (a := 816) (p := 16) pc_L_law_a34 (by decide +kernel)
theorem dL_law_833 : decode cL_law 833 = .ok (.iadd, 1) := dc_row (B := pc_L_law_w34) (a := 816) (p := 17) pc_L_law_a34 (by decide +kernel)
theorem dL_law_834 : decode cL_law 834 = .ok (.iaload, 1) := dc_row (B := pc_L_law_w34) (a := 816) (p := 18) pc_L_law_a34 (by decide +kernel)
theorem dL_law_835 : decode cL_law 835 = .ok (.aload_n 0, 1) := dc_row (B := pc_L_law_w34) (a := 816) (p := 19) pc_L_law_a34 (by decide +kernel)
theorem dL_law_836 : decode cL_law 836 = .ok (.iload 4, 2) := dc_row (B := pc_L_law_w34) (a := 816) (p := 20) pc_L_law_a34 (by decide +kernel)
theorem dL_law_838 : decode cL_law 838 = .ok (.iconst 2, 1) := dc_row (B := pc_L_law_w34) (a := 816) (p := 22) pc_L_law_a34 (by decide +kernel)
theorem dL_law_839 : decode cL_law 839 = .ok (.iadd, 1) := dc_row (B := pc_L_law_w34) (a := 816) (p := 23) pc_L_law_a34 (by decide +kernel)
theorem dL_law_840 : decode cL_law 840 = .ok (.iaload, 1) := dc_row (B := pc_L_law_w35) (a := 840) (p := 0) pc_L_law_a35 (by decide +kernel)
theorem dL_law_841 : decode cL_law 841 = .ok (.aload_n 0, 1) := dc_row (B := pc_L_law_w35) (a := 840) (p := 1) pc_L_law_a35 (by decide +kernel)
theorem dL_law_842 : decode cL_law 842 = .ok (.iload 4, 2) := dc_row (B := pc_L_law_w35) (a := 840) (p := 2) pc_L_law_a35 (by decide +kernel)
theorem dL_law_844 : decode cL_law 844 = .ok (.iconst 3, 1) := dc_row (B := pc_L_law_w35) (a := 840) (p := 4) pc_L_law_a35 (by decide +kernel)
theorem dL_law_845 : decode cL_law 845 = .ok (.iadd, 1) := dc_row (B := pc_L_law_w35) (a := 840) (p := 5) pc_L_law_a35 (by decide +kernel)
theorem dL_law_846 : decode cL_law 846 = .ok (.iaload, 1) := dc_row (B := pc_L_law_w35) (a := 840) (p := 6) pc_L_law_a35 (by decide +kernel)
theorem dL_law_847 : decode cL_law 847 = .ok (.invokevirtual 190, 3) := dc_row (B := pc_L_law_w35) (a := 840) (p := 7) pc_L_law_a35 (by decide +kernel)
theorem dL_law_850 : decode cL_law 850 = .ok (.istore 6, 2) := dc_row (B := pc_L_law_w35) (a := 840) (p := 10) pc_L_law_a35 (by decide +kernel)
theorem dL_law_852 : decode cL_law 852 = .ok (.aload_n 2, 1) := dc_row (B := pc_L_law_w35) (a := 840) (p := 12) pc_L_law_a35 (by decide +kernel)
theorem dL_law_853 : decode cL_law 853 = .ok (.invokevirtual 162, 3) := dc_row (B := pc_L_law_w35) (a := 840) (p := 13) pc_L_law_a35 (by decide +kernel)
theorem dL_law_856 : decode cL_law 856 = .ok (.iload 5, 2) := dc_row (B := pc_L_law_w35) (a := 840) (p := 16) pc_L_law_a35 (by decide +kernel)
theorem dL_law_858 : decode cL_law 858 = .ok (.if_icmp .eq 5, 3) := dc_row (B := pc_L_law_w35) (a := 840) (p := 18) pc_L_law_a35 (by decide +kernel)
theorem dL_law_863 : decode cL_law 863 = .ok (.iload 5, 2) := dc_row (B := pc_L_law_w35) (a := 840) (p := 23) pc_L_law_a35 (by decide +kernel)
theorem dL_law_865 : decode cL_law 865 = .ok (.ifCond .ne 16, 3) := dc_row (B := pc_L_law_w36) (a := 864) (p := 1) pc_L_law_a36 (by decide +kernel)
theorem dL_law_868 : decode cL_law 868 = .ok (.aload_n 3, 1) := dc_row (B := pc_L_law_w36) (a := 864) (p := 4) pc_L_law_a36 (by decide +kernel)
theorem dL_law_869 : decode cL_law 869 = .ok (.getfield 13, 3) := dc_row (B := pc_L_law_w36) (a := 864) (p := 5) pc_L_law_a36 (by decide +kernel)
theorem dL_law_872 : decode cL_law 872 = .ok (.iload 6, 2) := dc_row (B := pc_L_law_w36) (a := 864) (p := 8) pc_L_law_a36 (by decide +kernel)
theorem dL_law_874 : decode cL_law 874 = .ok (.i2l, 1) := dc_row (B := pc_L_law_w36) (a := 864) (p := 10) pc_L_law_a36 (by decide +kernel)
theorem dL_law_875 : decode cL_law 875 = .ok (.lcmp, 1) := dc_row (B := pc_L_law_w36) (a := 864) (p := 11) pc_L_law_a36 (by decide +kernel)
theorem dL_law_876 : decode cL_law 876 = .ok (.ifCond .eq 5, 3) := dc_row (B := pc_L_law_w36) (a := 864) (p := 12) pc_L_law_a36 (by decide +kernel)
theorem dL_law_881 : decode cL_law 881 = .ok (.goto 2101, 3) := dc_row (B := pc_L_law_w36) (a := 864) (p := 17) pc_L_law_a36 (by decide +kernel)
theorem dL_law_884 : decode cL_law 884 = .ok (.aload_n 1, 1) := dc_row (B := pc_L_law_w36) (a := 864) (p := 20) pc_L_law_a36 (by decide +kernel)
theorem dL_law_885 : decode cL_law 885 = .ok (.aload_n 0, 1) := dc_row (B := pc_L_law_w36) (a := 864) (p := 21) pc_L_law_a36 (by decide +kernel)
theorem dL_law_886 : decode cL_law 886 = .ok (.iload 4, 2) := dc_row (B := pc_L_law_w36) (a := 864) (p := 22) pc_L_law_a36 (by decide +kernel)
theorem dL_law_888 : decode cL_law 888 = .ok (.iconst 1, 1) := dc_row (B := pc_L_law_w37) (a := 888) (p := 0) pc_L_law_a37 (by decide +kernel)
theorem dL_law_889 : decode cL_law 889 = .ok (.iadd, 1) := dc_row (B := pc_L_law_w37) (a := 888) (p := 1) pc_L_law_a37 (by decide +kernel)
theorem dL_law_890 : decode cL_law 890 = .ok (.iaload, 1) := dc_row (B := pc_L_law_w37) (a := 888) (p := 2) pc_L_law_a37 (by decide +kernel)
theorem dL_law_891 : decode cL_law 891 = .ok (.aload_n 0, 1) := dc_row (B := pc_L_law_w37) (a := 888) (p := 3) pc_L_law_a37 (by decide +kernel)
theorem dL_law_892 : decode cL_law 892 = .ok (.iload 4, 2) := dc_row (B := pc_L_law_w37) (a := 888) (p := 4) pc_L_law_a37 (by decide +kernel)
theorem dL_law_894 : decode cL_law 894 = .ok (.iconst 2, 1) := dc_row (B := pc_L_law_w37) (a := 888) (p := 6) pc_L_law_a37 (by decide +kernel)
theorem dL_law_895 : decode cL_law 895 = .ok (.iadd, 1) := dc_row (B := pc_L_law_w37) (a := 888) (p := 7) pc_L_law_a37 (by decide +kernel)
theorem dL_law_896 : decode cL_law 896 = .ok (.iaload, 1) := dc_row (B := pc_L_law_w37) (a := 888) (p := 8) pc_L_law_a37 (by decide +kernel)
theorem dL_law_897 : decode cL_law 897 = .ok (.aload_n 3, 1) := dc_row (B := pc_L_law_w37) (a := 888) (p := 9) pc_L_law_a37 (by decide +kernel)
theorem dL_law_898 : decode cL_law 898 = .ok (.invokestatic 191, 3) := dc_row (B := pc_L_law_w37) (a := 888) (p := 10) pc_L_law_a37 (by decide +kernel)
theorem dL_law_901 : decode cL_law 901 = .ok (.istore 5, 2) := dc_row (B := pc_L_law_w37) (a := 888) (p := 13) pc_L_law_a37 (by decide +kernel)
theorem dL_law_903 : decode cL_law 903 = .ok (.aload_n 2, 1) := dc_row (B := pc_L_law_w37) (a := 888) (p := 15) pc_L_law_a37 (by decide +kernel)
theorem dL_law_904 : decode cL_law 904 = .ok (.aload_n 0, 1) := dc_row (B := pc_L_law_w37) (a := 888) (p := 16) pc_L_law_a37 (by decide +kernel)
theorem dL_law_905 : decode cL_law 905 = .ok (.iload 4, 2) := dc_row (B := pc_L_law_w37) (a := 888) (p := 17) pc_L_law_a37 (by decide +kernel)
theorem dL_law_907 : decode cL_law 907 = .ok (.iconst 1, 1) := dc_row (B := pc_L_law_w37) (a := 888) (p := 19) pc_L_law_a37 (by decide +kernel)
theorem dL_law_908 : decode cL_law 908 = .ok (.iadd, 1) := dc_row (B := pc_L_law_w37) (a := 888) (p := 20) pc_L_law_a37 (by decide +kernel)
theorem dL_law_909 : decode cL_law 909 = .ok (.iaload, 1) := dc_row (B := pc_L_law_w37) (a := 888) (p := 21) pc_L_law_a37 (by decide +kernel)
theorem dL_law_910 : decode cL_law 910 = .ok (.aload_n 0, 1) := dc_row (B := pc_L_law_w37) (a := 888) (p := 22) pc_L_law_a37 (by decide +kernel)
theorem dL_law_911 : decode cL_law 911 = .ok (.iload 4, 2) := dc_row (B := pc_L_law_w37) (a := 888) (p := 23) pc_L_law_a37 (by decide +kernel)
theorem dL_law_913 : decode cL_law 913 = .ok (.iconst 2, 1) := dc_row (B := pc_L_law_w38) (a := 912) (p := 1) pc_L_law_a38 (by decide +kernel)
theorem dL_law_914 : decode cL_law 914 = .ok (.iadd, 1) := dc_row (B := pc_L_law_w38) (a := 912) (p := 2) pc_L_law_a38 (by decide +kernel)
theorem dL_law_915 : decode cL_law 915 = .ok (.iaload, 1) := dc_row (B := pc_L_law_w38) (a := 912) (p := 3) pc_L_law_a38 (by decide +kernel)
theorem dL_law_916 : decode cL_law 916 = .ok (.invokevirtual 193, 3) := dc_row (B := pc_L_law_w38) (a := 912) (p := 4) pc_L_law_a38 (by decide +kernel)
theorem dL_law_919 : decode cL_law 919 = .ok (.istore 6, 2) := dc_row (B := pc_L_law_w38) (a := 912) (p := 7) pc_L_law_a38 (by decide +kernel)
theorem dL_law_921 : decode cL_law 921 = .ok (.aload_n 2, 1) := dc_row (B := pc_L_law_w38) (a := 912) (p := 9) pc_L_law_a38 (by decide +kernel)
theorem dL_law_922 : decode cL_law 922 = .ok (.invokevirtual 162, 3) := dc_row (B := pc_L_law_w38) (a := 912) (p := 10) pc_L_law_a38 (by decide +kernel)
theorem dL_law_925 : decode cL_law 925 = .ok (.iload 5, 2) := dc_row (B := pc_L_law_w38) (a := 912) (p := 13) pc_L_law_a38 (by decide +kernel)
theorem dL_law_927 : decode cL_law 927 = .ok (.if_icmp .eq 5, 3) := dc_row (B := pc_L_law_w38) (a := 912) (p := 15) pc_L_law_a38 (by decide +kernel)
theorem dL_law_932 : decode cL_law 932 = .ok (.iload 5, 2) := dc_row (B := pc_L_law_w38) (a := 912) (p := 20) pc_L_law_a38 (by decide +kernel)
theorem dL_law_934 : decode cL_law 934 = .ok (.ifCond .ne 16, 3) := dc_row (B := pc_L_law_w38) (a := 912) (p := 22) pc_L_law_a38 (by decide +kernel)
theorem dL_law_937 : decode cL_law 937 = .ok (.aload_n 3, 1) := dc_row (B := pc_L_law_w39) (a := 936) (p := 1) pc_L_law_a39 (by decide +kernel)
theorem dL_law_938 : decode cL_law 938 = .ok (.getfield 13, 3) := dc_row (B := pc_L_law_w39) (a := 936) (p := 2) pc_L_law_a39 (by decide +kernel)
theorem dL_law_941 : decode cL_law 941 = .ok (.iload 6, 2) := dc_row (B := pc_L_law_w39) (a := 936) (p := 5) pc_L_law_a39 (by decide +kernel)
theorem dL_law_943 : decode cL_law 943 = .ok (.i2l, 1) := dc_row (B := pc_L_law_w39) (a := 936) (p := 7) pc_L_law_a39 (by decide +kernel)
theorem dL_law_944 : decode cL_law 944 = .ok (.lcmp, 1) := dc_row (B := pc_L_law_w39) (a := 936) (p := 8) pc_L_law_a39 (by decide +kernel)
theorem dL_law_945 : decode cL_law 945 = .ok (.ifCond .eq 5, 3) := dc_row (B := pc_L_law_w39) (a := 936) (p := 9) pc_L_law_a39 (by decide +kernel)
theorem dL_law_950 : decode cL_law 950 = .ok (.goto 2032, 3) := dc_row (B := pc_L_law_w39) (a := 936) (p := 14) pc_L_law_a39 (by decide +kernel)
theorem dL_law_953 : decode cL_law 953 = .ok (.aload_n 1, 1) := dc_row (B := pc_L_law_w39) (a := 936) (p := 17) pc_L_law_a39 (by decide +kernel)
theorem dL_law_954 : decode cL_law 954 = .ok (.aload_n 0, 1) := dc_row (B := pc_L_law_w39) (a := 936) (p := 18) pc_L_law_a39 (by decide +kernel)
theorem dL_law_955 : decode cL_law 955 = .ok (.iload 4, 2) := dc_row (B := pc_L_law_w39) (a := 936) (p := 19) pc_L_law_a39 (by decide +kernel)
theorem dL_law_957 : decode cL_law 957 = .ok (.iconst 1, 1) := dc_row (B := pc_L_law_w39) (a := 936) (p := 21) pc_L_law_a39 (by decide +kernel)
theorem dL_law_958 : decode cL_law 958 = .ok (.iadd, 1) := dc_row (B := pc_L_law_w39) (a := 936) (p := 22) pc_L_law_a39 (by decide +kernel)
theorem dL_law_959 : decode cL_law 959 = .ok (.iaload, 1) := dc_row (B := pc_L_law_w39) (a := 936) (p := 23) pc_L_law_a39 (by decide +kernel)
theorem dL_law_960 : decode cL_law 960 = .ok (.aload_n 0, 1) := dc_row (B := pc_L_law_w40) (a := 960) (p := 0) pc_L_law_a40 (by decide +kernel)
theorem dL_law_961 : decode cL_law 961 = .ok (.iload 4, 2) := dc_row (B := pc_L_law_w40) (a := 960) (p := 1) pc_L_law_a40 (by decide +kernel)
theorem dL_law_963 : decode cL_law 963 = .ok (.iconst 2, 1) := dc_row (B := pc_L_law_w40) (a := 960) (p := 3) pc_L_law_a40 (by decide +kernel)
theorem dL_law_964 : decode cL_law 964 = .ok (.iadd, 1) := dc_row (B := pc_L_law_w40) (a := 960) (p := 4) pc_L_law_a40 (by decide +kernel)
theorem dL_law_965 : decode cL_law 965 = .ok (.iaload, 1) := dc_row (B := pc_L_law_w40) (a := 960) (p := 5) pc_L_law_a40 (by decide +kernel)
theorem dL_law_966 : decode cL_law 966 = .ok (.aload_n 0, 1) := dc_row (B := pc_L_law_w40) (a := 960) (p := 6) pc_L_law_a40 (by decide +kernel)
theorem dL_law_967 : decode cL_law 967 = .ok (.iload 4, 2) := dc_row (B := pc_L_law_w40) (a := 960) (p := 7) pc_L_law_a40 (by decide +kernel)
theorem dL_law_969 : decode cL_law 969 = .ok (.iconst 3, 1) := dc_row (B := pc_L_law_w40) (a := 960) (p := 9) pc_L_law_a40 (by decide +kernel)
theorem dL_law_970 : decode cL_law 970 = .ok (.iadd, 1) := dc_row (B := pc_L_law_w40) (a := 960) (p := 10) pc_L_law_a40 (by decide +kernel)
theorem dL_law_971 : decode cL_law 971 = .ok (.iaload, 1) := dc_row (B := pc_L_law_w40) (a := 960) (p := 11) pc_L_law_a40 (by decide +kernel)
theorem dL_law_972 : decode cL_law 972 = .ok (.aload_n 0, 1) := dc_row (B := pc_L_law_w40) (a := 960) (p := 12) pc_L_law_a40 (by decide +kernel)
theorem dL_law_973 : decode cL_law 973 = .ok (.iload 4, 2) := dc_row (B := pc_L_law_w40) (a := 960) (p := 13) pc_L_law_a40 (by decide +kernel)
theorem dL_law_975 : decode cL_law 975 = .ok (.iconst 4, 1) := dc_row (B := pc_L_law_w40) (a := 960) (p := 15) pc_L_law_a40 (by decide +kernel)
theorem dL_law_976 : decode cL_law 976 = .ok (.iadd, 1) := dc_row (B := pc_L_law_w40) (a := 960) (p := 16) pc_L_law_a40 (by decide +kernel)
theorem dL_law_977 : decode cL_law 977 = .ok (.iaload, 1) := dc_row (B := pc_L_law_w40) (a := 960) (p := 17) pc_L_law_a40 (by decide +kernel)
theorem dL_law_978 : decode cL_law 978 = .ok (.aload_n 0, 1) := dc_row (B := pc_L_law_w40) (a := 960) (p := 18) pc_L_law_a40 (by decide +kernel)
theorem dL_law_979 : decode cL_law 979 = .ok (.iload 4, 2) := dc_row (B := pc_L_law_w40) (a := 960) (p := 19) pc_L_law_a40 (by decide +kernel)
theorem dL_law_981 : decode cL_law 981 = .ok (.iconst 5, 1) := dc_row (B := pc_L_law_w40) (a := 960) (p := 21) pc_L_law_a40 (by decide +kernel)
theorem dL_law_982 : decode cL_law 982 = .ok (.iadd, 1) := dc_row (B := pc_L_law_w40) (a := 960) (p := 22) pc_L_law_a40 (by decide +kernel)
theorem dL_law_983 : decode cL_law 983 = .ok (.iaload, 1) := dc_row (B := pc_L_law_w40) (a := 960) (p := 23) pc_L_law_a40 (by decide +kernel)
theorem dL_law_984 : decode cL_law 984 = .ok (.aload_n 3, 1) := dc_row (B := pc_L_law_w41) (a := 984) (p := 0) pc_L_law_a41 (by decide +kernel)
theorem dL_law_985 : decode cL_law 985 = .ok (.invokestatic 194, 3) := dc_row (B := pc_L_law_w41) (a := 984) (p := 1) pc_L_law_a41 (by decide +kernel)
theorem dL_law_988 : decode cL_law 988 = .ok (.istore 5, 2) := dc_row (B := pc_L_law_w41) (a := 984) (p := 4) pc_L_law_a41 (by decide +kernel)
theorem dL_law_990 : decode cL_law 990 = .ok (.aload_n 2, 1) := dc_row (B := pc_L_law_w41) (a := 984) (p := 6) pc_L_law_a41 (by decide +kernel)
theorem dL_law_991 : decode cL_law 991 = .ok (.aload_n 0, 1) := dc_row (B := pc_L_law_w41) (a := 984) (p := 7) pc_L_law_a41 (by decide +kernel)
theorem dL_law_992 : decode cL_law 992 = .ok (.iload 4, 2) := dc_row (B := pc_L_law_w41) (a := 984) (p := 8) pc_L_law_a41 (by decide +kernel)
theorem dL_law_994 : decode cL_law 994 = .ok (.iconst 1, 1) := dc_row (B := pc_L_law_w41) (a := 984) (p := 10) pc_L_law_a41 (by decide +kernel)
theorem dL_law_995 : decode cL_law 995 = .ok (.iadd, 1) := dc_row (B := pc_L_law_w41) (a := 984) (p := 11) pc_L_law_a41 (by decide +kernel)
theorem dL_law_996 : decode cL_law 996 = .ok (.iaload, 1) := dc_row (B := pc_L_law_w41) (a := 984) (p := 12) pc_L_law_a41 (by decide +kernel)
theorem dL_law_997 : decode cL_law 997 = .ok (.aload_n 0, 1) := dc_row (B := pc_L_law_w41) (a := 984) (p := 13) pc_L_law_a41 (by decide +kernel)
theorem dL_law_998 : decode cL_law 998 = .ok (.iload 4, 2) := dc_row (B := pc_L_law_w41) (a := 984) (p := 14) pc_L_law_a41 (by decide +kernel)
theorem dL_law_1000 : decode cL_law 1000 = .ok (.iconst 2, 1) := dc_row (B := pc_L_law_w41) (a := 984) (p := 16) pc_L_law_a41 (by decide +kernel)
theorem dL_law_1001 : decode cL_law 1001 = .ok (.iadd, 1) := dc_row (B := pc_L_law_w41) (a := 984) (p := 17) pc_L_law_a41 (by decide +kernel)
theorem dL_law_1002 : decode cL_law 1002 = .ok (.iaload, 1) := dc_row (B := pc_L_law_w41) (a := 984) (p := 18) pc_L_law_a41 (by decide +kernel)
theorem dL_law_1003 : decode cL_law 1003 = .ok (.aload_n 0, 1) := dc_row (B := pc_L_law_w41) (a := 984) (p := 19) pc_L_law_a41 (by decide +kernel)
theorem dL_law_1004 : decode cL_law 1004 = .ok (.iload 4, 2) := dc_row (B := pc_L_law_w41) (a := 984) (p := 20) pc_L_law_a41 (by decide +kernel)
theorem dL_law_1006 : decode cL_law 1006 = .ok (.iconst 3, 1) := dc_row (B := pc_L_law_w41) (a := 984) (p := 22) pc_L_law_a41 (by decide +kernel)
theorem dL_law_1007 : decode cL_law 1007 = .ok (.iadd, 1) := dc_row (B := pc_L_law_w41) (a := 984) (p := 23) pc_L_law_a41 (by decide +kernel)
theorem dL_law_1008 : decode cL_law 1008 = .ok (.iaload, 1) := dc_row (B := pc_L_law_w42) (a := 1008) (p := 0) pc_L_law_a42 (by decide +kernel)
theorem dL_law_1009 : decode cL_law 1009 = .ok (.aload_n 0, 1) := dc_row (B := pc_L_law_w42) (a := 1008) (p := 1) pc_L_law_a42 (by decide +kernel)
theorem dL_law_1010 : decode cL_law 1010 = .ok (.iload 4, 2) := dc_row (B := pc_L_law_w42) (a := 1008) (p := 2) pc_L_law_a42 (by decide +kernel)
theorem dL_law_1012 : decode cL_law 1012 = .ok (.iconst 4, 1) := dc_row (B := pc_L_law_w42) (a := 1008) (p := 4) pc_L_law_a42 (by decide +kernel)
theorem dL_law_1013 : decode cL_law 1013 = .ok (.iadd, 1) := dc_row (B := pc_L_law_w42) (a := 1008) (p := 5) pc_L_law_a42 (by decide +kernel)
theorem dL_law_1014 : decode cL_law 1014 = .ok (.iaload, 1) := dc_row (B := pc_L_law_w42) (a := 1008) (p := 6) pc_L_law_a42 (by decide +kernel)
theorem dL_law_1015 : decode cL_law 1015 = .ok (.aload_n 0, 1) := dc_row (B := pc_L_law_w42) (a := 1008) (p := 7) pc_L_law_a42 (by decide +kernel)
theorem dL_law_1016 : decode cL_law 1016 = .ok (.iload 4, 2) := dc_row (B := pc_L_law_w42) (a := 1008) (p := 8) pc_L_law_a42 (by decide +kernel)
theorem dL_law_1018 : decode cL_law 1018 = .ok (.iconst 5, 1) := dc_row (B := pc_L_law_w42) (a := 1008) (p := 10) pc_L_law_a42 (by decide +kernel)
theorem dL_law_1019 : decode cL_law 1019 = .ok (.iadd, 1) := dc_row (B := pc_L_law_w42) (a := 1008) (p := 11) pc_L_law_a42 (by decide +kernel)
theorem dL_law_1020 : decode cL_law 1020 = .ok (.iaload, 1) := dc_row (B := pc_L_law_w42) (a := 1008) (p := 12) pc_L_law_a42 (by decide +kernel)
theorem dL_law_1021 : decode cL_law 1021 = .ok (.invokevirtual 197, 3) := dc_row (B := pc_L_law_w42) (a := 1008) (p := 13) pc_L_law_a42 (by decide +kernel)
theorem dL_law_1024 : decode cL_law 1024 = .ok (.istore 6, 2) := dc_row (B := pc_L_law_w42) (a := 1008) (p := 16) pc_L_law_a42 (by decide +kernel)
theorem dL_law_1026 : decode cL_law 1026 = .ok (.aload_n 2, 1) := dc_row (B := pc_L_law_w42) (a := 1008) (p := 18) pc_L_law_a42 (by decide +kernel)
theorem dL_law_1027 : decode cL_law 1027 = .ok (.invokevirtual 162, 3) := dc_row (B := pc_L_law_w42) (a := 1008) (p := 19) pc_L_law_a42 (by decide +kernel)
theorem dL_law_1030 : decode cL_law 1030 = .ok (.iload 5, 2) := dc_row (B := pc_L_law_w42) (a := 1008) (p := 22) pc_L_law_a42 (by decide +kernel)
theorem dL_law_1032 : decode cL_law 1032 = .ok (.if_icmp .eq 5, 3) := dc_row (B := pc_L_law_w43) (a := 1032) (p := 0) pc_L_law_a43 (by decide +kernel)
theorem dL_law_1037 : decode cL_law 1037 = .ok (.iload 5, 2) := dc_row (B := pc_L_law_w43) (a := 1032) (p := 5) pc_L_law_a43 (by decide +kernel)
theorem dL_law_1039 : decode cL_law 1039 = .ok (.ifCond .ne 16, 3) := dc_row (B := pc_L_law_w43) (a := 1032) (p := 7) pc_L_law_a43 (by decide +kernel)
theorem dL_law_1042 : decode cL_law 1042 = .ok (.aload_n 3, 1) := dc_row (B := pc_L_law_w43) (a := 1032) (p := 10) pc_L_law_a43 (by decide +kernel)
theorem dL_law_1043 : decode cL_law 1043 = .ok (.getfield 13, 3) := dc_row (B := pc_L_law_w43) (a := 1032) (p := 11) pc_L_law_a43 (by decide +kernel)
theorem dL_law_1046 : decode cL_law 1046 = .ok (.iload 6, 2) := dc_row (B := pc_L_law_w43) (a := 1032) (p := 14) pc_L_law_a43 (by decide +kernel)
theorem dL_law_1048 : decode cL_law 1048 = .ok (.i2l, 1) := dc_row (B := pc_L_law_w43) (a := 1032) (p := 16) pc_L_law_a43 (by decide +kernel)
theorem dL_law_1049 : decode cL_law 1049 = .ok (.lcmp, 1) := dc_row (B := pc_L_law_w43) (a := 1032) (p := 17) pc_L_law_a43 (by decide +kernel)
theorem dL_law_1050 : decode cL_law 1050 = .ok (.ifCond .eq 5, 3) := dc_row (B := pc_L_law_w43) (a := 1032) (p := 18) pc_L_law_a43 (by decide +kernel)
theorem dL_law_1055 : decode cL_law 1055 = .ok (.goto 1927, 3) := dc_row (B := pc_L_law_w43) (a := 1032) (p := 23) pc_L_law_a43 (by decide +kernel)
theorem dL_law_1058 : decode cL_law 1058 = .ok (.aload_n 1, 1) := dc_row (B := pc_L_law_w44) (a := 1056) (p := 2) pc_L_law_a44 (by decide +kernel)
theorem dL_law_1059 : decode cL_law 1059 = .ok (.aload_n 0, 1) := dc_row (B := pc_L_law_w44) (a := 1056) (p := 3) pc_L_law_a44 (by decide +kernel)
theorem dL_law_1060 : decode cL_law 1060 = .ok (.iload 4, 2) := dc_row (B := pc_L_law_w44) (a := 1056) (p := 4) pc_L_law_a44 (by decide +kernel)
theorem dL_law_1062 : decode cL_law 1062 = .ok (.iconst 1, 1) := dc_row (B := pc_L_law_w44) (a := 1056) (p := 6) pc_L_law_a44 (by decide +kernel)
theorem dL_law_1063 : decode cL_law 1063 = .ok (.iadd, 1) := dc_row (B := pc_L_law_w44) (a := 1056) (p := 7) pc_L_law_a44 (by decide +kernel)
theorem dL_law_1064 : decode cL_law 1064 = .ok (.iaload, 1) := dc_row (B := pc_L_law_w44) (a := 1056) (p := 8) pc_L_law_a44 (by decide +kernel)
theorem dL_law_1065 : decode cL_law 1065 = .ok (.aload_n 3, 1) := dc_row (B := pc_L_law_w44) (a := 1056) (p := 9) pc_L_law_a44 (by decide +kernel)
theorem dL_law_1066 : decode cL_law 1066 = .ok (.invokestatic 198, 3) := dc_row (B := pc_L_law_w44) (a := 1056) (p := 10) pc_L_law_a44 (by decide +kernel)
theorem dL_law_1069 : decode cL_law 1069 = .ok (.istore 5, 2) := dc_row (B := pc_L_law_w44) (a := 1056) (p := 13) pc_L_law_a44 (by decide +kernel)
theorem dL_law_1071 : decode cL_law 1071 = .ok (.aload_n 2, 1) := dc_row (B := pc_L_law_w44) (a := 1056) (p := 15) pc_L_law_a44 (by decide +kernel)
theorem dL_law_1072 : decode cL_law 1072 = .ok (.aload_n 0, 1) := dc_row (B := pc_L_law_w44) (a := 1056) (p := 16) pc_L_law_a44 (by decide +kernel)
theorem dL_law_1073 : decode cL_law 1073 = .ok (.iload 4, 2) := dc_row (B := pc_L_law_w44) (a := 1056) (p := 17) pc_L_law_a44 (by decide +kernel)
theorem dL_law_1075 : decode cL_law 1075 = .ok (.iconst 1, 1) := dc_row (B := pc_L_law_w44) (a := 1056) (p := 19) pc_L_law_a44 (by decide +kernel)
theorem dL_law_1076 : decode cL_law 1076 = .ok (.iadd, 1) := dc_row (B := pc_L_law_w44) (a := 1056) (p := 20) pc_L_law_a44 (by decide +kernel)
theorem dL_law_1077 : decode cL_law 1077 = .ok (.iaload, 1) := dc_row (B := pc_L_law_w44) (a := 1056) (p := 21) pc_L_law_a44 (by decide +kernel)
theorem dL_law_1078 : decode cL_law 1078 = .ok (.invokevirtual 200, 3) := dc_row (B := pc_L_law_w44) (a := 1056) (p := 22) pc_L_law_a44 (by decide +kernel)
theorem dL_law_1081 : decode cL_law 1081 = .ok (.istore 6, 2) := dc_row (B := pc_L_law_w45) (a := 1080) (p := 1) pc_L_law_a45 (by decide +kernel)
theorem dL_law_1083 : decode cL_law 1083 = .ok (.aload_n 2, 1) := dc_row (B := pc_L_law_w45) (a := 1080) (p := 3) pc_L_law_a45 (by decide +kernel)
theorem dL_law_1084 : decode cL_law 1084 = .ok (.invokevirtual 162, 3) := dc_row (B := pc_L_law_w45) (a := 1080) (p := 4) pc_L_law_a45 (by decide +kernel)
theorem dL_law_1087 : decode cL_law 1087 = .ok (.iload 5, 2) := dc_row (B := pc_L_law_w45) (a := 1080) (p := 7) pc_L_law_a45 (by decide +kernel)
theorem dL_law_1089 : decode cL_law 1089 = .ok (.if_icmp .eq 5, 3) := dc_row (B := pc_L_law_w45) (a := 1080) (p := 9) pc_L_law_a45 (by decide +kernel)
theorem dL_law_1094 : decode cL_law 1094 = .ok (.iload 5, 2) := dc_row (B := pc_L_law_w45) (a := 1080) (p := 14) pc_L_law_a45 (by decide +kernel)
theorem dL_law_1096 : decode cL_law 1096 = .ok (.ifCond .ne 16, 3) := dc_row (B := pc_L_law_w45) (a := 1080) (p := 16) pc_L_law_a45 (by decide +kernel)
theorem dL_law_1099 : decode cL_law 1099 = .ok (.aload_n 3, 1) := dc_row (B := pc_L_law_w45) (a := 1080) (p := 19) pc_L_law_a45 (by decide +kernel)
theorem dL_law_1100 : decode cL_law 1100 = .ok (.getfield 13, 3) := dc_row (B := pc_L_law_w45) (a := 1080) (p := 20) pc_L_law_a45 (by decide +kernel)
theorem dL_law_1103 : decode cL_law 1103 = .ok (.iload 6, 2) := dc_row (B := pc_L_law_w45) (a := 1080) (p := 23) pc_L_law_a45 (by decide +kernel)
theorem dL_law_1105 : decode cL_law 1105 = .ok (.i2l, 1) := dc_row (B := pc_L_law_w46) (a := 1104) (p := 1) pc_L_law_a46 (by decide +kernel)
theorem dL_law_1106 : decode cL_law 1106 = .ok (.lcmp, 1) := dc_row (B := pc_L_law_w46) (a := 1104) (p := 2) pc_L_law_a46 (by decide +kernel)
theorem dL_law_1107 : decode cL_law 1107 = .ok (.ifCond .eq 5, 3) := dc_row (B := pc_L_law_w46) (a := 1104) (p := 3) pc_L_law_a46 (by decide +kernel)
theorem dL_law_1112 : decode cL_law 1112 = .ok (.goto 1870, 3) := dc_row (B := pc_L_law_w46) (a := 1104) (p := 8) pc_L_law_a46 (by decide +kernel)
theorem dL_law_1115 : decode cL_law 1115 = .ok (.aload_n 1, 1) := dc_row (B := pc_L_law_w46) (a := 1104) (p := 11) pc_L_law_a46 (by decide +kernel)
theorem dL_law_1116 : decode cL_law 1116 = .ok (.aload_n 0, 1) := dc_row (B := pc_L_law_w46) (a := 1104) (p := 12) pc_L_law_a46 (by decide +kernel)
theorem dL_law_1117 : decode cL_law 1117 = .ok (.iload 4, 2) := dc_row (B := pc_L_law_w46) (a := 1104) (p := 13) pc_L_law_a46 (by decide +kernel)
theorem dL_law_1119 : decode cL_law 1119 = .ok (.iconst 1, 1) := dc_row (B := pc_L_law_w46) (a := 1104) (p := 15) pc_L_law_a46 (by decide +kernel)
theorem dL_law_1120 : decode cL_law 1120 = .ok (.iadd, 1) := dc_row (B := pc_L_law_w46) (a := 1104) (p := 16) pc_L_law_a46 (by decide +kernel)
theorem dL_law_1121 : decode cL_law 1121 = .ok (.iaload, 1) := dc_row (B := pc_L_law_w46) (a := 1104) (p := 17) pc_L_law_a46 (by decide +kernel)
theorem dL_law_1122 : decode cL_law 1122 = .ok (.aload_n 3, 1) := dc_row (B := pc_L_law_w46) (a := 1104) (p := 18) pc_L_law_a46 (by decide +kernel)
theorem dL_law_1123 : decode cL_law 1123 = .ok (.invokestatic 201, 3) := dc_row (B := pc_L_law_w46) (a := 1104) (p := 19) pc_L_law_a46 (by decide +kernel)
theorem dL_law_1126 : decode cL_law 1126 = .ok (.istore 5, 2) := dc_row (B := pc_L_law_w46) (a := 1104) (p := 22) pc_L_law_a46 (by decide +kernel)
theorem dL_law_1128 : decode cL_law 1128 = .ok (.aload_n 2, 1) := dc_row (B := pc_L_law_w47) (a := 1128) (p := 0) pc_L_law_a47 (by decide +kernel)
theorem dL_law_1129 : decode cL_law 1129 = .ok (.aload_n 0, 1) := dc_row (B := pc_L_law_w47) (a := 1128) (p := 1) pc_L_law_a47 (by decide +kernel)
theorem dL_law_1130 : decode cL_law 1130 = .ok (.iload 4, 2) := dc_row (B := pc_L_law_w47) (a := 1128) (p := 2) pc_L_law_a47 (by decide +kernel)
theorem dL_law_1132 : decode cL_law 1132 = .ok (.iconst 1, 1) := dc_row (B := pc_L_law_w47) (a := 1128) (p := 4) pc_L_law_a47 (by decide +kernel)
theorem dL_law_1133 : decode cL_law 1133 = .ok (.iadd, 1) := dc_row (B := pc_L_law_w47) (a := 1128) (p := 5) pc_L_law_a47 (by decide +kernel)
theorem dL_law_1134 : decode cL_law 1134 = .ok (.iaload, 1) := dc_row (B := pc_L_law_w47) (a := 1128) (p := 6) pc_L_law_a47 (by decide +kernel)
theorem dL_law_1135 : decode cL_law 1135 = .ok (.invokevirtual 203, 3) := dc_row (B := pc_L_law_w47) (a := 1128) (p := 7) pc_L_law_a47 (by decide +kernel)
theorem dL_law_1138 : decode cL_law 1138 = .ok (.istore 6, 2) := dc_row (B := pc_L_law_w47) (a := 1128) (p := 10) pc_L_law_a47 (by decide +kernel)
theorem dL_law_1140 : decode cL_law 1140 = .ok (.aload_n 2, 1) := dc_row (B := pc_L_law_w47) (a := 1128) (p := 12) pc_L_law_a47 (by decide +kernel)
theorem dL_law_1141 : decode cL_law 1141 = .ok (.invokevirtual 162, 3) := dc_row (B := pc_L_law_w47) (a := 1128) (p := 13) pc_L_law_a47 (by decide +kernel)
theorem dL_law_1144 : decode cL_law 1144 = .ok (.iload 5, 2) := dc_row (B := pc_L_law_w47) (a := 1128) (p := 16) pc_L_law_a47 (by decide +kernel)
theorem dL_law_1146 : decode cL_law 1146 = .ok (.if_icmp .eq 5, 3) := dc_row (B := pc_L_law_w47) (a := 1128) (p := 18) pc_L_law_a47 (by decide +kernel)
theorem dL_law_1151 : decode cL_law 1151 = .ok (.iload 5, 2) := dc_row (B := pc_L_law_w47) (a := 1128) (p := 23) pc_L_law_a47 (by decide +kernel)
theorem dL_law_1153 : decode cL_law 1153 = .ok (.ifCond .ne 16, 3) := dc_row (B := pc_L_law_w48) (a := 1152) (p := 1) pc_L_law_a48 (by decide +kernel)
theorem dL_law_1156 : decode cL_law 1156 = .ok (.aload_n 3, 1) := dc_row (B := pc_L_law_w48) (a := 1152) (p := 4) pc_L_law_a48 (by decide +kernel)
theorem dL_law_1157 : decode cL_law 1157 = .ok (.getfield 13, 3) := dc_row (B := pc_L_law_w48) (a := 1152) (p := 5) pc_L_law_a48 (by decide +kernel)
theorem dL_law_1160 : decode cL_law 1160 = .ok (.iload 6, 2) := dc_row (B := pc_L_law_w48) (a := 1152) (p := 8) pc_L_law_a48 (by decide +kernel)
theorem dL_law_1162 : decode cL_law 1162 = .ok (.i2l, 1) := dc_row (B := pc_L_law_w48) (a := 1152) (p := 10) pc_L_law_a48 (by decide +kernel)
theorem dL_law_1163 : decode cL_law 1163 = .ok (.lcmp, 1) := dc_row (B := pc_L_law_w48) (a := 1152) (p := 11) pc_L_law_a48 (by decide +kernel)
theorem dL_law_1164 : decode cL_law 1164 = .ok (.ifCond .eq 5, 3) := dc_row (B := pc_L_law_w48) (a := 1152) (p := 12) pc_L_law_a48 (by decide +kernel)
theorem dL_law_1169 : decode cL_law 1169 = .ok (.goto 1813, 3) := dc_row (B := pc_L_law_w48) (a := 1152) (p := 17) pc_L_law_a48 (by decide +kernel)
theorem dL_law_1172 : decode cL_law 1172 = .ok (.aload_n 1, 1) := dc_row (B := pc_L_law_w48) (a := 1152) (p := 20) pc_L_law_a48 (by decide +kernel)
theorem dL_law_1173 : decode cL_law 1173 = .ok (.aload_n 0, 1) := dc_row (B := pc_L_law_w48) (a := 1152) (p := 21) pc_L_law_a48 (by decide +kernel)
theorem dL_law_1174 : decode cL_law 1174 = .ok (.iload 4, 2) := dc_row (B := pc_L_law_w48) (a := 1152) (p := 22) pc_L_law_a48 (by decide +kernel)
theorem dL_law_1176 : decode cL_law 1176 = .ok (.iconst 1, 1) := dc_row (B := pc_L_law_w49) (a := 1176) (p := 0) pc_L_law_a49 (by decide +kernel)
theorem dL_law_1177 : decode cL_law 1177 = .ok (.iadd, 1) := dc_row (B := pc_L_law_w49) (a := 1176) (p := 1) pc_L_law_a49 (by decide +kernel)
theorem dL_law_1178 : decode cL_law 1178 = .ok (.iaload, 1) := dc_row (B := pc_L_law_w49) (a := 1176) (p := 2) pc_L_law_a49 (by decide +kernel)
theorem dL_law_1179 : decode cL_law 1179 = .ok (.aload_n 3, 1) := dc_row (B := pc_L_law_w49) (a := 1176) (p := 3) pc_L_law_a49 (by decide +kernel)
theorem dL_law_1180 : decode cL_law 1180 = .ok (.invokestatic 204, 3) := dc_row (B := pc_L_law_w49) (a := 1176) (p := 4) pc_L_law_a49 (by decide +kernel)
theorem dL_law_1183 : decode cL_law 1183 = .ok (.istore 5, 2) := dc_row (B := pc_L_law_w49) (a := 1176) (p := 7) pc_L_law_a49 (by decide +kernel)
theorem dL_law_1185 : decode cL_law 1185 = .ok (.aload_n 2, 1) := dc_row (B := pc_L_law_w49) (a := 1176) (p := 9) pc_L_law_a49 (by decide +kernel)
theorem dL_law_1186 : decode cL_law 1186 = .ok (.aload_n 0, 1) := dc_row (B := pc_L_law_w49) (a := 1176) (p := 10) pc_L_law_a49 (by decide +kernel)
theorem dL_law_1187 : decode cL_law 1187 = .ok (.iload 4, 2) := dc_row (B := pc_L_law_w49) (a := 1176) (p := 11) pc_L_law_a49 (by decide +kernel)
theorem dL_law_1189 : decode cL_law 1189 = .ok (.iconst 1, 1) := dc_row (B := pc_L_law_w49) (a := 1176) (p := 13) pc_L_law_a49 (by decide +kernel)
theorem dL_law_1190 : decode cL_law 1190 = .ok (.iadd, 1) := dc_row (B := pc_L_law_w49) (a := 1176) (p := 14) pc_L_law_a49 (by decide +kernel)
theorem dL_law_1191 : decode cL_law 1191 = .ok (.iaload, 1) := dc_row (B := pc_L_law_w49) (a := 1176) (p := 15) pc_L_law_a49 (by decide +kernel)
theorem dL_law_1192 : decode cL_law 1192 = .ok (.invokevirtual 206, 3) := dc_row (B := pc_L_law_w49) (a := 1176) (p := 16) pc_L_law_a49 (by decide +kernel)
theorem dL_law_1195 : decode cL_law 1195 = .ok (.istore 6, 2) := dc_row (B := pc_L_law_w49) (a := 1176) (p := 19) pc_L_law_a49 (by decide +kernel)
theorem dL_law_1197 : decode cL_law 1197 = .ok (.aload_n 2, 1) := dc_row (B := pc_L_law_w49) (a := 1176) (p := 21) pc_L_law_a49 (by decide +kernel)
theorem dL_law_1198 : decode cL_law 1198 = .ok (.invokevirtual 162, 3) := dc_row (B := pc_L_law_w49) (a := 1176) (p := 22) pc_L_law_a49 (by decide +kernel)
theorem dL_law_1201 : decode cL_law 1201 = .ok (.iload 5, 2) := dc_row (B := pc_L_law_w50) (a := 1200) (p := 1) pc_L_law_a50 (by decide +kernel)
theorem dL_law_1203 : decode cL_law 1203 = .ok (.if_icmp .eq 5, 3) := dc_row (B := pc_L_law_w50) (a := 1200) (p := 3) pc_L_law_a50 (by decide +kernel)
theorem dL_law_1208 : decode cL_law 1208 = .ok (.iload 5, 2) := dc_row (B := pc_L_law_w50) (a := 1200) (p := 8) pc_L_law_a50 (by decide +kernel)
theorem dL_law_1210 : decode cL_law 1210 = .ok (.ifCond .ne 16, 3) := dc_row (B := pc_L_law_w50) (a := 1200) (p := 10) pc_L_law_a50 (by decide +kernel)
theorem dL_law_1213 : decode cL_law 1213 = .ok (.aload_n 3, 1) := dc_row (B := pc_L_law_w50) (a := 1200) (p := 13) pc_L_law_a50 (by decide +kernel)
theorem dL_law_1214 : decode cL_law 1214 = .ok (.getfield 13, 3) := dc_row (B := pc_L_law_w50) (a := 1200) (p := 14) pc_L_law_a50 (by decide +kernel)
theorem dL_law_1217 : decode cL_law 1217 = .ok (.iload 6, 2) := dc_row (B := pc_L_law_w50) (a := 1200) (p := 17) pc_L_law_a50 (by decide +kernel)
theorem dL_law_1219 : decode cL_law 1219 = .ok (.i2l, 1) := dc_row (B := pc_L_law_w50) (a := 1200) (p := 19) pc_L_law_a50 (by decide +kernel)
theorem dL_law_1220 : decode cL_law 1220 = .ok (.lcmp, 1) := dc_row (B := pc_L_law_w50) (a := 1200) (p := 20) pc_L_law_a50 (by decide +kernel)
theorem dL_law_1221 : decode cL_law 1221 = .ok (.ifCond .eq 5, 3) := dc_row (B := pc_L_law_w50) (a := 1200) (p := 21) pc_L_law_a50 (by decide +kernel)
theorem dL_law_1226 : decode cL_law 1226 = .ok (.goto 1756, 3) := dc_row (B := pc_L_law_w51) (a := 1224) (p := 2) pc_L_law_a51 (by decide +kernel)
theorem dL_law_1229 : decode cL_law 1229 = .ok (.aload_n 1, 1) := dc_row (B := pc_L_law_w51) (a := 1224) (p := 5) pc_L_law_a51 (by decide +kernel)
theorem dL_law_1230 : decode cL_law 1230 = .ok (.aload_n 0, 1) := dc_row (B := pc_L_law_w51) (a := 1224) (p := 6) pc_L_law_a51 (by decide +kernel)
theorem dL_law_1231 : decode cL_law 1231 = .ok (.iload 4, 2) := dc_row (B := pc_L_law_w51) (a := 1224) (p := 7) pc_L_law_a51 (by decide +kernel)
theorem dL_law_1233 : decode cL_law 1233 = .ok (.iconst 1, 1) := dc_row (B := pc_L_law_w51) (a := 1224) (p := 9) pc_L_law_a51 (by decide +kernel)
theorem dL_law_1234 : decode cL_law 1234 = .ok (.iadd, 1) := dc_row (B := pc_L_law_w51) (a := 1224) (p := 10) pc_L_law_a51 (by decide +kernel)
theorem dL_law_1235 : decode cL_law 1235 = .ok (.iaload, 1) := dc_row (B := pc_L_law_w51) (a := 1224) (p := 11) pc_L_law_a51 (by decide +kernel)
theorem dL_law_1236 : decode cL_law 1236 = .ok (.aload_n 0, 1) := dc_row (B := pc_L_law_w51) (a := 1224) (p := 12) pc_L_law_a51 (by decide +kernel)
theorem dL_law_1237 : decode cL_law 1237 = .ok (.iload 4, 2) := dc_row (B := pc_L_law_w51) (a := 1224) (p := 13) pc_L_law_a51 (by decide +kernel)
theorem dL_law_1239 : decode cL_law 1239 = .ok (.iconst 2, 1) := dc_row (B := pc_L_law_w51) (a := 1224) (p := 15) pc_L_law_a51 (by decide +kernel)
theorem dL_law_1240 : decode cL_law 1240 = .ok (.iadd, 1) := dc_row (B := pc_L_law_w51) (a := 1224) (p := 16) pc_L_law_a51 (by decide +kernel)
theorem dL_law_1241 : decode cL_law 1241 = .ok (.iaload, 1) := dc_row (B := pc_L_law_w51) (a := 1224) (p := 17) pc_L_law_a51 (by decide +kernel)
theorem dL_law_1242 : decode cL_law 1242 = .ok (.aload_n 3, 1) := dc_row (B := pc_L_law_w51) (a := 1224) (p := 18) pc_L_law_a51 (by decide +kernel)
theorem dL_law_1243 : decode cL_law 1243 = .ok (.invokestatic 207, 3) := dc_row (B := pc_L_law_w51) (a := 1224) (p := 19) pc_L_law_a51 (by decide +kernel)
theorem dL_law_1246 : decode cL_law 1246 = .ok (.istore 5, 2) := dc_row (B := pc_L_law_w51) (a := 1224) (p := 22) pc_L_law_a51 (by decide +kernel)
theorem dL_law_1248 : decode cL_law 1248 = .ok (.aload_n 2, 1) := dc_row (B := pc_L_law_w52) (a := 1248) (p := 0) pc_L_law_a52 (by decide +kernel)
theorem dL_law_1249 : decode cL_law 1249 = .ok (.aload_n 0, 1) := dc_row (B := pc_L_law_w52) (a := 1248) (p := 1) pc_L_law_a52 (by decide +kernel)
theorem dL_law_1250 : decode cL_law 1250 = .ok (.iload 4, 2) := dc_row (B := pc_L_law_w52) (a := 1248) (p := 2) pc_L_law_a52 (by decide +kernel)
theorem dL_law_1252 : decode cL_law 1252 = .ok (.iconst 1, 1) := dc_row (B := pc_L_law_w52) (a := 1248) (p := 4) pc_L_law_a52 (by decide +kernel)
theorem dL_law_1253 : decode cL_law 1253 = .ok (.iadd, 1) := dc_row (B := pc_L_law_w52) (a := 1248) (p := 5) pc_L_law_a52 (by decide +kernel)
theorem dL_law_1254 : decode cL_law 1254 = .ok (.iaload, 1) := dc_row (B := pc_L_law_w52) (a := 1248) (p := 6) pc_L_law_a52 (by decide +kernel)
theorem dL_law_1255 : decode cL_law 1255 = .ok (.aload_n 0, 1) := dc_row (B := pc_L_law_w52) (a := 1248) (p := 7) pc_L_law_a52 (by decide +kernel)
theorem dL_law_1256 : decode cL_law 1256 = .ok (.iload 4, 2) := dc_row (B := pc_L_law_w52) (a := 1248) (p := 8) pc_L_law_a52 (by decide +kernel)
theorem dL_law_1258 : decode cL_law 1258 = .ok (.iconst 2, 1) := dc_row (B := pc_L_law_w52) (a := 1248) (p := 10) pc_L_law_a52 (by decide +kernel)
theorem dL_law_1259 : decode cL_law 1259 = .ok (.iadd, 1) := dc_row (B := pc_L_law_w52) (a := 1248) (p := 11) pc_L_law_a52 (by decide +kernel)
theorem dL_law_1260 : decode cL_law 1260 = .ok (.iaload, 1) := dc_row (B := pc_L_law_w52) (a := 1248) (p := 12) pc_L_law_a52 (by decide +kernel)
theorem dL_law_1261 : decode cL_law 1261 = .ok (.invokevirtual 209, 3) := dc_row (B := pc_L_law_w52) (a := 1248) (p := 13) pc_L_law_a52 (by decide +kernel)
theorem dL_law_1264 : decode cL_law 1264 = .ok (.istore 6, 2) := dc_row (B := pc_L_law_w52) (a := 1248) (p := 16) pc_L_law_a52 (by decide +kernel)
theorem dL_law_1266 : decode cL_law 1266 = .ok (.aload_n 2, 1) := dc_row (B := pc_L_law_w52) (a := 1248) (p := 18) pc_L_law_a52 (by decide +kernel)
theorem dL_law_1267 : decode cL_law 1267 = .ok (.invokevirtual 162, 3) := dc_row (B := pc_L_law_w52) (a := 1248) (p := 19) pc_L_law_a52 (by decide +kernel)
theorem dL_law_1270 : decode cL_law 1270 = .ok (.iload 5, 2) := dc_row (B := pc_L_law_w52) (a := 1248) (p := 22) pc_L_law_a52 (by decide +kernel)
theorem dL_law_1272 : decode cL_law 1272 = .ok (.if_icmp .eq 5, 3) := dc_row (B := pc_L_law_w53) (a := 1272) (p := 0) pc_L_law_a53 (by decide +kernel)
theorem dL_law_1277 : decode cL_law 1277 = .ok (.iload 5, 2) := dc_row (B := pc_L_law_w53) (a := 1272) (p := 5) pc_L_law_a53 (by decide +kernel)
theorem dL_law_1279 : decode cL_law 1279 = .ok (.ifCond .ne 16, 3) := dc_row (B := pc_L_law_w53) (a := 1272) (p := 7) pc_L_law_a53 (by decide +kernel)
theorem dL_law_1282 : decode cL_law 1282 = .ok (.aload_n 3, 1) := dc_row (B := pc_L_law_w53) (a := 1272) (p := 10) pc_L_law_a53 (by decide +kernel)
theorem dL_law_1283 : decode cL_law 1283 = .ok (.getfield 13, 3) := dc_row (B := pc_L_law_w53) (a := 1272) (p := 11) pc_L_law_a53 (by decide +kernel)
theorem dL_law_1286 : decode cL_law 1286 = .ok (.iload 6, 2) := dc_row (B := pc_L_law_w53) (a := 1272) (p := 14) pc_L_law_a53 (by decide +kernel)
theorem dL_law_1288 : decode cL_law 1288 = .ok (.i2l, 1) := dc_row (B := pc_L_law_w53) (a := 1272) (p := 16) pc_L_law_a53 (by decide +kernel)
theorem dL_law_1289 : decode cL_law 1289 = .ok (.lcmp, 1) := dc_row (B := pc_L_law_w53) (a := 1272) (p := 17) pc_L_law_a53 (by decide +kernel)
theorem dL_law_1290 : decode cL_law 1290 = .ok (.ifCond .eq 5, 3) := dc_row (B := pc_L_law_w53) (a := 1272) (p := 18) pc_L_law_a53 (by decide +kernel)
theorem dL_law_1295 : decode cL_law 1295 = .ok (.goto 1687, 3) := dc_row (B := pc_L_law_w53) (a := 1272) (p := 23) pc_L_law_a53 (by decide +kernel)
theorem dL_law_1298 : decode cL_law 1298 = .ok (.aload_n 1, 1) := dc_row (B := pc_L_law_w54) (a := 1296) (p := 2) pc_L_law_a54 (by decide +kernel)
theorem dL_law_1299 : decode cL_law 1299 = .ok (.aload_n 0, 1) := dc_row (B := pc_L_law_w54) (a := 1296) (p := 3) pc_L_law_a54 (by decide +kernel)
theorem dL_law_1300 : decode cL_law 1300 = .ok (.iload 4, 2) := dc_row (B := pc_L_law_w54) (a := 1296) (p := 4) pc_L_law_a54 (by decide +kernel)
theorem dL_law_1302 : decode cL_law 1302 = .ok (.iconst 1, 1) := dc_row (B := pc_L_law_w54) (a := 1296) (p := 6) pc_L_law_a54 (by decide +kernel)
theorem dL_law_1303 : decode cL_law 1303 = .ok (.iadd, 1) := dc_row (B := pc_L_law_w54) (a := 1296) (p := 7) pc_L_law_a54 (by decide +kernel)
theorem dL_law_1304 : decode cL_law 1304 = .ok (.iaload, 1) := dc_row (B := pc_L_law_w54) (a := 1296) (p := 8) pc_L_law_a54 (by decide +kernel)
theorem dL_law_1305 : decode cL_law 1305 = .ok (.aload_n 0, 1) := dc_row (B := pc_L_law_w54) (a := 1296) (p := 9) pc_L_law_a54 (by decide +kernel)
theorem dL_law_1306 : decode cL_law 1306 = .ok (.iload 4, 2) := dc_row (B := pc_L_law_w54) (a := 1296) (p := 10) pc_L_law_a54 (by decide +kernel)
theorem dL_law_1308 : decode cL_law 1308 = .ok (.iconst 2, 1) := dc_row (B := pc_L_law_w54) (a := 1296) (p := 12) pc_L_law_a54 (by decide +kernel)
theorem dL_law_1309 : decode cL_law 1309 = .ok (.iadd, 1) := dc_row (B := pc_L_law_w54) (a := 1296) (p := 13) pc_L_law_a54 (by decide +kernel)
theorem dL_law_1310 : decode cL_law 1310 = .ok (.iaload, 1) := dc_row (B := pc_L_law_w54) (a := 1296) (p := 14) pc_L_law_a54 (by decide +kernel)
theorem dL_law_1311 : decode cL_law 1311 = .ok (.aload_n 3, 1) := dc_row (B := pc_L_law_w54) (a := 1296) (p := 15) pc_L_law_a54 (by decide +kernel)
theorem dL_law_1312 : decode cL_law 1312 = .ok (.invokestatic 210, 3) := dc_row (B := pc_L_law_w54) (a := 1296) (p := 16) pc_L_law_a54 (by decide +kernel)
theorem dL_law_1315 : decode cL_law 1315 = .ok (.istore 5, 2) := dc_row (B := pc_L_law_w54) (a := 1296) (p := 19) pc_L_law_a54 (by decide +kernel)
theorem dL_law_1317 : decode cL_law 1317 = .ok (.aload_n 2, 1) := dc_row (B := pc_L_law_w54) (a := 1296) (p := 21) pc_L_law_a54 (by decide +kernel)
theorem dL_law_1318 : decode cL_law 1318 = .ok (.aload_n 0, 1) := dc_row (B := pc_L_law_w54) (a := 1296) (p := 22) pc_L_law_a54 (by decide +kernel)
theorem dL_law_1319 : decode cL_law 1319 = .ok (.iload 4, 2) := dc_row (B := pc_L_law_w54) (a := 1296) (p := 23) pc_L_law_a54 (by decide +kernel)
theorem dL_law_1321 : decode cL_law 1321 = .ok (.iconst 1, 1) := dc_row (B := pc_L_law_w55) (a := 1320) (p := 1) pc_L_law_a55 (by decide +kernel)
theorem dL_law_1322 : decode cL_law 1322 = .ok (.iadd, 1) := dc_row (B := pc_L_law_w55) (a := 1320) (p := 2) pc_L_law_a55 (by decide +kernel)
theorem dL_law_1323 : decode cL_law 1323 = .ok (.iaload, 1) := dc_row (B := pc_L_law_w55) (a := 1320) (p := 3) pc_L_law_a55 (by decide +kernel)
theorem dL_law_1324 : decode cL_law 1324 = .ok (.aload_n 0, 1) := dc_row (B := pc_L_law_w55) (a := 1320) (p := 4) pc_L_law_a55 (by decide +kernel)
theorem dL_law_1325 : decode cL_law 1325 = .ok (.iload 4, 2) := dc_row (B := pc_L_law_w55) (a := 1320) (p := 5) pc_L_law_a55 (by decide +kernel)
theorem dL_law_1327 : decode cL_law 1327 = .ok (.iconst 2, 1) := dc_row (B := pc_L_law_w55) (a := 1320) (p := 7) pc_L_law_a55 (by decide +kernel)
theorem dL_law_1328 : decode cL_law 1328 = .ok (.iadd, 1) := dc_row (B := pc_L_law_w55) (a := 1320) (p := 8) pc_L_law_a55 (by decide +kernel)
theorem dL_law_1329 : decode cL_law 1329 = .ok (.iaload, 1) := dc_row (B := pc_L_law_w55) (a := 1320) (p := 9) pc_L_law_a55 (by decide +kernel)
theorem dL_law_1330 : decode cL_law 1330 = .ok (.invokevirtual 212, 3) := dc_row (B := pc_L_law_w55) (a := 1320) (p := 10) pc_L_law_a55 (by decide +kernel)
theorem dL_law_1333 : decode cL_law 1333 = .ok (.istore 6, 2) := dc_row (B := pc_L_law_w55) (a := 1320) (p := 13) pc_L_law_a55 (by decide +kernel)
theorem dL_law_1335 : decode cL_law 1335 = .ok (.aload_n 2, 1) := dc_row (B := pc_L_law_w55) (a := 1320) (p := 15) pc_L_law_a55 (by decide +kernel)
theorem dL_law_1336 : decode cL_law 1336 = .ok (.invokevirtual 162, 3) := dc_row (B := pc_L_law_w55) (a := 1320) (p := 16) pc_L_law_a55 (by decide +kernel)
theorem dL_law_1339 : decode cL_law 1339 = .ok (.iload 5, 2) := dc_row (B := pc_L_law_w55) (a := 1320) (p := 19) pc_L_law_a55 (by decide +kernel)
theorem dL_law_1341 : decode cL_law 1341 = .ok (.if_icmp .eq 5, 3) := dc_row (B := pc_L_law_w55) (a := 1320) (p := 21) pc_L_law_a55 (by decide +kernel)
theorem dL_law_1346 : decode cL_law 1346 = .ok (.iload 5, 2) := dc_row (B := pc_L_law_w56) (a := 1344) (p := 2) pc_L_law_a56 (by decide +kernel)
theorem dL_law_1348 : decode cL_law 1348 = .ok (.ifCond .ne 16, 3) := dc_row (B := pc_L_law_w56) (a := 1344) (p := 4) pc_L_law_a56 (by decide +kernel)
theorem dL_law_1351 : decode cL_law 1351 = .ok (.aload_n 3, 1) := dc_row (B := pc_L_law_w56) (a := 1344) (p := 7) pc_L_law_a56 (by decide +kernel)
theorem dL_law_1352 : decode cL_law 1352 = .ok (.getfield 13, 3) := dc_row (B := pc_L_law_w56) (a := 1344) (p := 8) pc_L_law_a56 (by decide +kernel)
theorem dL_law_1355 : decode cL_law 1355 = .ok (.iload 6, 2) := dc_row (B := pc_L_law_w56) (a := 1344) (p := 11) pc_L_law_a56 (by decide +kernel)
theorem dL_law_1357 : decode cL_law 1357 = .ok (.i2l, 1) := dc_row (B := pc_L_law_w56) (a := 1344) (p := 13) pc_L_law_a56 (by decide +kernel)
theorem dL_law_1358 : decode cL_law 1358 = .ok (.lcmp, 1) := dc_row (B := pc_L_law_w56) (a := 1344) (p := 14) pc_L_law_a56 (by decide +kernel)
theorem dL_law_1359 : decode cL_law 1359 = .ok (.ifCond .eq 5, 3) := dc_row (B := pc_L_law_w56) (a := 1344) (p := 15) pc_L_law_a56 (by decide +kernel)
theorem dL_law_1364 : decode cL_law 1364 = .ok (.goto 1618, 3) := dc_row (B := pc_L_law_w56) (a := 1344) (p := 20) pc_L_law_a56 (by decide +kernel)
theorem dL_law_1367 : decode cL_law 1367 = .ok (.aload_n 1, 1) := dc_row (B := pc_L_law_w56) (a := 1344) (p := 23) pc_L_law_a56 (by decide +kernel)
theorem dL_law_1368 : decode cL_law 1368 = .ok (.aload_n 0, 1) := dc_row (B := pc_L_law_w57) (a := 1368) (p := 0) pc_L_law_a57 (by decide +kernel)
theorem dL_law_1369 : decode cL_law 1369 = .ok (.iload 4, 2) := dc_row (B := pc_L_law_w57) (a := 1368) (p := 1) pc_L_law_a57 (by decide +kernel)
theorem dL_law_1371 : decode cL_law 1371 = .ok (.iconst 1, 1) := dc_row (B := pc_L_law_w57) (a := 1368) (p := 3) pc_L_law_a57 (by decide +kernel)
theorem dL_law_1372 : decode cL_law 1372 = .ok (.iadd, 1) := dc_row (B := pc_L_law_w57) (a := 1368) (p := 4) pc_L_law_a57 (by decide +kernel)
theorem dL_law_1373 : decode cL_law 1373 = .ok (.iaload, 1) := dc_row (B := pc_L_law_w57) (a := 1368) (p := 5) pc_L_law_a57 (by decide +kernel)
theorem dL_law_1374 : decode cL_law 1374 = .ok (.aload_n 3, 1) := dc_row (B := pc_L_law_w57) (a := 1368) (p := 6) pc_L_law_a57 (by decide +kernel)
theorem dL_law_1375 : decode cL_law 1375 = .ok (.invokestatic 213, 3) := dc_row (B := pc_L_law_w57) (a := 1368) (p := 7) pc_L_law_a57 (by decide +kernel)
theorem dL_law_1378 : decode cL_law 1378 = .ok (.istore 5, 2) := dc_row (B := pc_L_law_w57) (a := 1368) (p := 10) pc_L_law_a57 (by decide +kernel)
theorem dL_law_1380 : decode cL_law 1380 = .ok (.aload_n 2, 1) := dc_row (B := pc_L_law_w57) (a := 1368) (p := 12) pc_L_law_a57 (by decide +kernel)
theorem dL_law_1381 : decode cL_law 1381 = .ok (.aload_n 0, 1) := dc_row (B := pc_L_law_w57) (a := 1368) (p := 13) pc_L_law_a57 (by decide +kernel)
theorem dL_law_1382 : decode cL_law 1382 = .ok (.iload 4, 2) := dc_row (B := pc_L_law_w57) (a := 1368) (p := 14) pc_L_law_a57 (by decide +kernel)
theorem dL_law_1384 : decode cL_law 1384 = .ok (.iconst 1, 1) := dc_row (B := pc_L_law_w57) (a := 1368) (p := 16) pc_L_law_a57 (by decide +kernel)
theorem dL_law_1385 : decode cL_law 1385 = .ok (.iadd, 1) := dc_row (B := pc_L_law_w57) (a := 1368) (p := 17) pc_L_law_a57 (by decide +kernel)
theorem dL_law_1386 : decode cL_law 1386 = .ok (.iaload, 1) := dc_row (B := pc_L_law_w57) (a := 1368) (p := 18) pc_L_law_a57 (by decide +kernel)
theorem dL_law_1387 : decode cL_law 1387 = .ok (.invokevirtual 215, 3) := dc_row (B := pc_L_law_w57) (a := 1368) (p := 19) pc_L_law_a57 (by decide +kernel)
theorem dL_law_1390 : decode cL_law 1390 = .ok (.istore 6, 2) := dc_row (B := pc_L_law_w57) (a := 1368) (p := 22) pc_L_law_a57 (by decide +kernel)
theorem dL_law_1392 : decode cL_law 1392 = .ok (.aload_n 2, 1) := dc_row (B := pc_L_law_w58) (a := 1392) (p := 0) pc_L_law_a58 (by decide +kernel)
theorem dL_law_1393 : decode cL_law 1393 = .ok (.invokevirtual 162, 3) := dc_row (B := pc_L_law_w58) (a := 1392) (p := 1) pc_L_law_a58 (by decide +kernel)
theorem dL_law_1396 : decode cL_law 1396 = .ok (.iload 5, 2) := dc_row (B := pc_L_law_w58) (a := 1392) (p := 4) pc_L_law_a58 (by decide +kernel)
theorem dL_law_1398 : decode cL_law 1398 = .ok (.if_icmp .eq 5, 3) := dc_row (B := pc_L_law_w58) (a := 1392) (p := 6) pc_L_law_a58 (by decide +kernel)
theorem dL_law_1403 : decode cL_law 1403 = .ok (.iload 5, 2) := dc_row (B := pc_L_law_w58) (a := 1392) (p := 11) pc_L_law_a58 (by decide +kernel)
theorem dL_law_1405 : decode cL_law 1405 = .ok (.ifCond .ne 16, 3) := dc_row (B := pc_L_law_w58) (a := 1392) (p := 13) pc_L_law_a58 (by decide +kernel)
theorem dL_law_1408 : decode cL_law 1408 = .ok (.aload_n 3, 1) := dc_row (B := pc_L_law_w58) (a := 1392) (p := 16) pc_L_law_a58 (by decide +kernel)
theorem dL_law_1409 : decode cL_law 1409 = .ok (.getfield 13, 3) := dc_row (B := pc_L_law_w58) (a := 1392) (p := 17) pc_L_law_a58 (by decide +kernel)
theorem dL_law_1412 : decode cL_law 1412 = .ok (.iload 6, 2) := dc_row (B := pc_L_law_w58) (a := 1392) (p := 20) pc_L_law_a58 (by decide +kernel)
theorem dL_law_1414 : decode cL_law 1414 = .ok (.i2l, 1) := dc_row (B := pc_L_law_w58) (a := 1392) (p := 22) pc_L_law_a58 (by decide +kernel)
theorem dL_law_1415 : decode cL_law 1415 = .ok (.lcmp, 1) := dc_row (B := pc_L_law_w58) (a := 1392) (p := 23) pc_L_law_a58 (by decide +kernel)
theorem dL_law_1416 : decode cL_law 1416 = .ok (.ifCond .eq 5, 3) := dc_row (B := pc_L_law_w59) (a := 1416) (p := 0) pc_L_law_a59 (by decide +kernel)
theorem dL_law_1421 : decode cL_law 1421 = .ok (.goto 1561, 3) := dc_row (B := pc_L_law_w59) (a := 1416) (p := 5) pc_L_law_a59 (by decide +kernel)
theorem dL_law_1424 : decode cL_law 1424 = .ok (.aload_n 1, 1) := dc_row (B := pc_L_law_w59) (a := 1416) (p := 8) pc_L_law_a59 (by decide +kernel)
theorem dL_law_1425 : decode cL_law 1425 = .ok (.aload_n 0, 1) := dc_row (B := pc_L_law_w59) (a := 1416) (p := 9) pc_L_law_a59 (by decide +kernel)
theorem dL_law_1426 : decode cL_law 1426 = .ok (.iload 4, 2) := dc_row (B := pc_L_law_w59) (a := 1416) (p := 10) pc_L_law_a59 (by decide +kernel)
theorem dL_law_1428 : decode cL_law 1428 = .ok (.iconst 1, 1) := dc_row (B := pc_L_law_w59) (a := 1416) (p := 12) pc_L_law_a59 (by decide +kernel)
theorem dL_law_1429 : decode cL_law 1429 = .ok (.iadd, 1) := dc_row (B := pc_L_law_w59) (a := 1416) (p := 13) pc_L_law_a59 (by decide +kernel)
theorem dL_law_1430 : decode cL_law 1430 = .ok (.iaload, 1) := dc_row (B := pc_L_law_w59) (a := 1416) (p := 14) pc_L_law_a59 (by decide +kernel)
theorem dL_law_1431 : decode cL_law 1431 = .ok (.aload_n 3, 1) := dc_row (B := pc_L_law_w59) (a := 1416) (p := 15) pc_L_law_a59 (by decide +kernel)
theorem dL_law_1432 : decode cL_law 1432 = .ok (.invokestatic 216, 3) := dc_row (B := pc_L_law_w59) (a := 1416) (p := 16) pc_L_law_a59 (by decide +kernel)
theorem dL_law_1435 : decode cL_law 1435 = .ok (.istore 5, 2) := dc_row (B := pc_L_law_w59) (a := 1416) (p := 19) pc_L_law_a59 (by decide +kernel)
theorem dL_law_1437 : decode cL_law 1437 = .ok (.aload_n 2, 1) := dc_row (B := pc_L_law_w59) (a := 1416) (p := 21) pc_L_law_a59 (by decide +kernel)
theorem dL_law_1438 : decode cL_law 1438 = .ok (.aload_n 0, 1) := dc_row (B := pc_L_law_w59) (a := 1416) (p := 22) pc_L_law_a59 (by decide +kernel)
theorem dL_law_1439 : decode cL_law 1439 = .ok (.iload 4, 2) := dc_row (B := pc_L_law_w59) (a := 1416) (p := 23) pc_L_law_a59 (by decide +kernel)
theorem dL_law_1441 : decode cL_law 1441 = .ok (.iconst 1, 1) := dc_row (B := pc_L_law_w60) (a := 1440) (p := 1) pc_L_law_a60 (by decide +kernel)
theorem dL_law_1442 : decode cL_law 1442 = .ok (.iadd, 1) := dc_row (B := pc_L_law_w60) (a := 1440) (p := 2) pc_L_law_a60 (by decide +kernel)
theorem dL_law_1443 : decode cL_law 1443 = .ok (.iaload, 1) := dc_row (B := pc_L_law_w60) (a := 1440) (p := 3) pc_L_law_a60 (by decide +kernel)
theorem dL_law_1444 : decode cL_law 1444 = .ok (.invokevirtual 218, 3) := dc_row (B := pc_L_law_w60) (a := 1440) (p := 4) pc_L_law_a60 (by decide +kernel)
theorem dL_law_1447 : decode cL_law 1447 = .ok (.istore 6, 2) := dc_row (B := pc_L_law_w60) (a := 1440) (p := 7) pc_L_law_a60 (by decide +kernel)
theorem dL_law_1449 : decode cL_law 1449 = .ok (.aload_n 2, 1) := dc_row (B := pc_L_law_w60) (a := 1440) (p := 9) pc_L_law_a60 (by decide +kernel)
theorem dL_law_1450 : decode cL_law 1450 = .ok (.invokevirtual 162, 3) := dc_row (B := pc_L_law_w60) (a := 1440) (p := 10) pc_L_law_a60 (by decide +kernel)
theorem dL_law_1453 : decode cL_law 1453 = .ok (.iload 5, 2) := dc_row (B := pc_L_law_w60) (a := 1440) (p := 13) pc_L_law_a60 (by decide +kernel)
theorem dL_law_1455 : decode cL_law 1455 = .ok (.if_icmp .eq 5, 3) := dc_row (B := pc_L_law_w60) (a := 1440) (p := 15) pc_L_law_a60 (by decide +kernel)
theorem dL_law_1460 : decode cL_law 1460 = .ok (.iload 5, 2) := dc_row (B := pc_L_law_w60) (a := 1440) (p := 20) pc_L_law_a60 (by decide +kernel)
theorem dL_law_1462 : decode cL_law 1462 = .ok (.ifCond .ne 23, 3) := dc_row (B := pc_L_law_w60) (a := 1440) (p := 22) pc_L_law_a60 (by decide +kernel)
theorem dL_law_1465 : decode cL_law 1465 = .ok (.aload_n 3, 1) := dc_row (B := pc_L_law_w61) (a := 1464) (p := 1) pc_L_law_a61 (by decide +kernel)
theorem dL_law_1466 : decode cL_law 1466 = .ok (.getfield 13, 3) := dc_row (B := pc_L_law_w61) (a := 1464) (p := 2) pc_L_law_a61 (by decide +kernel)
theorem dL_law_1469 : decode cL_law 1469 = .ok (.iload 6, 2) := dc_row (B := pc_L_law_w61) (a := 1464) (p := 5) pc_L_law_a61 (by decide +kernel)
theorem dL_law_1471 : decode cL_law 1471 = .ok (.ifCond .eq 7, 3) := dc_row (B := pc_L_law_w61) (a := 1464) (p := 7) pc_L_law_a61 (by decide +kernel)
theorem dL_law_1474 : decode cL_law 1474 = .ok (.lconst 1, 1) := dc_row (B := pc_L_law_w61) (a := 1464) (p := 10) pc_L_law_a61 (by decide +kernel)
theorem dL_law_1475 : decode cL_law 1475 = .ok (.goto 4, 3) := dc_row (B := pc_L_law_w61) (a := 1464) (p := 11) pc_L_law_a61 (by decide +kernel)
theorem dL_law_1478 : decode cL_law 1478 = .ok (.lconst 0, 1) := dc_row (B := pc_L_law_w61) (a := 1464) (p := 14) pc_L_law_a61 (by decide +kernel)
theorem dL_law_1479 : decode cL_law 1479 = .ok (.lcmp, 1) := dc_row (B := pc_L_law_w61) (a := 1464) (p := 15) pc_L_law_a61 (by decide +kernel)
theorem dL_law_1480 : decode cL_law 1480 = .ok (.ifCond .eq 5, 3) := dc_row (B := pc_L_law_w61) (a := 1464) (p := 16) pc_L_law_a61 (by decide +kernel)
theorem dL_law_1485 : decode cL_law 1485 = .ok (.goto 1497, 3) := dc_row (B := pc_L_law_w61) (a := 1464) (p := 21) pc_L_law_a61 (by decide +kernel)
theorem dL_law_1488 : decode cL_law 1488 = .ok (.aload_n 1, 1) := dc_row (B := pc_L_law_w62) (a := 1488) (p := 0) pc_L_law_a62 (by decide +kernel)
theorem dL_law_1489 : decode cL_law 1489 = .ok (.aload_n 0, 1) := dc_row (B := pc_L_law_w62) (a := 1488) (p := 1) pc_L_law_a62 (by decide +kernel)
theorem dL_law_1490 : decode cL_law 1490 = .ok (.iload 4, 2) := dc_row (B := pc_L_law_w62) (a := 1488) (p := 2) pc_L_law_a62 (by decide +kernel)
theorem dL_law_1492 : decode cL_law 1492 = .ok (.iconst 1, 1) := dc_row (B := pc_L_law_w62) (a := 1488) (p := 4) pc_L_law_a62 (by decide +kernel)
theorem dL_law_1493 : decode cL_law 1493 = .ok (.iadd, 1) := dc_row (B := pc_L_law_w62) (a := 1488) (p := 5) pc_L_law_a62 (by decide +kernel)
theorem dL_law_1494 : decode cL_law 1494 = .ok (.iaload, 1) := dc_row (B := pc_L_law_w62) (a := 1488) (p := 6) pc_L_law_a62 (by decide +kernel)
theorem dL_law_1495 : decode cL_law 1495 = .ok (.aload_n 3, 1) := dc_row (B := pc_L_law_w62) (a := 1488) (p := 7) pc_L_law_a62 (by decide +kernel)
theorem dL_law_1496 : decode cL_law 1496 = .ok (.invokestatic 219, 3) := dc_row (B := pc_L_law_w62) (a := 1488) (p := 8) pc_L_law_a62 (by decide +kernel)
theorem dL_law_1499 : decode cL_law 1499 = .ok (.istore 5, 2) := dc_row (B := pc_L_law_w62) (a := 1488) (p := 11) pc_L_law_a62 (by decide +kernel)
theorem dL_law_1501 : decode cL_law 1501 = .ok (.aload_n 2, 1) := dc_row (B := pc_L_law_w62) (a := 1488) (p := 13) pc_L_law_a62 (by decide +kernel)
theorem dL_law_1502 : decode cL_law 1502 = .ok (.aload_n 0, 1) := dc_row (B := pc_L_law_w62) (a := 1488) (p := 14) pc_L_law_a62 (by decide +kernel)
theorem dL_law_1503 : decode cL_law 1503 = .ok (.iload 4, 2) := dc_row (B := pc_L_law_w62) (a := 1488) (p := 15) pc_L_law_a62 (by decide +kernel)
theorem dL_law_1505 : decode cL_law 1505 = .ok (.iconst 1, 1) := dc_row (B := pc_L_law_w62) (a := 1488) (p := 17) pc_L_law_a62 (by decide +kernel)
theorem dL_law_1506 : decode cL_law 1506 = .ok (.iadd, 1) := dc_row (B := pc_L_law_w62) (a := 1488) (p := 18) pc_L_law_a62 (by decide +kernel)
theorem dL_law_1507 : decode cL_law 1507 = .ok (.iaload, 1) := dc_row (B := pc_L_law_w62) (a := 1488) (p := 19) pc_L_law_a62 (by decide +kernel)
theorem dL_law_1508 : decode cL_law 1508 = .ok (.invokevirtual 221, 3) := dc_row (B := pc_L_law_w62) (a := 1488) (p := 20) pc_L_law_a62 (by decide +kernel)
theorem dL_law_1511 : decode cL_law 1511 = .ok (.istore 6, 2) := dc_row (B := pc_L_law_w62) (a := 1488) (p := 23) pc_L_law_a62 (by decide +kernel)
theorem dL_law_1513 : decode cL_law 1513 = .ok (.aload_n 2, 1) := dc_row (B := pc_L_law_w63) (a := 1512) (p := 1) pc_L_law_a63 (by decide +kernel)
theorem dL_law_1514 : decode cL_law 1514 = .ok (.invokevirtual 162, 3) := dc_row (B := pc_L_law_w63) (a := 1512) (p := 2) pc_L_law_a63 (by decide +kernel)
theorem dL_law_1517 : decode cL_law 1517 = .ok (.iload 5, 2) := dc_row (B := pc_L_law_w63) (a := 1512) (p := 5) pc_L_law_a63 (by decide +kernel)
theorem dL_law_1519 : decode cL_law 1519 = .ok (.if_icmp .eq 5, 3) := dc_row (B := pc_L_law_w63) (a := 1512) (p := 7) pc_L_law_a63 (by decide +kernel)
theorem dL_law_1524 : decode cL_law 1524 = .ok (.iload 5, 2) := dc_row (B := pc_L_law_w63) (a := 1512) (p := 12) pc_L_law_a63 (by decide +kernel)
theorem dL_law_1526 : decode cL_law 1526 = .ok (.ifCond .ne 23, 3) := dc_row (B := pc_L_law_w63) (a := 1512) (p := 14) pc_L_law_a63 (by decide +kernel)
theorem dL_law_1529 : decode cL_law 1529 = .ok (.aload_n 3, 1) := dc_row (B := pc_L_law_w63) (a := 1512) (p := 17) pc_L_law_a63 (by decide +kernel)
theorem dL_law_1530 : decode cL_law 1530 = .ok (.getfield 13, 3) := dc_row (B := pc_L_law_w63) (a := 1512) (p := 18) pc_L_law_a63 (by decide +kernel)
theorem dL_law_1533 : decode cL_law 1533 = .ok (.iload 6, 2) := dc_row (B := pc_L_law_w63) (a := 1512) (p := 21) pc_L_law_a63 (by decide +kernel)
theorem dL_law_1535 : decode cL_law 1535 = .ok (.ifCond .eq 7, 3) := dc_row (B := pc_L_law_w63) (a := 1512) (p := 23) pc_L_law_a63 (by decide +kernel)
theorem dL_law_1538 : decode cL_law 1538 = .ok (.lconst 1, 1) := dc_row (B := pc_L_law_w64) (a := 1536) (p := 2) pc_L_law_a64 (by decide +kernel)
theorem dL_law_1539 : decode cL_law 1539 = .ok (.goto 4, 3) := dc_row (B := pc_L_law_w64) (a := 1536) (p := 3) pc_L_law_a64 (by decide +kernel)
theorem dL_law_1542 : decode cL_law 1542 = .ok (.lconst 0, 1) := dc_row (B := pc_L_law_w64) (a := 1536) (p := 6) pc_L_law_a64 (by decide +kernel)
theorem dL_law_1543 : decode cL_law 1543 = .ok (.lcmp, 1) := dc_row (B := pc_L_law_w64) (a := 1536) (p := 7) pc_L_law_a64 (by decide +kernel)
theorem dL_law_1544 : decode cL_law 1544 = .ok (.ifCond .eq 5, 3) := dc_row (B := pc_L_law_w64) (a := 1536) (p := 8) pc_L_law_a64 (by decide +kernel)
theorem dL_law_1549 : decode cL_law 1549 = .ok (.goto 1433, 3) := dc_row (B := pc_L_law_w64) (a := 1536) (p := 13) pc_L_law_a64 (by decide +kernel)
theorem dL_law_1552 : decode cL_law 1552 = .ok (.aload_n 1, 1) := dc_row (B := pc_L_law_w64) (a := 1536) (p := 16) pc_L_law_a64 (by decide +kernel)
theorem dL_law_1553 : decode cL_law 1553 = .ok (.aload_n 0, 1) := dc_row (B := pc_L_law_w64) (a := 1536) (p := 17) pc_L_law_a64 (by decide +kernel)
theorem dL_law_1554 : decode cL_law 1554 = .ok (.iload 4, 2) := dc_row (B := pc_L_law_w64) (a := 1536) (p := 18) pc_L_law_a64 (by decide +kernel)
theorem dL_law_1556 : decode cL_law 1556 = .ok (.iconst 1, 1) := dc_row (B := pc_L_law_w64) (a := 1536) (p := 20) pc_L_law_a64 (by decide +kernel)
theorem dL_law_1557 : decode cL_law 1557 = .ok (.iadd, 1) := dc_row (B := pc_L_law_w64) (a := 1536) (p := 21) pc_L_law_a64 (by decide +kernel)
theorem dL_law_1558 : decode cL_law 1558 = .ok (.iaload, 1) := dc_row (B := pc_L_law_w64) (a := 1536) (p := 22) pc_L_law_a64 (by decide +kernel)
theorem dL_law_1559 : decode cL_law 1559 = .ok (.aload_n 0, 1) := dc_row (B := pc_L_law_w64) (a := 1536) (p := 23) pc_L_law_a64 (by decide +kernel)
theorem dL_law_1560 : decode cL_law 1560 = .ok (.iload 4, 2) := dc_row (B := pc_L_law_w65) (a := 1560) (p := 0) pc_L_law_a65 (by decide +kernel)
theorem dL_law_1562 : decode cL_law 1562 = .ok (.iconst 2, 1) := dc_row (B := pc_L_law_w65) (a := 1560) (p := 2) pc_L_law_a65 (by decide +kernel)
theorem dL_law_1563 : decode cL_law 1563 = .ok (.iadd, 1) := dc_row (B := pc_L_law_w65) (a := 1560) (p := 3) pc_L_law_a65 (by decide +kernel)
theorem dL_law_1564 : decode cL_law 1564 = .ok (.iaload, 1) := dc_row (B := pc_L_law_w65) (a := 1560) (p := 4) pc_L_law_a65 (by decide +kernel)
theorem dL_law_1565 : decode cL_law 1565 = .ok (.aload_n 3, 1) := dc_row (B := pc_L_law_w65) (a := 1560) (p := 5) pc_L_law_a65 (by decide +kernel)
theorem dL_law_1566 : decode cL_law 1566 = .ok (.invokestatic 222, 3) := dc_row (B := pc_L_law_w65) (a := 1560) (p := 6) pc_L_law_a65 (by decide +kernel)
theorem dL_law_1569 : decode cL_law 1569 = .ok (.istore 5, 2) := dc_row (B := pc_L_law_w65) (a := 1560) (p := 9) pc_L_law_a65 (by decide +kernel)
theorem dL_law_1571 : decode cL_law 1571 = .ok (.aload_n 2, 1) := dc_row (B := pc_L_law_w65) (a := 1560) (p := 11) pc_L_law_a65 (by decide +kernel)
theorem dL_law_1572 : decode cL_law 1572 = .ok (.aload_n 0, 1) := dc_row (B := pc_L_law_w65) (a := 1560) (p := 12) pc_L_law_a65 (by decide +kernel)
theorem dL_law_1573 : decode cL_law 1573 = .ok (.iload 4, 2) := dc_row (B := pc_L_law_w65) (a := 1560) (p := 13) pc_L_law_a65 (by decide +kernel)
theorem dL_law_1575 : decode cL_law 1575 = .ok (.iconst 1, 1) := dc_row (B := pc_L_law_w65) (a := 1560) (p := 15) pc_L_law_a65 (by decide +kernel)
theorem dL_law_1576 : decode cL_law 1576 = .ok (.iadd, 1) := dc_row (B := pc_L_law_w65) (a := 1560) (p := 16) pc_L_law_a65 (by decide +kernel)
theorem dL_law_1577 : decode cL_law 1577 = .ok (.iaload, 1) := dc_row (B := pc_L_law_w65) (a := 1560) (p := 17) pc_L_law_a65 (by decide +kernel)
theorem dL_law_1578 : decode cL_law 1578 = .ok (.aload_n 0, 1) := dc_row (B := pc_L_law_w65) (a := 1560) (p := 18) pc_L_law_a65 (by decide +kernel)
theorem dL_law_1579 : decode cL_law 1579 = .ok (.iload 4, 2) := dc_row (B := pc_L_law_w65) (a := 1560) (p := 19) pc_L_law_a65 (by decide +kernel)
theorem dL_law_1581 : decode cL_law 1581 = .ok (.iconst 2, 1) := dc_row (B := pc_L_law_w65) (a := 1560) (p := 21) pc_L_law_a65 (by decide +kernel)
theorem dL_law_1582 : decode cL_law 1582 = .ok (.iadd, 1) := dc_row (B := pc_L_law_w65) (a := 1560) (p := 22) pc_L_law_a65 (by decide +kernel)
theorem dL_law_1583 : decode cL_law 1583 = .ok (.iaload, 1) := dc_row (B := pc_L_law_w65) (a := 1560) (p := 23) pc_L_law_a65 (by decide +kernel)
theorem dL_law_1584 : decode cL_law 1584 = .ok (.invokevirtual 224, 3) := dc_row (B := pc_L_law_w66) (a := 1584) (p := 0) pc_L_law_a66 (by decide +kernel)
theorem dL_law_1587 : decode cL_law 1587 = .ok (.istore 6, 2) := dc_row (B := pc_L_law_w66) (a := 1584) (p := 3) pc_L_law_a66 (by decide +kernel)
theorem dL_law_1589 : decode cL_law 1589 = .ok (.aload_n 2, 1) := dc_row (B := pc_L_law_w66) (a := 1584) (p := 5) pc_L_law_a66 (by decide +kernel)
theorem dL_law_1590 : decode cL_law 1590 = .ok (.invokevirtual 162, 3) := dc_row (B := pc_L_law_w66) (a := 1584) (p := 6) pc_L_law_a66 (by decide +kernel)
theorem dL_law_1593 : decode cL_law 1593 = .ok (.iload 5, 2) := dc_row (B := pc_L_law_w66) (a := 1584) (p := 9) pc_L_law_a66 (by decide +kernel)
theorem dL_law_1595 : decode cL_law 1595 = .ok (.if_icmp .eq 5, 3) := dc_row (B := pc_L_law_w66) (a := 1584) (p := 11) pc_L_law_a66 (by decide +kernel)
theorem dL_law_1600 : decode cL_law 1600 = .ok (.iload 5, 2) := dc_row (B := pc_L_law_w66) (a := 1584) (p := 16) pc_L_law_a66 (by decide +kernel)
theorem dL_law_1602 : decode cL_law 1602 = .ok (.ifCond .ne 23, 3) := dc_row (B := pc_L_law_w66) (a := 1584) (p := 18) pc_L_law_a66 (by decide +kernel)
theorem dL_law_1605 : decode cL_law 1605 = .ok (.aload_n 3, 1) := dc_row (B := pc_L_law_w66) (a := 1584) (p := 21) pc_L_law_a66 (by decide +kernel)
theorem dL_law_1606 : decode cL_law 1606 = .ok (.getfield 13, 3) := dc_row (B := pc_L_law_w66) (a := 1584) (p := 22) pc_L_law_a66 (by decide +kernel)
theorem dL_law_1609 : decode cL_law 1609 = .ok (.iload 6, 2) := dc_row (B := pc_L_law_w67) (a := 1608) (p := 1) pc_L_law_a67 (by decide +kernel)
theorem dL_law_1611 : decode cL_law 1611 = .ok (.ifCond .eq 7, 3) := dc_row (B := pc_L_law_w67) (a := 1608) (p := 3) pc_L_law_a67 (by decide +kernel)
theorem dL_law_1614 : decode cL_law 1614 = .ok (.lconst 1, 1) := dc_row (B := pc_L_law_w67) (a := 1608) (p := 6) pc_L_law_a67 (by decide +kernel)
theorem dL_law_1615 : decode cL_law 1615 = .ok (.goto 4, 3) := dc_row (B := pc_L_law_w67) (a := 1608) (p := 7) pc_L_law_a67 (by decide +kernel)
theorem dL_law_1618 : decode cL_law 1618 = .ok (.lconst 0, 1) := dc_row (B := pc_L_law_w67) (a := 1608) (p := 10) pc_L_law_a67 (by decide +kernel)
theorem dL_law_1619 : decode cL_law 1619 = .ok (.lcmp, 1) := dc_row (B := pc_L_law_w67) (a := 1608) (p := 11) pc_L_law_a67 (by decide +kernel)
theorem dL_law_1620 : decode cL_law 1620 = .ok (.ifCond .eq 5, 3) := dc_row (B := pc_L_law_w67) (a := 1608) (p := 12) pc_L_law_a67 (by decide +kernel)
theorem dL_law_1625 : decode cL_law 1625 = .ok (.goto 1357, 3) := dc_row (B := pc_L_law_w67) (a := 1608) (p := 17) pc_L_law_a67 (by decide +kernel)
theorem dL_law_1628 : decode cL_law 1628 = .ok (.aload_n 1, 1) := dc_row (B := pc_L_law_w67) (a := 1608) (p := 20) pc_L_law_a67 (by decide +kernel)
theorem dL_law_1629 : decode cL_law 1629 = .ok (.aload_n 0, 1) := dc_row (B := pc_L_law_w67) (a := 1608) (p := 21) pc_L_law_a67 (by decide +kernel)
theorem dL_law_1630 : decode cL_law 1630 = .ok (.iload 4, 2) := dc_row (B := pc_L_law_w67) (a := 1608) (p := 22) pc_L_law_a67 (by decide +kernel)
theorem dL_law_1632 : decode cL_law 1632 = .ok (.iconst 1, 1) := dc_row (B := pc_L_law_w68) (a := 1632) (p := 0) pc_L_law_a68 (by decide +kernel)
theorem dL_law_1633 : decode cL_law 1633 = .ok (.iadd, 1) := dc_row (B := pc_L_law_w68) (a := 1632) (p := 1) pc_L_law_a68 (by decide +kernel)
theorem dL_law_1634 : decode cL_law 1634 = .ok (.iaload, 1) := dc_row (B := pc_L_law_w68) (a := 1632) (p := 2) pc_L_law_a68 (by decide +kernel)
theorem dL_law_1635 : decode cL_law 1635 = .ok (.aload_n 3, 1) := dc_row (B := pc_L_law_w68) (a := 1632) (p := 3) pc_L_law_a68 (by decide +kernel)
theorem dL_law_1636 : decode cL_law 1636 = .ok (.invokestatic 225, 3) := dc_row (B := pc_L_law_w68) (a := 1632) (p := 4) pc_L_law_a68 (by decide +kernel)
theorem dL_law_1639 : decode cL_law 1639 = .ok (.istore 5, 2) := dc_row (B := pc_L_law_w68) (a := 1632) (p := 7) pc_L_law_a68 (by decide +kernel)
theorem dL_law_1641 : decode cL_law 1641 = .ok (.aload_n 2, 1) := dc_row (B := pc_L_law_w68) (a := 1632) (p := 9) pc_L_law_a68 (by decide +kernel)
theorem dL_law_1642 : decode cL_law 1642 = .ok (.aload_n 0, 1) := dc_row (B := pc_L_law_w68) (a := 1632) (p := 10) pc_L_law_a68 (by decide +kernel)
theorem dL_law_1643 : decode cL_law 1643 = .ok (.iload 4, 2) := dc_row (B := pc_L_law_w68) (a := 1632) (p := 11) pc_L_law_a68 (by decide +kernel)
theorem dL_law_1645 : decode cL_law 1645 = .ok (.iconst 1, 1) := dc_row (B := pc_L_law_w68) (a := 1632) (p := 13) pc_L_law_a68 (by decide +kernel)
theorem dL_law_1646 : decode cL_law 1646 = .ok (.iadd, 1) := dc_row (B := pc_L_law_w68) (a := 1632) (p := 14) pc_L_law_a68 (by decide +kernel)
theorem dL_law_1647 : decode cL_law 1647 = .ok (.iaload, 1) := dc_row (B := pc_L_law_w68) (a := 1632) (p := 15) pc_L_law_a68 (by decide +kernel)
theorem dL_law_1648 : decode cL_law 1648 = .ok (.invokevirtual 227, 3) := dc_row (B := pc_L_law_w68) (a := 1632) (p := 16) pc_L_law_a68 (by decide +kernel)
theorem dL_law_1651 : decode cL_law 1651 = .ok (.istore 6, 2) := dc_row (B := pc_L_law_w68) (a := 1632) (p := 19) pc_L_law_a68 (by decide +kernel)
theorem dL_law_1653 : decode cL_law 1653 = .ok (.aload_n 2, 1) := dc_row (B := pc_L_law_w68) (a := 1632) (p := 21) pc_L_law_a68 (by decide +kernel)
theorem dL_law_1654 : decode cL_law 1654 = .ok (.invokevirtual 162, 3) := dc_row (B := pc_L_law_w68) (a := 1632) (p := 22) pc_L_law_a68 (by decide +kernel)
theorem dL_law_1657 : decode cL_law 1657 = .ok (.iload 5, 2) := dc_row (B := pc_L_law_w69) (a := 1656) (p := 1) pc_L_law_a69 (by decide +kernel)
theorem dL_law_1659 : decode cL_law 1659 = .ok (.if_icmp .eq 5, 3) := dc_row (B := pc_L_law_w69) (a := 1656) (p := 3) pc_L_law_a69 (by decide +kernel)
theorem dL_law_1664 : decode cL_law 1664 = .ok (.iload 5, 2) := dc_row (B := pc_L_law_w69) (a := 1656) (p := 8) pc_L_law_a69 (by decide +kernel)
theorem dL_law_1666 : decode cL_law 1666 = .ok (.ifCond .ne 16, 3) := dc_row (B := pc_L_law_w69) (a := 1656) (p := 10) pc_L_law_a69 (by decide +kernel)
theorem dL_law_1669 : decode cL_law 1669 = .ok (.aload_n 3, 1) := dc_row (B := pc_L_law_w69) (a := 1656) (p := 13) pc_L_law_a69 (by decide +kernel)
theorem dL_law_1670 : decode cL_law 1670 = .ok (.getfield 13, 3) := dc_row (B := pc_L_law_w69) (a := 1656) (p := 14) pc_L_law_a69 (by decide +kernel)
theorem dL_law_1673 : decode cL_law 1673 = .ok (.iload 6, 2) := dc_row (B := pc_L_law_w69) (a := 1656) (p := 17) pc_L_law_a69 (by decide +kernel)
theorem dL_law_1675 : decode cL_law 1675 = .ok (.i2l, 1) := dc_row (B := pc_L_law_w69) (a := 1656) (p := 19) pc_L_law_a69 (by decide +kernel)
theorem dL_law_1676 : decode cL_law 1676 = .ok (.lcmp, 1) := dc_row (B := pc_L_law_w69) (a := 1656) (p := 20) pc_L_law_a69 (by decide +kernel)
theorem dL_law_1677 : decode cL_law 1677 = .ok (.ifCond .eq 5, 3) := dc_row (B := pc_L_law_w69) (a := 1656) (p := 21) pc_L_law_a69 (by decide +kernel)
theorem dL_law_1682 : decode cL_law 1682 = .ok (.goto 1300, 3) := dc_row (B := pc_L_law_w70) (a := 1680) (p := 2) pc_L_law_a70 (by decide +kernel)
theorem dL_law_1685 : decode cL_law 1685 = .ok (.aload_n 1, 1) := dc_row (B := pc_L_law_w70) (a := 1680) (p := 5) pc_L_law_a70 (by decide +kernel)
theorem dL_law_1686 : decode cL_law 1686 = .ok (.aload_n 0, 1) := dc_row (B := pc_L_law_w70) (a := 1680) (p := 6) pc_L_law_a70 (by decide +kernel)
theorem dL_law_1687 : decode cL_law 1687 = .ok (.iload 4, 2) := dc_row (B := pc_L_law_w70) (a := 1680) (p := 7) pc_L_law_a70 (by decide +kernel)
theorem dL_law_1689 : decode cL_law 1689 = .ok (.iconst 1, 1) := dc_row (B := pc_L_law_w70) (a := 1680) (p := 9) pc_L_law_a70 (by decide +kernel)
theorem dL_law_1690 : decode cL_law 1690 = .ok (.iadd, 1) := dc_row (B := pc_L_law_w70) (a := 1680) (p := 10) pc_L_law_a70 (by decide +kernel)
theorem dL_law_1691 : decode cL_law 1691 = .ok (.iaload, 1) := dc_row (B := pc_L_law_w70) (a := 1680) (p := 11) pc_L_law_a70 (by decide +kernel)
theorem dL_law_1692 : decode cL_law 1692 = .ok (.aload_n 0, 1) := dc_row (B := pc_L_law_w70) (a := 1680) (p := 12) pc_L_law_a70 (by decide +kernel)
theorem dL_law_1693 : decode cL_law 1693 = .ok (.iload 4, 2) := dc_row (B := pc_L_law_w70) (a := 1680) (p := 13) pc_L_law_a70 (by decide +kernel)
theorem dL_law_1695 : decode cL_law 1695 = .ok (.iconst 2, 1) := dc_row (B := pc_L_law_w70) (a := 1680) (p := 15) pc_L_law_a70 (by decide +kernel)
theorem dL_law_1696 : decode cL_law 1696 = .ok (.iadd, 1) := dc_row (B := pc_L_law_w70) (a := 1680) (p := 16) pc_L_law_a70 (by decide +kernel)
theorem dL_law_1697 : decode cL_law 1697 = .ok (.iaload, 1) := dc_row (B := pc_L_law_w70) (a := 1680) (p := 17) pc_L_law_a70 (by decide +kernel)
theorem dL_law_1698 : decode cL_law 1698 = .ok (.aload_n 3, 1) := dc_row (B := pc_L_law_w70) (a := 1680) (p := 18) pc_L_law_a70 (by decide +kernel)
theorem dL_law_1699 : decode cL_law 1699 = .ok (.invokestatic 228, 3) := dc_row (B := pc_L_law_w70) (a := 1680) (p := 19) pc_L_law_a70 (by decide +kernel)
theorem dL_law_1702 : decode cL_law 1702 = .ok (.istore 5, 2) := dc_row (B := pc_L_law_w70) (a := 1680) (p := 22) pc_L_law_a70 (by decide +kernel)
theorem dL_law_1704 : decode cL_law 1704 = .ok (.aload_n 2, 1) := dc_row (B := pc_L_law_w71) (a := 1704) (p := 0) pc_L_law_a71 (by decide +kernel)
theorem dL_law_1705 : decode cL_law 1705 = .ok (.aload_n 0, 1) := dc_row (B := pc_L_law_w71) (a := 1704) (p := 1) pc_L_law_a71 (by decide +kernel)
theorem dL_law_1706 : decode cL_law 1706 = .ok (.iload 4, 2) := dc_row (B := pc_L_law_w71) (a := 1704) (p := 2) pc_L_law_a71 (by decide +kernel)
theorem dL_law_1708 : decode cL_law 1708 = .ok (.iconst 1, 1) := dc_row (B := pc_L_law_w71) (a := 1704) (p := 4) pc_L_law_a71 (by decide +kernel)
theorem dL_law_1709 : decode cL_law 1709 = .ok (.iadd, 1) := dc_row (B := pc_L_law_w71) (a := 1704) (p := 5) pc_L_law_a71 (by decide +kernel)
theorem dL_law_1710 : decode cL_law 1710 = .ok (.iaload, 1) := dc_row (B := pc_L_law_w71) (a := 1704) (p := 6) pc_L_law_a71 (by decide +kernel)
theorem dL_law_1711 : decode cL_law 1711 = .ok (.aload_n 0, 1) := dc_row (B := pc_L_law_w71) (a := 1704) (p := 7) pc_L_law_a71 (by decide +kernel)
theorem dL_law_1712 : decode cL_law 1712 = .ok (.iload 4, 2) := dc_row (B := pc_L_law_w71) (a := 1704) (p := 8) pc_L_law_a71 (by decide +kernel)
theorem dL_law_1714 : decode cL_law 1714 = .ok (.iconst 2, 1) := dc_row (B := pc_L_law_w71) (a := 1704) (p := 10) pc_L_law_a71 (by decide +kernel)
theorem dL_law_1715 : decode cL_law 1715 = .ok (.iadd, 1) := dc_row (B := pc_L_law_w71) (a := 1704) (p := 11) pc_L_law_a71 (by decide +kernel)
theorem dL_law_1716 : decode cL_law 1716 = .ok (.iaload, 1) := dc_row (B := pc_L_law_w71) (a := 1704) (p := 12) pc_L_law_a71 (by decide +kernel)
theorem dL_law_1717 : decode cL_law 1717 = .ok (.invokevirtual 230, 3) := dc_row (B := pc_L_law_w71) (a := 1704) (p := 13) pc_L_law_a71 (by decide +kernel)
theorem dL_law_1720 : decode cL_law 1720 = .ok (.istore 6, 2) := dc_row (B := pc_L_law_w71) (a := 1704) (p := 16) pc_L_law_a71 (by decide +kernel)
theorem dL_law_1722 : decode cL_law 1722 = .ok (.aload_n 2, 1) := dc_row (B := pc_L_law_w71) (a := 1704) (p := 18) pc_L_law_a71 (by decide +kernel)
theorem dL_law_1723 : decode cL_law 1723 = .ok (.invokevirtual 162, 3) := dc_row (B := pc_L_law_w71) (a := 1704) (p := 19) pc_L_law_a71 (by decide +kernel)
theorem dL_law_1726 : decode cL_law 1726 = .ok (.iload 5, 2) := dc_row (B := pc_L_law_w71) (a := 1704) (p := 22) pc_L_law_a71 (by decide +kernel)
theorem dL_law_1728 : decode cL_law 1728 = .ok (.if_icmp .eq 5, 3) := dc_row (B := pc_L_law_w72) (a := 1728) (p := 0) pc_L_law_a72 (by decide +kernel)
theorem dL_law_1733 : decode cL_law 1733 = .ok (.iload 5, 2) := dc_row (B := pc_L_law_w72) (a := 1728) (p := 5) pc_L_law_a72 (by decide +kernel)
theorem dL_law_1735 : decode cL_law 1735 = .ok (.ifCond .ne 16, 3) := dc_row (B := pc_L_law_w72) (a := 1728) (p := 7) pc_L_law_a72 (by decide +kernel)
theorem dL_law_1738 : decode cL_law 1738 = .ok (.aload_n 3, 1) := dc_row (B := pc_L_law_w72) (a := 1728) (p := 10) pc_L_law_a72 (by decide +kernel)
theorem dL_law_1739 : decode cL_law 1739 = .ok (.getfield 13, 3) := dc_row (B := pc_L_law_w72) (a := 1728) (p := 11) pc_L_law_a72 (by decide +kernel)
theorem dL_law_1742 : decode cL_law 1742 = .ok (.iload 6, 2) := dc_row (B := pc_L_law_w72) (a := 1728) (p := 14) pc_L_law_a72 (by decide +kernel)
theorem dL_law_1744 : decode cL_law 1744 = .ok (.i2l, 1) := dc_row (B := pc_L_law_w72) (a := 1728) (p := 16) pc_L_law_a72 (by decide +kernel)
theorem dL_law_1745 : decode cL_law 1745 = .ok (.lcmp, 1) := dc_row (B := pc_L_law_w72) (a := 1728) (p := 17) pc_L_law_a72 (by decide +kernel)
theorem dL_law_1746 : decode cL_law 1746 = .ok (.ifCond .eq 5, 3) := dc_row (B := pc_L_law_w72) (a := 1728) (p := 18) pc_L_law_a72 (by decide +kernel)
theorem dL_law_1751 : decode cL_law 1751 = .ok (.goto 1231, 3) := dc_row (B := pc_L_law_w72) (a := 1728) (p := 23) pc_L_law_a72 (by decide +kernel)
theorem dL_law_1754 : decode cL_law 1754 = .ok (.aload_n 1, 1) := dc_row (B := pc_L_law_w73) (a := 1752) (p := 2) pc_L_law_a73 (by decide +kernel)
theorem dL_law_1755 : decode cL_law 1755 = .ok (.aload_n 0, 1) := dc_row (B := pc_L_law_w73) (a := 1752) (p := 3) pc_L_law_a73 (by decide +kernel)
theorem dL_law_1756 : decode cL_law 1756 = .ok (.iload 4, 2) := dc_row (B := pc_L_law_w73) (a := 1752) (p := 4) pc_L_law_a73 (by decide +kernel)
theorem dL_law_1758 : decode cL_law 1758 = .ok (.iconst 1, 1) := dc_row (B := pc_L_law_w73) (a := 1752) (p := 6) pc_L_law_a73 (by decide +kernel)
theorem dL_law_1759 : decode cL_law 1759 = .ok (.iadd, 1) := dc_row (B := pc_L_law_w73) (a := 1752) (p := 7) pc_L_law_a73 (by decide +kernel)
theorem dL_law_1760 : decode cL_law 1760 = .ok (.iaload, 1) := dc_row (B := pc_L_law_w73) (a := 1752) (p := 8) pc_L_law_a73 (by decide +kernel)
theorem dL_law_1761 : decode cL_law 1761 = .ok (.aload_n 3, 1) := dc_row (B := pc_L_law_w73) (a := 1752) (p := 9) pc_L_law_a73 (by decide +kernel)
theorem dL_law_1762 : decode cL_law 1762 = .ok (.invokestatic 231, 3) := dc_row (B := pc_L_law_w73) (a := 1752) (p := 10) pc_L_law_a73 (by decide +kernel)
theorem dL_law_1765 : decode cL_law 1765 = .ok (.istore 5, 2) := dc_row (B := pc_L_law_w73) (a := 1752) (p := 13) pc_L_law_a73 (by decide +kernel)
theorem dL_law_1767 : decode cL_law 1767 = .ok (.aload_n 2, 1) := dc_row (B := pc_L_law_w73) (a := 1752) (p := 15) pc_L_law_a73 (by decide +kernel)
theorem dL_law_1768 : decode cL_law 1768 = .ok (.aload_n 0, 1) := dc_row (B := pc_L_law_w73) (a := 1752) (p := 16) pc_L_law_a73 (by decide +kernel)
theorem dL_law_1769 : decode cL_law 1769 = .ok (.iload 4, 2) := dc_row (B := pc_L_law_w73) (a := 1752) (p := 17) pc_L_law_a73 (by decide +kernel)
theorem dL_law_1771 : decode cL_law 1771 = .ok (.iconst 1, 1) := dc_row (B := pc_L_law_w73) (a := 1752) (p := 19) pc_L_law_a73 (by decide +kernel)
theorem dL_law_1772 : decode cL_law 1772 = .ok (.iadd, 1) := dc_row (B := pc_L_law_w73) (a := 1752) (p := 20) pc_L_law_a73 (by decide +kernel)
theorem dL_law_1773 : decode cL_law 1773 = .ok (.iaload, 1) := dc_row (B := pc_L_law_w73) (a := 1752) (p := 21) pc_L_law_a73 (by decide +kernel)
theorem dL_law_1774 : decode cL_law 1774 = .ok (.invokevirtual 233, 3) := dc_row (B := pc_L_law_w73) (a := 1752) (p := 22) pc_L_law_a73 (by decide +kernel)
theorem dL_law_1777 : decode cL_law 1777 = .ok (.istore 6, 2) := dc_row (B := pc_L_law_w74) (a := 1776) (p := 1) pc_L_law_a74 (by decide +kernel)
theorem dL_law_1779 : decode cL_law 1779 = .ok (.aload_n 2, 1) := dc_row (B := pc_L_law_w74) (a := 1776) (p := 3) pc_L_law_a74 (by decide +kernel)
theorem dL_law_1780 : decode cL_law 1780 = .ok (.invokevirtual 162, 3) := dc_row (B := pc_L_law_w74) (a := 1776) (p := 4) pc_L_law_a74 (by decide +kernel)
theorem dL_law_1783 : decode cL_law 1783 = .ok (.iload 5, 2) := dc_row (B := pc_L_law_w74) (a := 1776) (p := 7) pc_L_law_a74 (by decide +kernel)
theorem dL_law_1785 : decode cL_law 1785 = .ok (.if_icmp .eq 5, 3) := dc_row (B := pc_L_law_w74) (a := 1776) (p := 9) pc_L_law_a74 (by decide +kernel)
theorem dL_law_1790 : decode cL_law 1790 = .ok (.iload 5, 2) := dc_row (B := pc_L_law_w74) (a := 1776) (p := 14) pc_L_law_a74 (by decide +kernel)
theorem dL_law_1792 : decode cL_law 1792 = .ok (.ifCond .ne 16, 3) := dc_row (B := pc_L_law_w74) (a := 1776) (p := 16) pc_L_law_a74 (by decide +kernel)
theorem dL_law_1795 : decode cL_law 1795 = .ok (.aload_n 3, 1) := dc_row (B := pc_L_law_w74) (a := 1776) (p := 19) pc_L_law_a74 (by decide +kernel)
theorem dL_law_1796 : decode cL_law 1796 = .ok (.getfield 13, 3) := dc_row (B := pc_L_law_w74) (a := 1776) (p := 20) pc_L_law_a74 (by decide +kernel)
theorem dL_law_1799 : decode cL_law 1799 = .ok (.iload 6, 2) := dc_row (B := pc_L_law_w74) (a := 1776) (p := 23) pc_L_law_a74 (by decide +kernel)
theorem dL_law_1801 : decode cL_law 1801 = .ok (.i2l, 1) := dc_row (B := pc_L_law_w75) (a := 1800) (p := 1) pc_L_law_a75 (by decide +kernel)
theorem dL_law_1802 : decode cL_law 1802 = .ok (.lcmp, 1) := dc_row (B := pc_L_law_w75) (a := 1800) (p := 2) pc_L_law_a75 (by decide +kernel)
theorem dL_law_1803 : decode cL_law 1803 = .ok (.ifCond .eq 5, 3) := dc_row (B := pc_L_law_w75) (a := 1800) (p := 3) pc_L_law_a75 (by decide +kernel)
theorem dL_law_1808 : decode cL_law 1808 = .ok (.goto 1174, 3) := dc_row (B := pc_L_law_w75) (a := 1800) (p := 8) pc_L_law_a75 (by decide +kernel)
theorem dL_law_1811 : decode cL_law 1811 = .ok (.aload_n 1, 1) := dc_row (B := pc_L_law_w75) (a := 1800) (p := 11) pc_L_law_a75 (by decide +kernel)
theorem dL_law_1812 : decode cL_law 1812 = .ok (.aload_n 0, 1) := dc_row (B := pc_L_law_w75) (a := 1800) (p := 12) pc_L_law_a75 (by decide +kernel)
theorem dL_law_1813 : decode cL_law 1813 = .ok (.iload 4, 2) := dc_row (B := pc_L_law_w75) (a := 1800) (p := 13) pc_L_law_a75 (by decide +kernel)
theorem dL_law_1815 : decode cL_law 1815 = .ok (.iconst 1, 1) := dc_row (B := pc_L_law_w75) (a := 1800) (p := 15) pc_L_law_a75 (by decide +kernel)
theorem dL_law_1816 : decode cL_law 1816 = .ok (.iadd, 1) := dc_row (B := pc_L_law_w75) (a := 1800) (p := 16) pc_L_law_a75 (by decide +kernel)
theorem dL_law_1817 : decode cL_law 1817 = .ok (.iaload, 1) := dc_row (B := pc_L_law_w75) (a := 1800) (p := 17) pc_L_law_a75 (by decide +kernel)
theorem dL_law_1818 : decode cL_law 1818 = .ok (.aload_n 3, 1) := dc_row (B := pc_L_law_w75) (a := 1800) (p := 18) pc_L_law_a75 (by decide +kernel)
theorem dL_law_1819 : decode cL_law 1819 = .ok (.invokestatic 234, 3) := dc_row (B := pc_L_law_w75) (a := 1800) (p := 19) pc_L_law_a75 (by decide +kernel)
theorem dL_law_1822 : decode cL_law 1822 = .ok (.istore 5, 2) := dc_row (B := pc_L_law_w75) (a := 1800) (p := 22) pc_L_law_a75 (by decide +kernel)
theorem dL_law_1824 : decode cL_law 1824 = .ok (.aload_n 2, 1) := dc_row (B := pc_L_law_w76) (a := 1824) (p := 0) pc_L_law_a76 (by decide +kernel)
theorem dL_law_1825 : decode cL_law 1825 = .ok (.aload_n 0, 1) := dc_row (B := pc_L_law_w76) (a := 1824) (p := 1) pc_L_law_a76 (by decide +kernel)
theorem dL_law_1826 : decode cL_law 1826 = .ok (.iload 4, 2) := dc_row (B := pc_L_law_w76) (a := 1824) (p := 2) pc_L_law_a76 (by decide +kernel)
theorem dL_law_1828 : decode cL_law 1828 = .ok (.iconst 1, 1) := dc_row (B := pc_L_law_w76) (a := 1824) (p := 4) pc_L_law_a76 (by decide +kernel)
theorem dL_law_1829 : decode cL_law 1829 = .ok (.iadd, 1) := dc_row (B := pc_L_law_w76) (a := 1824) (p := 5) pc_L_law_a76 (by decide +kernel)
theorem dL_law_1830 : decode cL_law 1830 = .ok (.iaload, 1) := dc_row (B := pc_L_law_w76) (a := 1824) (p := 6) pc_L_law_a76 (by decide +kernel)
theorem dL_law_1831 : decode cL_law 1831 = .ok (.invokevirtual 236, 3) := dc_row (B := pc_L_law_w76) (a := 1824) (p := 7) pc_L_law_a76 (by decide +kernel)
theorem dL_law_1834 : decode cL_law 1834 = .ok (.istore 6, 2) := dc_row (B := pc_L_law_w76) (a := 1824) (p := 10) pc_L_law_a76 (by decide +kernel)
theorem dL_law_1836 : decode cL_law 1836 = .ok (.aload_n 2, 1) := dc_row (B := pc_L_law_w76) (a := 1824) (p := 12) pc_L_law_a76 (by decide +kernel)
theorem dL_law_1837 : decode cL_law 1837 = .ok (.invokevirtual 162, 3) := dc_row (B := pc_L_law_w76) (a := 1824) (p := 13) pc_L_law_a76 (by decide +kernel)
theorem dL_law_1840 : decode cL_law 1840 = .ok (.iload 5, 2) := dc_row (B := pc_L_law_w76) (a := 1824) (p := 16) pc_L_law_a76 (by decide +kernel)
theorem dL_law_1842 : decode cL_law 1842 = .ok (.if_icmp .eq 5, 3) := dc_row (B := pc_L_law_w76) (a := 1824) (p := 18) pc_L_law_a76 (by decide +kernel)
theorem dL_law_1847 : decode cL_law 1847 = .ok (.iload 5, 2) := dc_row (B := pc_L_law_w76) (a := 1824) (p := 23) pc_L_law_a76 (by decide +kernel)
theorem dL_law_1849 : decode cL_law 1849 = .ok (.ifCond .ne 16, 3) := dc_row (B := pc_L_law_w77) (a := 1848) (p := 1) pc_L_law_a77 (by decide +kernel)
theorem dL_law_1852 : decode cL_law 1852 = .ok (.aload_n 3, 1) := dc_row (B := pc_L_law_w77) (a := 1848) (p := 4) pc_L_law_a77 (by decide +kernel)
theorem dL_law_1853 : decode cL_law 1853 = .ok (.getfield 13, 3) := dc_row (B := pc_L_law_w77) (a := 1848) (p := 5) pc_L_law_a77 (by decide +kernel)
theorem dL_law_1856 : decode cL_law 1856 = .ok (.iload 6, 2) := dc_row (B := pc_L_law_w77) (a := 1848) (p := 8) pc_L_law_a77 (by decide +kernel)
theorem dL_law_1858 : decode cL_law 1858 = .ok (.i2l, 1) := dc_row (B := pc_L_law_w77) (a := 1848) (p := 10) pc_L_law_a77 (by decide +kernel)
theorem dL_law_1859 : decode cL_law 1859 = .ok (.lcmp, 1) := dc_row (B := pc_L_law_w77) (a := 1848) (p := 11) pc_L_law_a77 (by decide +kernel)
theorem dL_law_1860 : decode cL_law 1860 = .ok (.ifCond .eq 5, 3) := dc_row (B := pc_L_law_w77) (a := 1848) (p := 12) pc_L_law_a77 (by decide +kernel)
theorem dL_law_1865 : decode cL_law 1865 = .ok (.goto 1117, 3) := dc_row (B := pc_L_law_w77) (a := 1848) (p := 17) pc_L_law_a77 (by decide +kernel)
theorem dL_law_1868 : decode cL_law 1868 = .ok (.aload_n 1, 1) := dc_row (B := pc_L_law_w77) (a := 1848) (p := 20) pc_L_law_a77 (by decide +kernel)
theorem dL_law_1869 : decode cL_law 1869 = .ok (.aload_n 0, 1) := dc_row (B := pc_L_law_w77) (a := 1848) (p := 21) pc_L_law_a77 (by decide +kernel)
theorem dL_law_1870 : decode cL_law 1870 = .ok (.iload 4, 2) := dc_row (B := pc_L_law_w77) (a := 1848) (p := 22) pc_L_law_a77 (by decide +kernel)
theorem dL_law_1872 : decode cL_law 1872 = .ok (.iconst 1, 1) := dc_row (B := pc_L_law_w78) (a := 1872) (p := 0) pc_L_law_a78 (by decide +kernel)
theorem dL_law_1873 : decode cL_law 1873 = .ok (.iadd, 1) := dc_row (B := pc_L_law_w78) (a := 1872) (p := 1) pc_L_law_a78 (by decide +kernel)
theorem dL_law_1874 : decode cL_law 1874 = .ok (.iaload, 1) := dc_row (B := pc_L_law_w78) (a := 1872) (p := 2) pc_L_law_a78 (by decide +kernel)
theorem dL_law_1875 : decode cL_law 1875 = .ok (.aload_n 0, 1) := dc_row (B := pc_L_law_w78) (a := 1872) (p := 3) pc_L_law_a78 (by decide +kernel)
theorem dL_law_1876 : decode cL_law 1876 = .ok (.iload 4, 2) := dc_row (B := pc_L_law_w78) (a := 1872) (p := 4) pc_L_law_a78 (by decide +kernel)
theorem dL_law_1878 : decode cL_law 1878 = .ok (.iconst 2, 1) := dc_row (B := pc_L_law_w78) (a := 1872) (p := 6) pc_L_law_a78 (by decide +kernel)
theorem dL_law_1879 : decode cL_law 1879 = .ok (.iadd, 1) := dc_row (B := pc_L_law_w78) (a := 1872) (p := 7) pc_L_law_a78 (by decide +kernel)
theorem dL_law_1880 : decode cL_law 1880 = .ok (.iaload, 1) := dc_row (B := pc_L_law_w78) (a := 1872) (p := 8) pc_L_law_a78 (by decide +kernel)
theorem dL_law_1881 : decode cL_law 1881 = .ok (.aload_n 3, 1) := dc_row (B := pc_L_law_w78) (a := 1872) (p := 9) pc_L_law_a78 (by decide +kernel)
theorem dL_law_1882 : decode cL_law 1882 = .ok (.invokestatic 237, 3) := dc_row (B := pc_L_law_w78) (a := 1872) (p := 10) pc_L_law_a78 (by decide +kernel)
theorem dL_law_1885 : decode cL_law 1885 = .ok (.istore 5, 2) := dc_row (B := pc_L_law_w78) (a := 1872) (p := 13) pc_L_law_a78 (by decide +kernel)
theorem dL_law_1887 : decode cL_law 1887 = .ok (.aload_n 2, 1) := dc_row (B := pc_L_law_w78) (a := 1872) (p := 15) pc_L_law_a78 (by decide +kernel)
theorem dL_law_1888 : decode cL_law 1888 = .ok (.aload_n 0, 1) := dc_row (B := pc_L_law_w78) (a := 1872) (p := 16) pc_L_law_a78 (by decide +kernel)
theorem dL_law_1889 : decode cL_law 1889 = .ok (.iload 4, 2) := dc_row (B := pc_L_law_w78) (a := 1872) (p := 17) pc_L_law_a78 (by decide +kernel)
theorem dL_law_1891 : decode cL_law 1891 = .ok (.iconst 1, 1) := dc_row (B := pc_L_law_w78) (a := 1872) (p := 19) pc_L_law_a78 (by decide +kernel)
theorem dL_law_1892 : decode cL_law 1892 = .ok (.iadd, 1) := dc_row (B := pc_L_law_w78) (a := 1872) (p := 20) pc_L_law_a78 (by decide +kernel)
theorem dL_law_1893 : decode cL_law 1893 = .ok (.iaload, 1) := dc_row (B := pc_L_law_w78) (a := 1872) (p := 21) pc_L_law_a78 (by decide +kernel)
theorem dL_law_1894 : decode cL_law 1894 = .ok (.aload_n 0, 1) := dc_row (B := pc_L_law_w78) (a := 1872) (p := 22) pc_L_law_a78 (by decide +kernel)
theorem dL_law_1895 : decode cL_law 1895 = .ok (.iload 4, 2) := dc_row (B := pc_L_law_w78) (a := 1872) (p := 23) pc_L_law_a78 (by decide +kernel)
theorem dL_law_1897 : decode cL_law 1897 = .ok (.iconst 2, 1) := dc_row (B := pc_L_law_w79) (a := 1896) (p := 1) pc_L_law_a79 (by decide +kernel)
theorem dL_law_1898 : decode cL_law 1898 = .ok (.iadd, 1) := dc_row (B := pc_L_law_w79) (a := 1896) (p := 2) pc_L_law_a79 (by decide +kernel)
theorem dL_law_1899 : decode cL_law 1899 = .ok (.iaload, 1) := dc_row (B := pc_L_law_w79) (a := 1896) (p := 3) pc_L_law_a79 (by decide +kernel)
theorem dL_law_1900 : decode cL_law 1900 = .ok (.invokevirtual 239, 3) := dc_row (B := pc_L_law_w79) (a := 1896) (p := 4) pc_L_law_a79 (by decide +kernel)
theorem dL_law_1903 : decode cL_law 1903 = .ok (.istore 6, 2) := dc_row (B := pc_L_law_w79) (a := 1896) (p := 7) pc_L_law_a79 (by decide +kernel)
theorem dL_law_1905 : decode cL_law 1905 = .ok (.aload_n 2, 1) := dc_row (B := pc_L_law_w79) (a := 1896) (p := 9) pc_L_law_a79 (by decide +kernel)
theorem dL_law_1906 : decode cL_law 1906 = .ok (.invokevirtual 162, 3) := dc_row (B := pc_L_law_w79) (a := 1896) (p := 10) pc_L_law_a79 (by decide +kernel)
theorem dL_law_1909 : decode cL_law 1909 = .ok (.iload 5, 2) := dc_row (B := pc_L_law_w79) (a := 1896) (p := 13) pc_L_law_a79 (by decide +kernel)
theorem dL_law_1911 : decode cL_law 1911 = .ok (.if_icmp .eq 5, 3) := dc_row (B := pc_L_law_w79) (a := 1896) (p := 15) pc_L_law_a79 (by decide +kernel)
theorem dL_law_1916 : decode cL_law 1916 = .ok (.iload 5, 2) := dc_row (B := pc_L_law_w79) (a := 1896) (p := 20) pc_L_law_a79 (by decide +kernel)
theorem dL_law_1918 : decode cL_law 1918 = .ok (.ifCond .ne 16, 3) := dc_row (B := pc_L_law_w79) (a := 1896) (p := 22) pc_L_law_a79 (by decide +kernel)
theorem dL_law_1921 : decode cL_law 1921 = .ok (.aload_n 3, 1) := dc_row (B := pc_L_law_w80) (a := 1920) (p := 1) pc_L_law_a80 (by decide +kernel)
theorem dL_law_1922 : decode cL_law 1922 = .ok (.getfield 13, 3) := dc_row (B := pc_L_law_w80) (a := 1920) (p := 2) pc_L_law_a80 (by decide +kernel)
theorem dL_law_1925 : decode cL_law 1925 = .ok (.iload 6, 2) := dc_row (B := pc_L_law_w80) (a := 1920) (p := 5) pc_L_law_a80 (by decide +kernel)
theorem dL_law_1927 : decode cL_law 1927 = .ok (.i2l, 1) := dc_row (B := pc_L_law_w80) (a := 1920) (p := 7) pc_L_law_a80 (by decide +kernel)
theorem dL_law_1928 : decode cL_law 1928 = .ok (.lcmp, 1) := dc_row (B := pc_L_law_w80) (a := 1920) (p := 8) pc_L_law_a80 (by decide +kernel)
theorem dL_law_1929 : decode cL_law 1929 = .ok (.ifCond .eq 5, 3) := dc_row (B := pc_L_law_w80) (a := 1920) (p := 9) pc_L_law_a80 (by decide +kernel)
theorem dL_law_1934 : decode cL_law 1934 = .ok (.goto 1048, 3) := dc_row (B := pc_L_law_w80) (a := 1920) (p := 14) pc_L_law_a80 (by decide +kernel)
theorem dL_law_1937 : decode cL_law 1937 = .ok (.aload_n 1, 1) := dc_row (B := pc_L_law_w80) (a := 1920) (p := 17) pc_L_law_a80 (by decide +kernel)
theorem dL_law_1938 : decode cL_law 1938 = .ok (.aload_n 0, 1) := dc_row (B := pc_L_law_w80) (a := 1920) (p := 18) pc_L_law_a80 (by decide +kernel)
theorem dL_law_1939 : decode cL_law 1939 = .ok (.iload 4, 2) := dc_row (B := pc_L_law_w80) (a := 1920) (p := 19) pc_L_law_a80 (by decide +kernel)
theorem dL_law_1941 : decode cL_law 1941 = .ok (.iconst 1, 1) := dc_row (B := pc_L_law_w80) (a := 1920) (p := 21) pc_L_law_a80 (by decide +kernel)
theorem dL_law_1942 : decode cL_law 1942 = .ok (.iadd, 1) := dc_row (B := pc_L_law_w80) (a := 1920) (p := 22) pc_L_law_a80 (by decide +kernel)
theorem dL_law_1943 : decode cL_law 1943 = .ok (.iaload, 1) := dc_row (B := pc_L_law_w80) (a := 1920) (p := 23) pc_L_law_a80 (by decide +kernel)
theorem dL_law_1944 : decode cL_law 1944 = .ok (.aload_n 3, 1) := dc_row (B := pc_L_law_w81) (a := 1944) (p := 0) pc_L_law_a81 (by decide +kernel)
theorem dL_law_1945 : decode cL_law 1945 = .ok (.invokestatic 240, 3) := dc_row (B := pc_L_law_w81) (a := 1944) (p := 1) pc_L_law_a81 (by decide +kernel)
theorem dL_law_1948 : decode cL_law 1948 = .ok (.istore 5, 2) := dc_row (B := pc_L_law_w81) (a := 1944) (p := 4) pc_L_law_a81 (by decide +kernel)
theorem dL_law_1950 : decode cL_law 1950 = .ok (.aload_n 2, 1) := dc_row (B := pc_L_law_w81) (a := 1944) (p := 6) pc_L_law_a81 (by decide +kernel)
theorem dL_law_1951 : decode cL_law 1951 = .ok (.aload_n 0, 1) := dc_row (B := pc_L_law_w81) (a := 1944) (p := 7) pc_L_law_a81 (by decide +kernel)
theorem dL_law_1952 : decode cL_law 1952 = .ok (.iload 4, 2) := dc_row (B := pc_L_law_w81) (a := 1944) (p := 8) pc_L_law_a81 (by decide +kernel)
theorem dL_law_1954 : decode cL_law 1954 = .ok (.iconst 1, 1) := dc_row (B := pc_L_law_w81) (a := 1944) (p := 10) pc_L_law_a81 (by decide +kernel)
theorem dL_law_1955 : decode cL_law 1955 = .ok (.iadd, 1) := dc_row (B := pc_L_law_w81) (a := 1944) (p := 11) pc_L_law_a81 (by decide +kernel)
theorem dL_law_1956 : decode cL_law 1956 = .ok (.iaload, 1) := dc_row (B := pc_L_law_w81) (a := 1944) (p := 12) pc_L_law_a81 (by decide +kernel)
theorem dL_law_1957 : decode cL_law 1957 = .ok (.invokevirtual 242, 3) := dc_row (B := pc_L_law_w81) (a := 1944) (p := 13) pc_L_law_a81 (by decide +kernel)
theorem dL_law_1960 : decode cL_law 1960 = .ok (.istore 6, 2) := dc_row (B := pc_L_law_w81) (a := 1944) (p := 16) pc_L_law_a81 (by decide +kernel)
theorem dL_law_1962 : decode cL_law 1962 = .ok (.aload_n 2, 1) := dc_row (B := pc_L_law_w81) (a := 1944) (p := 18) pc_L_law_a81 (by decide +kernel)
theorem dL_law_1963 : decode cL_law 1963 = .ok (.invokevirtual 162, 3) := dc_row (B := pc_L_law_w81) (a := 1944) (p := 19) pc_L_law_a81 (by decide +kernel)
theorem dL_law_1966 : decode cL_law 1966 = .ok (.iload 5, 2) := dc_row (B := pc_L_law_w81) (a := 1944) (p := 22) pc_L_law_a81 (by decide +kernel)
theorem dL_law_1968 : decode cL_law 1968 = .ok (.if_icmp .eq 5, 3) := dc_row (B := pc_L_law_w82) (a := 1968) (p := 0) pc_L_law_a82 (by decide +kernel)
theorem dL_law_1973 : decode cL_law 1973 = .ok (.iload 5, 2) := dc_row (B := pc_L_law_w82) (a := 1968) (p := 5) pc_L_law_a82 (by decide +kernel)
theorem dL_law_1975 : decode cL_law 1975 = .ok (.ifCond .ne 23, 3) := dc_row (B := pc_L_law_w82) (a := 1968) (p := 7) pc_L_law_a82 (by decide +kernel)
theorem dL_law_1978 : decode cL_law 1978 = .ok (.aload_n 3, 1) := dc_row (B := pc_L_law_w82) (a := 1968) (p := 10) pc_L_law_a82 (by decide +kernel)
theorem dL_law_1979 : decode cL_law 1979 = .ok (.getfield 13, 3) := dc_row (B := pc_L_law_w82) (a := 1968) (p := 11) pc_L_law_a82 (by decide +kernel)
theorem dL_law_1982 : decode cL_law 1982 = .ok (.iload 6, 2) := dc_row (B := pc_L_law_w82) (a := 1968) (p := 14) pc_L_law_a82 (by decide +kernel)
theorem dL_law_1984 : decode cL_law 1984 = .ok (.ifCond .eq 7, 3) := dc_row (B := pc_L_law_w82) (a := 1968) (p := 16) pc_L_law_a82 (by decide +kernel)
theorem dL_law_1987 : decode cL_law 1987 = .ok (.lconst 1, 1) := dc_row (B := pc_L_law_w82) (a := 1968) (p := 19) pc_L_law_a82 (by decide +kernel)
theorem dL_law_1988 : decode cL_law 1988 = .ok (.goto 4, 3) := dc_row (B := pc_L_law_w82) (a := 1968) (p := 20) pc_L_law_a82 (by decide +kernel)
theorem dL_law_1991 : decode cL_law 1991 = .ok (.lconst 0, 1) := dc_row (B := pc_L_law_w82) (a := 1968) (p := 23) pc_L_law_a82 (by decide +kernel)
theorem dL_law_1992 : decode cL_law 1992 = .ok (.lcmp, 1) := dc_row (B := pc_L_law_w83) (a := 1992) (p := 0) pc_L_law_a83 (by decide +kernel)
theorem dL_law_1993 : decode cL_law 1993 = .ok (.ifCond .eq 5, 3) := dc_row (B := pc_L_law_w83) (a := 1992) (p := 1) pc_L_law_a83 (by decide +kernel)
theorem dL_law_1998 : decode cL_law 1998 = .ok (.goto 984, 3) := dc_row (B := pc_L_law_w83) (a := 1992) (p := 6) pc_L_law_a83 (by decide +kernel)
theorem dL_law_2001 : decode cL_law 2001 = .ok (.aload_n 1, 1) := dc_row (B := pc_L_law_w83) (a := 1992) (p := 9) pc_L_law_a83 (by decide +kernel)
theorem dL_law_2002 : decode cL_law 2002 = .ok (.aload_n 0, 1) := dc_row (B := pc_L_law_w83) (a := 1992) (p := 10) pc_L_law_a83 (by decide +kernel)
theorem dL_law_2003 : decode cL_law 2003 = .ok (.iload 4, 2) := dc_row (B := pc_L_law_w83) (a := 1992) (p := 11) pc_L_law_a83 (by decide +kernel)
theorem dL_law_2005 : decode cL_law 2005 = .ok (.iconst 1, 1) := dc_row (B := pc_L_law_w83) (a := 1992) (p := 13) pc_L_law_a83 (by decide +kernel)
theorem dL_law_2006 : decode cL_law 2006 = .ok (.iadd, 1) := dc_row (B := pc_L_law_w83) (a := 1992) (p := 14) pc_L_law_a83 (by decide +kernel)
theorem dL_law_2007 : decode cL_law 2007 = .ok (.iaload, 1) := dc_row (B := pc_L_law_w83) (a := 1992) (p := 15) pc_L_law_a83 (by decide +kernel)
theorem dL_law_2008 : decode cL_law 2008 = .ok (.aload_n 3, 1) := dc_row (B := pc_L_law_w83) (a := 1992) (p := 16) pc_L_law_a83 (by decide +kernel)
theorem dL_law_2009 : decode cL_law 2009 = .ok (.invokestatic 243, 3) := dc_row (B := pc_L_law_w83) (a := 1992) (p := 17) pc_L_law_a83 (by decide +kernel)
theorem dL_law_2012 : decode cL_law 2012 = .ok (.istore 5, 2) := dc_row (B := pc_L_law_w83) (a := 1992) (p := 20) pc_L_law_a83 (by decide +kernel)
theorem dL_law_2014 : decode cL_law 2014 = .ok (.aload_n 2, 1) := dc_row (B := pc_L_law_w83) (a := 1992) (p := 22) pc_L_law_a83 (by decide +kernel)
theorem dL_law_2015 : decode cL_law 2015 = .ok (.aload_n 0, 1) := dc_row (B := pc_L_law_w83) (a := 1992) (p := 23) pc_L_law_a83 (by decide +kernel)
theorem dL_law_2016 : decode cL_law 2016 = .ok (.iload 4, 2) := dc_row (B := pc_L_law_w84) (a := 2016) (p := 0) pc_L_law_a84 (by decide +kernel)
theorem dL_law_2018 : decode cL_law 2018 = .ok (.iconst 1, 1) := dc_row (B := pc_L_law_w84) (a := 2016) (p := 2) pc_L_law_a84 (by decide +kernel)
theorem dL_law_2019 : decode cL_law 2019 = .ok (.iadd, 1) := dc_row (B := pc_L_law_w84) (a := 2016) (p := 3) pc_L_law_a84 (by decide +kernel)
theorem dL_law_2020 : decode cL_law 2020 = .ok (.iaload, 1) := dc_row (B := pc_L_law_w84) (a := 2016) (p := 4) pc_L_law_a84 (by decide +kernel)
theorem dL_law_2021 : decode cL_law 2021 = .ok (.invokevirtual 245, 3) := dc_row (B := pc_L_law_w84) (a := 2016) (p := 5) pc_L_law_a84 (by decide +kernel)
theorem dL_law_2024 : decode cL_law 2024 = .ok (.istore 6, 2) := dc_row (B := pc_L_law_w84) (a := 2016) (p := 8) pc_L_law_a84 (by decide +kernel)
theorem dL_law_2026 : decode cL_law 2026 = .ok (.aload_n 2, 1) := dc_row (B := pc_L_law_w84) (a := 2016) (p := 10) pc_L_law_a84 (by decide +kernel)
theorem dL_law_2027 : decode cL_law 2027 = .ok (.invokevirtual 162, 3) := dc_row (B := pc_L_law_w84) (a := 2016) (p := 11) pc_L_law_a84 (by decide +kernel)
theorem dL_law_2030 : decode cL_law 2030 = .ok (.iload 5, 2) := dc_row (B := pc_L_law_w84) (a := 2016) (p := 14) pc_L_law_a84 (by decide +kernel)
theorem dL_law_2032 : decode cL_law 2032 = .ok (.if_icmp .eq 5, 3) := dc_row (B := pc_L_law_w84) (a := 2016) (p := 16) pc_L_law_a84 (by decide +kernel)
theorem dL_law_2037 : decode cL_law 2037 = .ok (.iload 5, 2) := dc_row (B := pc_L_law_w84) (a := 2016) (p := 21) pc_L_law_a84 (by decide +kernel)
theorem dL_law_2039 : decode cL_law 2039 = .ok (.ifCond .ne 16, 3) := dc_row (B := pc_L_law_w84) (a := 2016) (p := 23) pc_L_law_a84 (by decide +kernel)
theorem dL_law_2042 : decode cL_law 2042 = .ok (.aload_n 3, 1) := dc_row (B := pc_L_law_w85) (a := 2040) (p := 2) pc_L_law_a85 (by decide +kernel)
theorem dL_law_2043 : decode cL_law 2043 = .ok (.getfield 13, 3) := dc_row (B := pc_L_law_w85) (a := 2040) (p := 3) pc_L_law_a85 (by decide +kernel)
theorem dL_law_2046 : decode cL_law 2046 = .ok (.iload 6, 2) := dc_row (B := pc_L_law_w85) (a := 2040) (p := 6) pc_L_law_a85 (by decide +kernel)
theorem dL_law_2048 : decode cL_law 2048 = .ok (.i2l, 1) := dc_row (B := pc_L_law_w85) (a := 2040) (p := 8) pc_L_law_a85 (by decide +kernel)
theorem dL_law_2049 : decode cL_law 2049 = .ok (.lcmp, 1) := dc_row (B := pc_L_law_w85) (a := 2040) (p := 9) pc_L_law_a85 (by decide +kernel)
theorem dL_law_2050 : decode cL_law 2050 = .ok (.ifCond .eq 5, 3) := dc_row (B := pc_L_law_w85) (a := 2040) (p := 10) pc_L_law_a85 (by decide +kernel)
theorem dL_law_2055 : decode cL_law 2055 = .ok (.goto 927, 3) := dc_row (B := pc_L_law_w85) (a := 2040) (p := 15) pc_L_law_a85 (by decide +kernel)
theorem dL_law_2058 : decode cL_law 2058 = .ok (.aload_n 1, 1) := dc_row (B := pc_L_law_w85) (a := 2040) (p := 18) pc_L_law_a85 (by decide +kernel)
theorem dL_law_2059 : decode cL_law 2059 = .ok (.invokevirtual 246, 3) := dc_row (B := pc_L_law_w85) (a := 2040) (p := 19) pc_L_law_a85 (by decide +kernel)
theorem dL_law_2062 : decode cL_law 2062 = .ok (.aload_n 2, 1) := dc_row (B := pc_L_law_w85) (a := 2040) (p := 22) pc_L_law_a85 (by decide +kernel)
theorem dL_law_2063 : decode cL_law 2063 = .ok (.invokevirtual 250, 3) := dc_row (B := pc_L_law_w85) (a := 2040) (p := 23) pc_L_law_a85 (by decide +kernel)
theorem dL_law_2066 : decode cL_law 2066 = .ok (.if_icmp .eq 916, 3) := dc_row (B := pc_L_law_w86) (a := 2064) (p := 2) pc_L_law_a86 (by decide +kernel)
theorem dL_law_2071 : decode cL_law 2071 = .ok (.aload_n 1, 1) := dc_row (B := pc_L_law_w86) (a := 2064) (p := 7) pc_L_law_a86 (by decide +kernel)
theorem dL_law_2072 : decode cL_law 2072 = .ok (.aload_n 0, 1) := dc_row (B := pc_L_law_w86) (a := 2064) (p := 8) pc_L_law_a86 (by decide +kernel)
theorem dL_law_2073 : decode cL_law 2073 = .ok (.iload 4, 2) := dc_row (B := pc_L_law_w86) (a := 2064) (p := 9) pc_L_law_a86 (by decide +kernel)
theorem dL_law_2075 : decode cL_law 2075 = .ok (.iconst 1, 1) := dc_row (B := pc_L_law_w86) (a := 2064) (p := 11) pc_L_law_a86 (by decide +kernel)
theorem dL_law_2076 : decode cL_law 2076 = .ok (.iadd, 1) := dc_row (B := pc_L_law_w86) (a := 2064) (p := 12) pc_L_law_a86 (by decide +kernel)
theorem dL_law_2077 : decode cL_law 2077 = .ok (.iaload, 1) := dc_row (B := pc_L_law_w86) (a := 2064) (p := 13) pc_L_law_a86 (by decide +kernel)
theorem dL_law_2078 : decode cL_law 2078 = .ok (.aload_n 0, 1) := dc_row (B := pc_L_law_w86) (a := 2064) (p := 14) pc_L_law_a86 (by decide +kernel)
theorem dL_law_2079 : decode cL_law 2079 = .ok (.iload 4, 2) := dc_row (B := pc_L_law_w86) (a := 2064) (p := 15) pc_L_law_a86 (by decide +kernel)
theorem dL_law_2081 : decode cL_law 2081 = .ok (.iconst 2, 1) := dc_row (B := pc_L_law_w86) (a := 2064) (p := 17) pc_L_law_a86 (by decide +kernel)
theorem dL_law_2082 : decode cL_law 2082 = .ok (.iadd, 1) := dc_row (B := pc_L_law_w86) (a := 2064) (p := 18) pc_L_law_a86 (by decide +kernel)
theorem dL_law_2083 : decode cL_law 2083 = .ok (.iaload, 1) := dc_row (B := pc_L_law_w86) (a := 2064) (p := 19) pc_L_law_a86 (by decide +kernel)
theorem dL_law_2084 : decode cL_law 2084 = .ok (.aload_n 3, 1) := dc_row (B := pc_L_law_w86) (a := 2064) (p := 20) pc_L_law_a86 (by decide +kernel)
theorem dL_law_2085 : decode cL_law 2085 = .ok (.invokestatic 251, 3) := dc_row (B := pc_L_law_w86) (a := 2064) (p := 21) pc_L_law_a86 (by decide +kernel)
theorem dL_law_2088 : decode cL_law 2088 = .ok (.istore 5, 2) := dc_row (B := pc_L_law_w87) (a := 2088) (p := 0) pc_L_law_a87 (by decide +kernel)
theorem dL_law_2090 : decode cL_law 2090 = .ok (.aload_n 2, 1) := dc_row (B := pc_L_law_w87) (a := 2088) (p := 2) pc_L_law_a87 (by decide +kernel)
theorem dL_law_2091 : decode cL_law 2091 = .ok (.aload_n 0, 1) := dc_row (B := pc_L_law_w87) (a := 2088) (p := 3) pc_L_law_a87 (by decide +kernel)
theorem dL_law_2092 : decode cL_law 2092 = .ok (.iload 4, 2) := dc_row (B := pc_L_law_w87) (a := 2088) (p := 4) pc_L_law_a87 (by decide +kernel)
theorem dL_law_2094 : decode cL_law 2094 = .ok (.iconst 1, 1) := dc_row (B := pc_L_law_w87) (a := 2088) (p := 6) pc_L_law_a87 (by decide +kernel)
theorem dL_law_2095 : decode cL_law 2095 = .ok (.iadd, 1) := dc_row (B := pc_L_law_w87) (a := 2088) (p := 7) pc_L_law_a87 (by decide +kernel)
theorem dL_law_2096 : decode cL_law 2096 = .ok (.iaload, 1) := dc_row (B := pc_L_law_w87) (a := 2088) (p := 8) pc_L_law_a87 (by decide +kernel)
theorem dL_law_2097 : decode cL_law 2097 = .ok (.aload_n 0, 1) := dc_row (B := pc_L_law_w87) (a := 2088) (p := 9) pc_L_law_a87 (by decide +kernel)
theorem dL_law_2098 : decode cL_law 2098 = .ok (.iload 4, 2) := dc_row (B := pc_L_law_w87) (a := 2088) (p := 10) pc_L_law_a87 (by decide +kernel)
theorem dL_law_2100 : decode cL_law 2100 = .ok (.iconst 2, 1) := dc_row (B := pc_L_law_w87) (a := 2088) (p := 12) pc_L_law_a87 (by decide +kernel)
theorem dL_law_2101 : decode cL_law 2101 = .ok (.iadd, 1) := dc_row (B := pc_L_law_w87) (a := 2088) (p := 13) pc_L_law_a87 (by decide +kernel)
theorem dL_law_2102 : decode cL_law 2102 = .ok (.iaload, 1) := dc_row (B := pc_L_law_w87) (a := 2088) (p := 14) pc_L_law_a87 (by decide +kernel)
theorem dL_law_2103 : decode cL_law 2103 = .ok (.invokevirtual 253, 3) := dc_row (B := pc_L_law_w87) (a := 2088) (p := 15) pc_L_law_a87 (by decide +kernel)
theorem dL_law_2106 : decode cL_law 2106 = .ok (.istore 6, 2) := dc_row (B := pc_L_law_w87) (a := 2088) (p := 18) pc_L_law_a87 (by decide +kernel)
theorem dL_law_2108 : decode cL_law 2108 = .ok (.aload_n 2, 1) := dc_row (B := pc_L_law_w87) (a := 2088) (p := 20) pc_L_law_a87 (by decide +kernel)
theorem dL_law_2109 : decode cL_law 2109 = .ok (.invokevirtual 162, 3) := dc_row (B := pc_L_law_w87) (a := 2088) (p := 21) pc_L_law_a87 (by decide +kernel)
theorem dL_law_2112 : decode cL_law 2112 = .ok (.iload 5, 2) := dc_row (B := pc_L_law_w88) (a := 2112) (p := 0) pc_L_law_a88 (by decide +kernel)
theorem dL_law_2114 : decode cL_law 2114 = .ok (.if_icmp .eq 5, 3) := dc_row (B := pc_L_law_w88) (a := 2112) (p := 2) pc_L_law_a88 (by decide +kernel)
theorem dL_law_2119 : decode cL_law 2119 = .ok (.iload 5, 2) := dc_row (B := pc_L_law_w88) (a := 2112) (p := 7) pc_L_law_a88 (by decide +kernel)
theorem dL_law_2121 : decode cL_law 2121 = .ok (.ifCond .ne 16, 3) := dc_row (B := pc_L_law_w88) (a := 2112) (p := 9) pc_L_law_a88 (by decide +kernel)
theorem dL_law_2124 : decode cL_law 2124 = .ok (.aload_n 3, 1) := dc_row (B := pc_L_law_w88) (a := 2112) (p := 12) pc_L_law_a88 (by decide +kernel)
theorem dL_law_2125 : decode cL_law 2125 = .ok (.getfield 13, 3) := dc_row (B := pc_L_law_w88) (a := 2112) (p := 13) pc_L_law_a88 (by decide +kernel)
theorem dL_law_2128 : decode cL_law 2128 = .ok (.iload 6, 2) := dc_row (B := pc_L_law_w88) (a := 2112) (p := 16) pc_L_law_a88 (by decide +kernel)
theorem dL_law_2130 : decode cL_law 2130 = .ok (.i2l, 1) := dc_row (B := pc_L_law_w88) (a := 2112) (p := 18) pc_L_law_a88 (by decide +kernel)
theorem dL_law_2131 : decode cL_law 2131 = .ok (.lcmp, 1) := dc_row (B := pc_L_law_w88) (a := 2112) (p := 19) pc_L_law_a88 (by decide +kernel)
theorem dL_law_2132 : decode cL_law 2132 = .ok (.ifCond .eq 5, 3) := dc_row (B := pc_L_law_w88) (a := 2112) (p := 20) pc_L_law_a88 (by decide +kernel)
theorem dL_law_2137 : decode cL_law 2137 = .ok (.goto 845, 3) := dc_row (B := pc_L_law_w89) (a := 2136) (p := 1) pc_L_law_a89 (by decide +kernel)
theorem dL_law_2140 : decode cL_law 2140 = .ok (.aload_n 1, 1) := dc_row (B := pc_L_law_w89) (a := 2136) (p := 4) pc_L_law_a89 (by decide +kernel)
theorem dL_law_2141 : decode cL_law 2141 = .ok (.aload_n 0, 1) := dc_row (B := pc_L_law_w89) (a := 2136) (p := 5) pc_L_law_a89 (by decide +kernel)
theorem dL_law_2142 : decode cL_law 2142 = .ok (.iload 4, 2) := dc_row (B := pc_L_law_w89) (a := 2136) (p := 6) pc_L_law_a89 (by decide +kernel)
theorem dL_law_2144 : decode cL_law 2144 = .ok (.iconst 1, 1) := dc_row (B := pc_L_law_w89) (a := 2136) (p := 8) pc_L_law_a89 (by decide +kernel)
theorem dL_law_2145 : decode cL_law 2145 = .ok (.iadd, 1) := dc_row (B := pc_L_law_w89) (a := 2136) (p := 9) pc_L_law_a89 (by decide +kernel)
theorem dL_law_2146 : decode cL_law 2146 = .ok (.iaload, 1) := dc_row (B := pc_L_law_w89) (a := 2136) (p := 10) pc_L_law_a89 (by decide +kernel)
theorem dL_law_2147 : decode cL_law 2147 = .ok (.aload_n 0, 1) := dc_row (B := pc_L_law_w89) (a := 2136) (p := 11) pc_L_law_a89 (by decide +kernel)
theorem dL_law_2148 : decode cL_law 2148 = .ok (.iload 4, 2) := dc_row (B := pc_L_law_w89) (a := 2136) (p := 12) pc_L_law_a89 (by decide +kernel)
theorem dL_law_2150 : decode cL_law 2150 = .ok (.iconst 2, 1) := dc_row (B := pc_L_law_w89) (a := 2136) (p := 14) pc_L_law_a89 (by decide +kernel)
theorem dL_law_2151 : decode cL_law 2151 = .ok (.iadd, 1) := dc_row (B := pc_L_law_w89) (a := 2136) (p := 15) pc_L_law_a89 (by decide +kernel)
theorem dL_law_2152 : decode cL_law 2152 = .ok (.iaload, 1) := dc_row (B := pc_L_law_w89) (a := 2136) (p := 16) pc_L_law_a89 (by decide +kernel)
theorem dL_law_2153 : decode cL_law 2153 = .ok (.aload_n 3, 1) := dc_row (B := pc_L_law_w89) (a := 2136) (p := 17) pc_L_law_a89 (by decide +kernel)
theorem dL_law_2154 : decode cL_law 2154 = .ok (.invokestatic 254, 3) := dc_row (B := pc_L_law_w89) (a := 2136) (p := 18) pc_L_law_a89 (by decide +kernel)
theorem dL_law_2157 : decode cL_law 2157 = .ok (.istore 5, 2) := dc_row (B := pc_L_law_w89) (a := 2136) (p := 21) pc_L_law_a89 (by decide +kernel)
theorem dL_law_2159 : decode cL_law 2159 = .ok (.aload_n 2, 1) := dc_row (B := pc_L_law_w89) (a := 2136) (p := 23) pc_L_law_a89 (by decide +kernel)
theorem dL_law_2160 : decode cL_law 2160 = .ok (.aload_n 0, 1) := dc_row (B := pc_L_law_w90) (a := 2160) (p := 0) pc_L_law_a90 (by decide +kernel)
theorem dL_law_2161 : decode cL_law 2161 = .ok (.iload 4, 2) := dc_row (B := pc_L_law_w90) (a := 2160) (p := 1) pc_L_law_a90 (by decide +kernel)
theorem dL_law_2163 : decode cL_law 2163 = .ok (.iconst 1, 1) := dc_row (B := pc_L_law_w90) (a := 2160) (p := 3) pc_L_law_a90 (by decide +kernel)
theorem dL_law_2164 : decode cL_law 2164 = .ok (.iadd, 1) := dc_row (B := pc_L_law_w90) (a := 2160) (p := 4) pc_L_law_a90 (by decide +kernel)
theorem dL_law_2165 : decode cL_law 2165 = .ok (.iaload, 1) := dc_row (B := pc_L_law_w90) (a := 2160) (p := 5) pc_L_law_a90 (by decide +kernel)
theorem dL_law_2166 : decode cL_law 2166 = .ok (.aload_n 0, 1) := dc_row (B := pc_L_law_w90) (a := 2160) (p := 6) pc_L_law_a90 (by decide +kernel)
theorem dL_law_2167 : decode cL_law 2167 = .ok (.iload 4, 2) := dc_row (B := pc_L_law_w90) (a := 2160) (p := 7) pc_L_law_a90 (by decide +kernel)
theorem dL_law_2169 : decode cL_law 2169 = .ok (.iconst 2, 1) := dc_row (B := pc_L_law_w90) (a := 2160) (p := 9) pc_L_law_a90 (by decide +kernel)
theorem dL_law_2170 : decode cL_law 2170 = .ok (.iadd, 1) := dc_row (B := pc_L_law_w90) (a := 2160) (p := 10) pc_L_law_a90 (by decide +kernel)
theorem dL_law_2171 : decode cL_law 2171 = .ok (.iaload, 1) := dc_row (B := pc_L_law_w90) (a := 2160) (p := 11) pc_L_law_a90 (by decide +kernel)
theorem dL_law_2172 : decode cL_law 2172 = .ok (.invokevirtual 256, 3) := dc_row (B := pc_L_law_w90) (a := 2160) (p := 12) pc_L_law_a90 (by decide +kernel)
theorem dL_law_2175 : decode cL_law 2175 = .ok (.istore 6, 2) := dc_row (B := pc_L_law_w90) (a := 2160) (p := 15) pc_L_law_a90 (by decide +kernel)
theorem dL_law_2177 : decode cL_law 2177 = .ok (.aload_n 2, 1) := dc_row (B := pc_L_law_w90) (a := 2160) (p := 17) pc_L_law_a90 (by decide +kernel)
theorem dL_law_2178 : decode cL_law 2178 = .ok (.invokevirtual 162, 3) := dc_row (B := pc_L_law_w90) (a := 2160) (p := 18) pc_L_law_a90 (by decide +kernel)
theorem dL_law_2181 : decode cL_law 2181 = .ok (.iload 5, 2) := dc_row (B := pc_L_law_w90) (a := 2160) (p := 21) pc_L_law_a90 (by decide +kernel)
theorem dL_law_2183 : decode cL_law 2183 = .ok (.if_icmp .eq 5, 3) := dc_row (B := pc_L_law_w90) (a := 2160) (p := 23) pc_L_law_a90 (by decide +kernel)
theorem dL_law_2188 : decode cL_law 2188 = .ok (.iload 5, 2) := dc_row (B := pc_L_law_w91) (a := 2184) (p := 4) pc_L_law_a91 (by decide +kernel)
theorem dL_law_2190 : decode cL_law 2190 = .ok (.ifCond .ne 16, 3) := dc_row (B := pc_L_law_w91) (a := 2184) (p := 6) pc_L_law_a91 (by decide +kernel)
theorem dL_law_2193 : decode cL_law 2193 = .ok (.aload_n 3, 1) := dc_row (B := pc_L_law_w91) (a := 2184) (p := 9) pc_L_law_a91 (by decide +kernel)
theorem dL_law_2194 : decode cL_law 2194 = .ok (.getfield 13, 3) := dc_row (B := pc_L_law_w91) (a := 2184) (p := 10) pc_L_law_a91 (by decide +kernel)
theorem dL_law_2197 : decode cL_law 2197 = .ok (.iload 6, 2) := dc_row (B := pc_L_law_w91) (a := 2184) (p := 13) pc_L_law_a91 (by decide +kernel)
theorem dL_law_2199 : decode cL_law 2199 = .ok (.i2l, 1) := dc_row (B := pc_L_law_w91) (a := 2184) (p := 15) pc_L_law_a91 (by decide +kernel)
theorem dL_law_2200 : decode cL_law 2200 = .ok (.lcmp, 1) := dc_row (B := pc_L_law_w91) (a := 2184) (p := 16) pc_L_law_a91 (by decide +kernel)
theorem dL_law_2201 : decode cL_law 2201 = .ok (.ifCond .eq 5, 3) := dc_row (B := pc_L_law_w91) (a := 2184) (p := 17) pc_L_law_a91 (by decide +kernel)
theorem dL_law_2206 : decode cL_law 2206 = .ok (.goto 776, 3) := dc_row (B := pc_L_law_w91) (a := 2184) (p := 22) pc_L_law_a91 (by decide +kernel)
theorem dL_law_2209 : decode cL_law 2209 = .ok (.aload_n 1, 1) := dc_row (B := pc_L_law_w92) (a := 2208) (p := 1) pc_L_law_a92 (by decide +kernel)
theorem dL_law_2210 : decode cL_law 2210 = .ok (.aload_n 0, 1) := dc_row (B := pc_L_law_w92) (a := 2208) (p := 2) pc_L_law_a92 (by decide +kernel)
theorem dL_law_2211 : decode cL_law 2211 = .ok (.iload 4, 2) := dc_row (B := pc_L_law_w92) (a := 2208) (p := 3) pc_L_law_a92 (by decide +kernel)
theorem dL_law_2213 : decode cL_law 2213 = .ok (.iconst 1, 1) := dc_row (B := pc_L_law_w92) (a := 2208) (p := 5) pc_L_law_a92 (by decide +kernel)
theorem dL_law_2214 : decode cL_law 2214 = .ok (.iadd, 1) := dc_row (B := pc_L_law_w92) (a := 2208) (p := 6) pc_L_law_a92 (by decide +kernel)
theorem dL_law_2215 : decode cL_law 2215 = .ok (.iaload, 1) := dc_row (B := pc_L_law_w92) (a := 2208) (p := 7) pc_L_law_a92 (by decide +kernel)
theorem dL_law_2216 : decode cL_law 2216 = .ok (.aload_n 0, 1) := dc_row (B := pc_L_law_w92) (a := 2208) (p := 8) pc_L_law_a92 (by decide +kernel)
theorem dL_law_2217 : decode cL_law 2217 = .ok (.iload 4, 2) := dc_row (B := pc_L_law_w92) (a := 2208) (p := 9) pc_L_law_a92 (by decide +kernel)
theorem dL_law_2219 : decode cL_law 2219 = .ok (.iconst 2, 1) := dc_row (B := pc_L_law_w92) (a := 2208) (p := 11) pc_L_law_a92 (by decide +kernel)
theorem dL_law_2220 : decode cL_law 2220 = .ok (.iadd, 1) := dc_row (B := pc_L_law_w92) (a := 2208) (p := 12) pc_L_law_a92 (by decide +kernel)
theorem dL_law_2221 : decode cL_law 2221 = .ok (.iaload, 1) := dc_row (B := pc_L_law_w92) (a := 2208) (p := 13) pc_L_law_a92 (by decide +kernel)
theorem dL_law_2222 : decode cL_law 2222 = .ok (.aload_n 3, 1) := dc_row (B := pc_L_law_w92) (a := 2208) (p := 14) pc_L_law_a92 (by decide +kernel)
theorem dL_law_2223 : decode cL_law 2223 = .ok (.invokestatic 257, 3) := dc_row (B := pc_L_law_w92) (a := 2208) (p := 15) pc_L_law_a92 (by decide +kernel)
theorem dL_law_2226 : decode cL_law 2226 = .ok (.istore 5, 2) := dc_row (B := pc_L_law_w92) (a := 2208) (p := 18) pc_L_law_a92 (by decide +kernel)
theorem dL_law_2228 : decode cL_law 2228 = .ok (.aload_n 2, 1) := dc_row (B := pc_L_law_w92) (a := 2208) (p := 20) pc_L_law_a92 (by decide +kernel)
theorem dL_law_2229 : decode cL_law 2229 = .ok (.aload_n 0, 1) := dc_row (B := pc_L_law_w92) (a := 2208) (p := 21) pc_L_law_a92 (by decide +kernel)
theorem dL_law_2230 : decode cL_law 2230 = .ok (.iload 4, 2) := dc_row (B := pc_L_law_w92) (a := 2208) (p := 22) pc_L_law_a92 (by decide +kernel)
theorem dL_law_2232 : decode cL_law 2232 = .ok (.iconst 1, 1) := dc_row (B := pc_L_law_w93) (a := 2232) (p := 0) pc_L_law_a93 (by decide +kernel)
theorem dL_law_2233 : decode cL_law 2233 = .ok (.iadd, 1) := dc_row (B := pc_L_law_w93) (a := 2232) (p := 1) pc_L_law_a93 (by decide +kernel)
theorem dL_law_2234 : decode cL_law 2234 = .ok (.iaload, 1) := dc_row (B := pc_L_law_w93) (a := 2232) (p := 2) pc_L_law_a93 (by decide +kernel)
theorem dL_law_2235 : decode cL_law 2235 = .ok (.aload_n 0, 1) := dc_row (B := pc_L_law_w93) (a := 2232) (p := 3) pc_L_law_a93 (by decide +kernel)
theorem dL_law_2236 : decode cL_law 2236 = .ok (.iload 4, 2) := dc_row (B := pc_L_law_w93) (a := 2232) (p := 4) pc_L_law_a93 (by decide +kernel)
theorem dL_law_2238 : decode cL_law 2238 = .ok (.iconst 2, 1) := dc_row (B := pc_L_law_w93) (a := 2232) (p := 6) pc_L_law_a93 (by decide +kernel)
theorem dL_law_2239 : decode cL_law 2239 = .ok (.iadd, 1) := dc_row (B := pc_L_law_w93) (a := 2232) (p := 7) pc_L_law_a93 (by decide +kernel)
theorem dL_law_2240 : decode cL_law 2240 = .ok (.iaload, 1) := dc_row (B := pc_L_law_w93) (a := 2232) (p := 8) pc_L_law_a93 (by decide +kernel)
theorem dL_law_2241 : decode cL_law 2241 = .ok (.invokevirtual 259, 3) := dc_row (B := pc_L_law_w93) (a := 2232) (p := 9) pc_L_law_a93 (by decide +kernel)
theorem dL_law_2244 : decode cL_law 2244 = .ok (.istore 6, 2) := dc_row (B := pc_L_law_w93) (a := 2232) (p := 12) pc_L_law_a93 (by decide +kernel)
theorem dL_law_2246 : decode cL_law 2246 = .ok (.aload_n 2, 1) := dc_row (B := pc_L_law_w93) (a := 2232) (p := 14) pc_L_law_a93 (by decide +kernel)
theorem dL_law_2247 : decode cL_law 2247 = .ok (.invokevirtual 162, 3) := dc_row (B := pc_L_law_w93) (a := 2232) (p := 15) pc_L_law_a93 (by decide +kernel)
theorem dL_law_2250 : decode cL_law 2250 = .ok (.iload 5, 2) := dc_row (B := pc_L_law_w93) (a := 2232) (p := 18) pc_L_law_a93 (by decide +kernel)
theorem dL_law_2252 : decode cL_law 2252 = .ok (.if_icmp .eq 5, 3) := dc_row (B := pc_L_law_w93) (a := 2232) (p := 20) pc_L_law_a93 (by decide +kernel)
theorem dL_law_2257 : decode cL_law 2257 = .ok (.iload 5, 2) := dc_row (B := pc_L_law_w94) (a := 2256) (p := 1) pc_L_law_a94 (by decide +kernel)
theorem dL_law_2259 : decode cL_law 2259 = .ok (.ifCond .ne 23, 3) := dc_row (B := pc_L_law_w94) (a := 2256) (p := 3) pc_L_law_a94 (by decide +kernel)
theorem dL_law_2262 : decode cL_law 2262 = .ok (.aload_n 3, 1) := dc_row (B := pc_L_law_w94) (a := 2256) (p := 6) pc_L_law_a94 (by decide +kernel)
theorem dL_law_2263 : decode cL_law 2263 = .ok (.getfield 13, 3) := dc_row (B := pc_L_law_w94) (a := 2256) (p := 7) pc_L_law_a94 (by decide +kernel)
theorem dL_law_2266 : decode cL_law 2266 = .ok (.iload 6, 2) := dc_row (B := pc_L_law_w94) (a := 2256) (p := 10) pc_L_law_a94 (by decide +kernel)
theorem dL_law_2268 : decode cL_law 2268 = .ok (.ifCond .eq 7, 3) := dc_row (B := pc_L_law_w94) (a := 2256) (p := 12) pc_L_law_a94 (by decide +kernel)
theorem dL_law_2271 : decode cL_law 2271 = .ok (.lconst 1, 1) := dc_row (B := pc_L_law_w94) (a := 2256) (p := 15) pc_L_law_a94 (by decide +kernel)
theorem dL_law_2272 : decode cL_law 2272 = .ok (.goto 4, 3) := dc_row (B := pc_L_law_w94) (a := 2256) (p := 16) pc_L_law_a94 (by decide +kernel)
theorem dL_law_2275 : decode cL_law 2275 = .ok (.lconst 0, 1) := dc_row (B := pc_L_law_w94) (a := 2256) (p := 19) pc_L_law_a94 (by decide +kernel)
theorem dL_law_2276 : decode cL_law 2276 = .ok (.lcmp, 1) := dc_row (B := pc_L_law_w94) (a := 2256) (p := 20) pc_L_law_a94 (by decide +kernel)
theorem dL_law_2277 : decode cL_law 2277 = .ok (.ifCond .eq 5, 3) := dc_row (B := pc_L_law_w94) (a := 2256) (p := 21) pc_L_law_a94 (by decide +kernel)
theorem dL_law_2282 : decode cL_law 2282 = .ok (.goto 700, 3) := dc_row (B := pc_L_law_w95) (a := 2280) (p := 2) pc_L_law_a95 (by decide +kernel)
theorem dL_law_2285 : decode cL_law 2285 = .ok (.aload_n 1, 1) := dc_row (B := pc_L_law_w95) (a := 2280) (p := 5) pc_L_law_a95 (by decide +kernel)
theorem dL_law_2286 : decode cL_law 2286 = .ok (.aload_n 0, 1) := dc_row (B := pc_L_law_w95) (a := 2280) (p := 6) pc_L_law_a95 (by decide +kernel)
theorem dL_law_2287 : decode cL_law 2287 = .ok (.iload 4, 2) := dc_row (B := pc_L_law_w95) (a := 2280) (p := 7) pc_L_law_a95 (by decide +kernel)
theorem dL_law_2289 : decode cL_law 2289 = .ok (.iconst 1, 1) := dc_row (B := pc_L_law_w95) (a := 2280) (p := 9) pc_L_law_a95 (by decide +kernel)
theorem dL_law_2290 : decode cL_law 2290 = .ok (.iadd, 1) := dc_row (B := pc_L_law_w95) (a := 2280) (p := 10) pc_L_law_a95 (by decide +kernel)
theorem dL_law_2291 : decode cL_law 2291 = .ok (.iaload, 1) := dc_row (B := pc_L_law_w95) (a := 2280) (p := 11) pc_L_law_a95 (by decide +kernel)
theorem dL_law_2292 : decode cL_law 2292 = .ok (.aload_n 0, 1) := dc_row (B := pc_L_law_w95) (a := 2280) (p := 12) pc_L_law_a95 (by decide +kernel)
theorem dL_law_2293 : decode cL_law 2293 = .ok (.iload 4, 2) := dc_row (B := pc_L_law_w95) (a := 2280) (p := 13) pc_L_law_a95 (by decide +kernel)
theorem dL_law_2295 : decode cL_law 2295 = .ok (.iconst 2, 1) := dc_row (B := pc_L_law_w95) (a := 2280) (p := 15) pc_L_law_a95 (by decide +kernel)
theorem dL_law_2296 : decode cL_law 2296 = .ok (.iadd, 1) := dc_row (B := pc_L_law_w95) (a := 2280) (p := 16) pc_L_law_a95 (by decide +kernel)
theorem dL_law_2297 : decode cL_law 2297 = .ok (.iaload, 1) := dc_row (B := pc_L_law_w95) (a := 2280) (p := 17) pc_L_law_a95 (by decide +kernel)
theorem dL_law_2298 : decode cL_law 2298 = .ok (.aload_n 0, 1) := dc_row (B := pc_L_law_w95) (a := 2280) (p := 18) pc_L_law_a95 (by decide +kernel)
theorem dL_law_2299 : decode cL_law 2299 = .ok (.iload 4, 2) := dc_row (B := pc_L_law_w95) (a := 2280) (p := 19) pc_L_law_a95 (by decide +kernel)
theorem dL_law_2301 : decode cL_law 2301 = .ok (.iconst 3, 1) := dc_row (B := pc_L_law_w95) (a := 2280) (p := 21) pc_L_law_a95 (by decide +kernel)
theorem dL_law_2302 : decode cL_law 2302 = .ok (.iadd, 1) := dc_row (B := pc_L_law_w95) (a := 2280) (p := 22) pc_L_law_a95 (by decide +kernel)
theorem dL_law_2303 : decode cL_law 2303 = .ok (.iaload, 1) := dc_row (B := pc_L_law_w95) (a := 2280) (p := 23) pc_L_law_a95 (by decide +kernel)
theorem dL_law_2304 : decode cL_law 2304 = .ok (.aload_n 3, 1) := dc_row (B := pc_L_law_w96) (a := 2304) (p := 0) pc_L_law_a96 (by decide +kernel)
theorem dL_law_2305 : decode cL_law 2305 = .ok (.invokestatic 260, 3) := dc_row (B := pc_L_law_w96) (a := 2304) (p := 1) pc_L_law_a96 (by decide +kernel)
theorem dL_law_2308 : decode cL_law 2308 = .ok (.istore 5, 2) := dc_row (B := pc_L_law_w96) (a := 2304) (p := 4) pc_L_law_a96 (by decide +kernel)
theorem dL_law_2310 : decode cL_law 2310 = .ok (.aload_n 2, 1) := dc_row (B := pc_L_law_w96) (a := 2304) (p := 6) pc_L_law_a96 (by decide +kernel)
theorem dL_law_2311 : decode cL_law 2311 = .ok (.aload_n 0, 1) := dc_row (B := pc_L_law_w96) (a := 2304) (p := 7) pc_L_law_a96 (by decide +kernel)
theorem dL_law_2312 : decode cL_law 2312 = .ok (.iload 4, 2) := dc_row (B := pc_L_law_w96) (a := 2304) (p := 8) pc_L_law_a96 (by decide +kernel)
theorem dL_law_2314 : decode cL_law 2314 = .ok (.iconst 1, 1) := dc_row (B := pc_L_law_w96) (a := 2304) (p := 10) pc_L_law_a96 (by decide +kernel)
theorem dL_law_2315 : decode cL_law 2315 = .ok (.iadd, 1) := dc_row (B := pc_L_law_w96) (a := 2304) (p := 11) pc_L_law_a96 (by decide +kernel)
theorem dL_law_2316 : decode cL_law 2316 = .ok (.iaload, 1) := dc_row (B := pc_L_law_w96) (a := 2304) (p := 12) pc_L_law_a96 (by decide +kernel)
theorem dL_law_2317 : decode cL_law 2317 = .ok (.aload_n 0, 1) := dc_row (B := pc_L_law_w96) (a := 2304) (p := 13) pc_L_law_a96 (by decide +kernel)
theorem dL_law_2318 : decode cL_law 2318 = .ok (.iload 4, 2) := dc_row (B := pc_L_law_w96) (a := 2304) (p := 14) pc_L_law_a96 (by decide +kernel)
theorem dL_law_2320 : decode cL_law 2320 = .ok (.iconst 2, 1) := dc_row (B := pc_L_law_w96) (a := 2304) (p := 16) pc_L_law_a96 (by decide +kernel)
theorem dL_law_2321 : decode cL_law 2321 = .ok (.iadd, 1) := dc_row (B := pc_L_law_w96) (a := 2304) (p := 17) pc_L_law_a96 (by decide +kernel)
theorem dL_law_2322 : decode cL_law 2322 = .ok (.iaload, 1) := dc_row (B := pc_L_law_w96) (a := 2304) (p := 18) pc_L_law_a96 (by decide +kernel)
theorem dL_law_2323 : decode cL_law 2323 = .ok (.aload_n 0, 1) := dc_row (B := pc_L_law_w96) (a := 2304) (p := 19) pc_L_law_a96 (by decide +kernel)
theorem dL_law_2324 : decode cL_law 2324 = .ok (.iload 4, 2) := dc_row (B := pc_L_law_w96) (a := 2304) (p := 20) pc_L_law_a96 (by decide +kernel)
theorem dL_law_2326 : decode cL_law 2326 = .ok (.iconst 3, 1) := dc_row (B := pc_L_law_w96) (a := 2304) (p := 22) pc_L_law_a96 (by decide +kernel)
theorem dL_law_2327 : decode cL_law 2327 = .ok (.iadd, 1) := dc_row (B := pc_L_law_w96) (a := 2304) (p := 23) pc_L_law_a96 (by decide +kernel)
theorem dL_law_2328 : decode cL_law 2328 = .ok (.iaload, 1) := dc_row (B := pc_L_law_w97) (a := 2328) (p := 0) pc_L_law_a97 (by decide +kernel)
theorem dL_law_2329 : decode cL_law 2329 = .ok (.invokevirtual 262, 3) := dc_row (B := pc_L_law_w97) (a := 2328) (p := 1) pc_L_law_a97 (by decide +kernel)
theorem dL_law_2332 : decode cL_law 2332 = .ok (.istore 6, 2) := dc_row (B := pc_L_law_w97) (a := 2328) (p := 4) pc_L_law_a97 (by decide +kernel)
theorem dL_law_2334 : decode cL_law 2334 = .ok (.aload_n 2, 1) := dc_row (B := pc_L_law_w97) (a := 2328) (p := 6) pc_L_law_a97 (by decide +kernel)
theorem dL_law_2335 : decode cL_law 2335 = .ok (.invokevirtual 162, 3) := dc_row (B := pc_L_law_w97) (a := 2328) (p := 7) pc_L_law_a97 (by decide +kernel)
theorem dL_law_2338 : decode cL_law 2338 = .ok (.iload 5, 2) := dc_row (B := pc_L_law_w97) (a := 2328) (p := 10) pc_L_law_a97 (by decide +kernel)
theorem dL_law_2340 : decode cL_law 2340 = .ok (.if_icmp .eq 5, 3) := dc_row (B := pc_L_law_w97) (a := 2328) (p := 12) pc_L_law_a97 (by decide +kernel)
theorem dL_law_2345 : decode cL_law 2345 = .ok (.iload 5, 2) := dc_row (B := pc_L_law_w97) (a := 2328) (p := 17) pc_L_law_a97 (by decide +kernel)
theorem dL_law_2347 : decode cL_law 2347 = .ok (.ifCond .ne 16, 3) := dc_row (B := pc_L_law_w97) (a := 2328) (p := 19) pc_L_law_a97 (by decide +kernel)
theorem dL_law_2350 : decode cL_law 2350 = .ok (.aload_n 3, 1) := dc_row (B := pc_L_law_w97) (a := 2328) (p := 22) pc_L_law_a97 (by decide +kernel)
theorem dL_law_2351 : decode cL_law 2351 = .ok (.getfield 13, 3) := dc_row (B := pc_L_law_w97) (a := 2328) (p := 23) pc_L_law_a97 (by decide +kernel)
theorem dL_law_2354 : decode cL_law 2354 = .ok (.iload 6, 2) := dc_row (B := pc_L_law_w98) (a := 2352) (p := 2) pc_L_law_a98 (by decide +kernel)
theorem dL_law_2356 : decode cL_law 2356 = .ok (.i2l, 1) := dc_row (B := pc_L_law_w98) (a := 2352) (p := 4) pc_L_law_a98 (by decide +kernel)
theorem dL_law_2357 : decode cL_law 2357 = .ok (.lcmp, 1) := dc_row (B := pc_L_law_w98) (a := 2352) (p := 5) pc_L_law_a98 (by decide +kernel)
theorem dL_law_2358 : decode cL_law 2358 = .ok (.ifCond .eq 5, 3) := dc_row (B := pc_L_law_w98) (a := 2352) (p := 6) pc_L_law_a98 (by decide +kernel)
theorem dL_law_2363 : decode cL_law 2363 = .ok (.goto 619, 3) := dc_row (B := pc_L_law_w98) (a := 2352) (p := 11) pc_L_law_a98 (by decide +kernel)
theorem dL_law_2366 : decode cL_law 2366 = .ok (.aload_n 1, 1) := dc_row (B := pc_L_law_w98) (a := 2352) (p := 14) pc_L_law_a98 (by decide +kernel)
theorem dL_law_2367 : decode cL_law 2367 = .ok (.aload_n 0, 1) := dc_row (B := pc_L_law_w98) (a := 2352) (p := 15) pc_L_law_a98 (by decide +kernel)
theorem dL_law_2368 : decode cL_law 2368 = .ok (.iload 4, 2) := dc_row (B := pc_L_law_w98) (a := 2352) (p := 16) pc_L_law_a98 (by decide +kernel)
theorem dL_law_2370 : decode cL_law 2370 = .ok (.iconst 1, 1) := dc_row (B := pc_L_law_w98) (a := 2352) (p := 18) pc_L_law_a98 (by decide +kernel)
theorem dL_law_2371 : decode cL_law 2371 = .ok (.iadd, 1) := dc_row (B := pc_L_law_w98) (a := 2352) (p := 19) pc_L_law_a98 (by decide +kernel)
theorem dL_law_2372 : decode cL_law 2372 = .ok (.iaload, 1) := dc_row (B := pc_L_law_w98) (a := 2352) (p := 20) pc_L_law_a98 (by decide +kernel)
theorem dL_law_2373 : decode cL_law 2373 = .ok (.aload_n 0, 1) := dc_row (B := pc_L_law_w98) (a := 2352) (p := 21) pc_L_law_a98 (by decide +kernel)
theorem dL_law_2374 : decode cL_law 2374 = .ok (.iload 4, 2) := dc_row (B := pc_L_law_w98) (a := 2352) (p := 22) pc_L_law_a98 (by decide +kernel)
theorem dL_law_2376 : decode cL_law 2376 = .ok (.iconst 2, 1) := dc_row (B := pc_L_law_w99) (a := 2376) (p := 0) pc_L_law_a99 (by decide +kernel)
theorem dL_law_2377 : decode cL_law 2377 = .ok (.iadd, 1) := dc_row (B := pc_L_law_w99) (a := 2376) (p := 1) pc_L_law_a99 (by decide +kernel)
theorem dL_law_2378 : decode cL_law 2378 = .ok (.iaload, 1) := dc_row (B := pc_L_law_w99) (a := 2376) (p := 2) pc_L_law_a99 (by decide +kernel)
theorem dL_law_2379 : decode cL_law 2379 = .ok (.aload_n 0, 1) := dc_row (B := pc_L_law_w99) (a := 2376) (p := 3) pc_L_law_a99 (by decide +kernel)
theorem dL_law_2380 : decode cL_law 2380 = .ok (.iload 4, 2) := dc_row (B := pc_L_law_w99) (a := 2376) (p := 4) pc_L_law_a99 (by decide +kernel)
theorem dL_law_2382 : decode cL_law 2382 = .ok (.iconst 3, 1) := dc_row (B := pc_L_law_w99) (a := 2376) (p := 6) pc_L_law_a99 (by decide +kernel)
theorem dL_law_2383 : decode cL_law 2383 = .ok (.iadd, 1) := dc_row (B := pc_L_law_w99) (a := 2376) (p := 7) pc_L_law_a99 (by decide +kernel)
theorem dL_law_2384 : decode cL_law 2384 = .ok (.iaload, 1) := dc_row (B := pc_L_law_w99) (a := 2376) (p := 8) pc_L_law_a99 (by decide +kernel)
theorem dL_law_2385 : decode cL_law 2385 = .ok (.aload_n 3, 1) := dc_row (B := pc_L_law_w99) (a := 2376) (p := 9) pc_L_law_a99 (by decide +kernel)
theorem dL_law_2386 : decode cL_law 2386 = .ok (.invokestatic 263, 3) := dc_row (B := pc_L_law_w99) (a := 2376) (p := 10) pc_L_law_a99 (by decide +kernel)
theorem dL_law_2389 : decode cL_law 2389 = .ok (.istore 5, 2) := dc_row (B := pc_L_law_w99) (a := 2376) (p := 13) pc_L_law_a99 (by decide +kernel)
theorem dL_law_2391 : decode cL_law 2391 = .ok (.aload_n 2, 1) := dc_row (B := pc_L_law_w99) (a := 2376) (p := 15) pc_L_law_a99 (by decide +kernel)
theorem dL_law_2392 : decode cL_law 2392 = .ok (.aload_n 0, 1) := dc_row (B := pc_L_law_w99) (a := 2376) (p := 16) pc_L_law_a99 (by decide +kernel)
theorem dL_law_2393 : decode cL_law 2393 = .ok (.iload 4, 2) := dc_row (B := pc_L_law_w99) (a := 2376) (p := 17) pc_L_law_a99 (by decide +kernel)
theorem dL_law_2395 : decode cL_law 2395 = .ok (.iconst 1, 1) := dc_row (B := pc_L_law_w99) (a := 2376) (p := 19) pc_L_law_a99 (by decide +kernel)
theorem dL_law_2396 : decode cL_law 2396 = .ok (.iadd, 1) := dc_row (B := pc_L_law_w99) (a := 2376) (p := 20) pc_L_law_a99 (by decide +kernel)
theorem dL_law_2397 : decode cL_law 2397 = .ok (.iaload, 1) := dc_row (B := pc_L_law_w99) (a := 2376) (p := 21) pc_L_law_a99 (by decide +kernel)
theorem dL_law_2398 : decode cL_law 2398 = .ok (.aload_n 0, 1) := dc_row (B := pc_L_law_w99) (a := 2376) (p := 22) pc_L_law_a99 (by decide +kernel)
theorem dL_law_2399 : decode cL_law 2399 = .ok (.iload 4, 2) := dc_row (B := pc_L_law_w99) (a := 2376) (p := 23) pc_L_law_a99 (by decide +kernel)
theorem dL_law_2401 : decode cL_law 2401 = .ok (.iconst 2, 1) := dc_row (B := pc_L_law_w100) (a := 2400) (p := 1) pc_L_law_a100 (by decide +kernel)
theorem dL_law_2402 : decode cL_law 2402 = .ok (.iadd, 1) := dc_row (B := pc_L_law_w100) (a := 2400) (p := 2) pc_L_law_a100 (by decide +kernel)
theorem dL_law_2403 : decode cL_law 2403 = .ok (.iaload, 1) := dc_row (B := pc_L_law_w100) (a := 2400) (p := 3) pc_L_law_a100 (by decide +kernel)
theorem dL_law_2404 : decode cL_law 2404 = .ok (.aload_n 0, 1) := dc_row (B := pc_L_law_w100) (a := 2400) (p := 4) pc_L_law_a100 (by decide +kernel)
theorem dL_law_2405 : decode cL_law 2405 = .ok (.iload 4, 2) := dc_row (B := pc_L_law_w100) (a := 2400) (p := 5) pc_L_law_a100 (by decide +kernel)
theorem dL_law_2407 : decode cL_law 2407 = .ok (.iconst 3, 1) := dc_row (B := pc_L_law_w100) (a := 2400) (p := 7) pc_L_law_a100 (by decide +kernel)
theorem dL_law_2408 : decode cL_law 2408 = .ok (.iadd, 1) := dc_row (B := pc_L_law_w100) (a := 2400) (p := 8) pc_L_law_a100 (by decide +kernel)
theorem dL_law_2409 : decode cL_law 2409 = .ok (.iaload, 1) := dc_row (B := pc_L_law_w100) (a := 2400) (p := 9) pc_L_law_a100 (by decide +kernel)
theorem dL_law_2410 : decode cL_law 2410 = .ok (.invokevirtual 265, 3) := dc_row (B := pc_L_law_w100) (a := 2400) (p := 10) pc_L_law_a100 (by decide +kernel)
theorem dL_law_2413 : decode cL_law 2413 = .ok (.istore 6, 2) := dc_row (B := pc_L_law_w100) (a := 2400) (p := 13) pc_L_law_a100 (by decide +kernel)
theorem dL_law_2415 : decode cL_law 2415 = .ok (.aload_n 2, 1) := dc_row (B := pc_L_law_w100) (a := 2400) (p := 15) pc_L_law_a100 (by decide +kernel)
theorem dL_law_2416 : decode cL_law 2416 = .ok (.invokevirtual 162, 3) := dc_row (B := pc_L_law_w100) (a := 2400) (p := 16) pc_L_law_a100 (by decide +kernel)
theorem dL_law_2419 : decode cL_law 2419 = .ok (.iload 5, 2) := dc_row (B := pc_L_law_w100) (a := 2400) (p := 19) pc_L_law_a100 (by decide +kernel)
theorem dL_law_2421 : decode cL_law 2421 = .ok (.if_icmp .eq 5, 3) := dc_row (B := pc_L_law_w100) (a := 2400) (p := 21) pc_L_law_a100 (by decide +kernel)
theorem dL_law_2426 : decode cL_law 2426 = .ok (.iload 5, 2) := dc_row (B := pc_L_law_w101) (a := 2424) (p := 2) pc_L_law_a101 (by decide +kernel)
theorem dL_law_2428 : decode cL_law 2428 = .ok (.ifCond .ne 16, 3) := dc_row (B := pc_L_law_w101) (a := 2424) (p := 4) pc_L_law_a101 (by decide +kernel)
theorem dL_law_2431 : decode cL_law 2431 = .ok (.aload_n 3, 1) := dc_row (B := pc_L_law_w101) (a := 2424) (p := 7) pc_L_law_a101 (by decide +kernel)
theorem dL_law_2432 : decode cL_law 2432 = .ok (.getfield 13, 3) := dc_row (B := pc_L_law_w101) (a := 2424) (p := 8) pc_L_law_a101 (by decide +kernel)
theorem dL_law_2435 : decode cL_law 2435 = .ok (.iload 6, 2) := dc_row (B := pc_L_law_w101) (a := 2424) (p := 11) pc_L_law_a101 (by decide +kernel)
theorem dL_law_2437 : decode cL_law 2437 = .ok (.i2l, 1) := dc_row (B := pc_L_law_w101) (a := 2424) (p := 13) pc_L_law_a101 (by decide +kernel)
theorem dL_law_2438 : decode cL_law 2438 = .ok (.lcmp, 1) := dc_row (B := pc_L_law_w101) (a := 2424) (p := 14) pc_L_law_a101 (by decide +kernel)
theorem dL_law_2439 : decode cL_law 2439 = .ok (.ifCond .eq 5, 3) := dc_row (B := pc_L_law_w101) (a := 2424) (p := 15) pc_L_law_a101 (by decide +kernel)
theorem dL_law_2444 : decode cL_law 2444 = .ok (.goto 538, 3) := dc_row (B := pc_L_law_w101) (a := 2424) (p := 20) pc_L_law_a101 (by decide +kernel)
theorem dL_law_2447 : decode cL_law 2447 = .ok (.aload_n 1, 1) := dc_row (B := pc_L_law_w101) (a := 2424) (p := 23) pc_L_law_a101 (by decide +kernel)
theorem dL_law_2448 : decode cL_law 2448 = .ok (.aload_n 0, 1) := dc_row (B := pc_L_law_w102) (a := 2448) (p := 0) pc_L_law_a102 (by decide +kernel)
theorem dL_law_2449 : decode cL_law 2449 = .ok (.iload 4, 2) := dc_row (B := pc_L_law_w102) (a := 2448) (p := 1) pc_L_law_a102 (by decide +kernel)
theorem dL_law_2451 : decode cL_law 2451 = .ok (.iconst 1, 1) := dc_row (B := pc_L_law_w102) (a := 2448) (p := 3) pc_L_law_a102 (by decide +kernel)
theorem dL_law_2452 : decode cL_law 2452 = .ok (.iadd, 1) := dc_row (B := pc_L_law_w102) (a := 2448) (p := 4) pc_L_law_a102 (by decide +kernel)
theorem dL_law_2453 : decode cL_law 2453 = .ok (.iaload, 1) := dc_row (B := pc_L_law_w102) (a := 2448) (p := 5) pc_L_law_a102 (by decide +kernel)
theorem dL_law_2454 : decode cL_law 2454 = .ok (.aload_n 3, 1) := dc_row (B := pc_L_law_w102) (a := 2448) (p := 6) pc_L_law_a102 (by decide +kernel)
theorem dL_law_2455 : decode cL_law 2455 = .ok (.invokestatic 266, 3) := dc_row (B := pc_L_law_w102) (a := 2448) (p := 7) pc_L_law_a102 (by decide +kernel)
theorem dL_law_2458 : decode cL_law 2458 = .ok (.istore 5, 2) := dc_row (B := pc_L_law_w102) (a := 2448) (p := 10) pc_L_law_a102 (by decide +kernel)
theorem dL_law_2460 : decode cL_law 2460 = .ok (.aload_n 2, 1) := dc_row (B := pc_L_law_w102) (a := 2448) (p := 12) pc_L_law_a102 (by decide +kernel)
theorem dL_law_2461 : decode cL_law 2461 = .ok (.aload_n 0, 1) := dc_row (B := pc_L_law_w102) (a := 2448) (p := 13) pc_L_law_a102 (by decide +kernel)
theorem dL_law_2462 : decode cL_law 2462 = .ok (.iload 4, 2) := dc_row (B := pc_L_law_w102) (a := 2448) (p := 14) pc_L_law_a102 (by decide +kernel)
theorem dL_law_2464 : decode cL_law 2464 = .ok (.iconst 1, 1) := dc_row (B := pc_L_law_w102) (a := 2448) (p := 16) pc_L_law_a102 (by decide +kernel)
theorem dL_law_2465 : decode cL_law 2465 = .ok (.iadd, 1) := dc_row (B := pc_L_law_w102) (a := 2448) (p := 17) pc_L_law_a102 (by decide +kernel)
theorem dL_law_2466 : decode cL_law 2466 = .ok (.iaload, 1) := dc_row (B := pc_L_law_w102) (a := 2448) (p := 18) pc_L_law_a102 (by decide +kernel)
theorem dL_law_2467 : decode cL_law 2467 = .ok (.invokevirtual 268, 3) := dc_row (B := pc_L_law_w102) (a := 2448) (p := 19) pc_L_law_a102 (by decide +kernel)
theorem dL_law_2470 : decode cL_law 2470 = .ok (.istore 6, 2) := dc_row (B := pc_L_law_w102) (a := 2448) (p := 22) pc_L_law_a102 (by decide +kernel)
theorem dL_law_2472 : decode cL_law 2472 = .ok (.aload_n 2, 1) := dc_row (B := pc_L_law_w103) (a := 2472) (p := 0) pc_L_law_a103 (by decide +kernel)
theorem dL_law_2473 : decode cL_law 2473 = .ok (.invokevirtual 162, 3) := dc_row (B := pc_L_law_w103) (a := 2472) (p := 1) pc_L_law_a103 (by decide +kernel)
theorem dL_law_2476 : decode cL_law 2476 = .ok (.iload 5, 2) := dc_row (B := pc_L_law_w103) (a := 2472) (p := 4) pc_L_law_a103 (by decide +kernel)
theorem dL_law_2478 : decode cL_law 2478 = .ok (.if_icmp .eq 5, 3) := dc_row (B := pc_L_law_w103) (a := 2472) (p := 6) pc_L_law_a103 (by decide +kernel)
theorem dL_law_2483 : decode cL_law 2483 = .ok (.iload 5, 2) := dc_row (B := pc_L_law_w103) (a := 2472) (p := 11) pc_L_law_a103 (by decide +kernel)
theorem dL_law_2485 : decode cL_law 2485 = .ok (.ifCond .ne 16, 3) := dc_row (B := pc_L_law_w103) (a := 2472) (p := 13) pc_L_law_a103 (by decide +kernel)
theorem dL_law_2488 : decode cL_law 2488 = .ok (.aload_n 3, 1) := dc_row (B := pc_L_law_w103) (a := 2472) (p := 16) pc_L_law_a103 (by decide +kernel)
theorem dL_law_2489 : decode cL_law 2489 = .ok (.getfield 13, 3) := dc_row (B := pc_L_law_w103) (a := 2472) (p := 17) pc_L_law_a103 (by decide +kernel)
theorem dL_law_2492 : decode cL_law 2492 = .ok (.iload 6, 2) := dc_row (B := pc_L_law_w103) (a := 2472) (p := 20) pc_L_law_a103 (by decide +kernel)
theorem dL_law_2494 : decode cL_law 2494 = .ok (.i2l, 1) := dc_row (B := pc_L_law_w103) (a := 2472) (p := 22) pc_L_law_a103 (by decide +kernel)
theorem dL_law_2495 : decode cL_law 2495 = .ok (.lcmp, 1) := dc_row (B := pc_L_law_w103) (a := 2472) (p := 23) pc_L_law_a103 (by decide +kernel)
theorem dL_law_2496 : decode cL_law 2496 = .ok (.ifCond .eq 5, 3) := dc_row (B := pc_L_law_w104) (a := 2496) (p := 0) pc_L_law_a104 (by decide +kernel)
theorem dL_law_2501 : decode cL_law 2501 = .ok (.goto 481, 3) := dc_row (B := pc_L_law_w104) (a := 2496) (p := 5) pc_L_law_a104 (by decide +kernel)
theorem dL_law_2504 : decode cL_law 2504 = .ok (.aload_n 1, 1) := dc_row (B := pc_L_law_w104) (a := 2496) (p := 8) pc_L_law_a104 (by decide +kernel)
theorem dL_law_2505 : decode cL_law 2505 = .ok (.aload_n 0, 1) := dc_row (B := pc_L_law_w104) (a := 2496) (p := 9) pc_L_law_a104 (by decide +kernel)
theorem dL_law_2506 : decode cL_law 2506 = .ok (.iload 4, 2) := dc_row (B := pc_L_law_w104) (a := 2496) (p := 10) pc_L_law_a104 (by decide +kernel)
theorem dL_law_2508 : decode cL_law 2508 = .ok (.iconst 1, 1) := dc_row (B := pc_L_law_w104) (a := 2496) (p := 12) pc_L_law_a104 (by decide +kernel)
theorem dL_law_2509 : decode cL_law 2509 = .ok (.iadd, 1) := dc_row (B := pc_L_law_w104) (a := 2496) (p := 13) pc_L_law_a104 (by decide +kernel)
theorem dL_law_2510 : decode cL_law 2510 = .ok (.iaload, 1) := dc_row (B := pc_L_law_w104) (a := 2496) (p := 14) pc_L_law_a104 (by decide +kernel)
theorem dL_law_2511 : decode cL_law 2511 = .ok (.aload_n 3, 1) := dc_row (B := pc_L_law_w104) (a := 2496) (p := 15) pc_L_law_a104 (by decide +kernel)
theorem dL_law_2512 : decode cL_law 2512 = .ok (.invokestatic 269, 3) := dc_row (B := pc_L_law_w104) (a := 2496) (p := 16) pc_L_law_a104 (by decide +kernel)
theorem dL_law_2515 : decode cL_law 2515 = .ok (.istore 5, 2) := dc_row (B := pc_L_law_w104) (a := 2496) (p := 19) pc_L_law_a104 (by decide +kernel)
theorem dL_law_2517 : decode cL_law 2517 = .ok (.aload_n 2, 1) := dc_row (B := pc_L_law_w104) (a := 2496) (p := 21) pc_L_law_a104 (by decide +kernel)
theorem dL_law_2518 : decode cL_law 2518 = .ok (.aload_n 0, 1) := dc_row (B := pc_L_law_w104) (a := 2496) (p := 22) pc_L_law_a104 (by decide +kernel)
theorem dL_law_2519 : decode cL_law 2519 = .ok (.iload 4, 2) := dc_row (B := pc_L_law_w104) (a := 2496) (p := 23) pc_L_law_a104 (by decide +kernel)
theorem dL_law_2521 : decode cL_law 2521 = .ok (.iconst 1, 1) := dc_row (B := pc_L_law_w105) (a := 2520) (p := 1) pc_L_law_a105 (by decide +kernel)
theorem dL_law_2522 : decode cL_law 2522 = .ok (.iadd, 1) := dc_row (B := pc_L_law_w105) (a := 2520) (p := 2) pc_L_law_a105 (by decide +kernel)
theorem dL_law_2523 : decode cL_law 2523 = .ok (.iaload, 1) := dc_row (B := pc_L_law_w105) (a := 2520) (p := 3) pc_L_law_a105 (by decide +kernel)
theorem dL_law_2524 : decode cL_law 2524 = .ok (.invokevirtual 271, 3) := dc_row (B := pc_L_law_w105) (a := 2520) (p := 4) pc_L_law_a105 (by decide +kernel)
theorem dL_law_2527 : decode cL_law 2527 = .ok (.istore 6, 2) := dc_row (B := pc_L_law_w105) (a := 2520) (p := 7) pc_L_law_a105 (by decide +kernel)
theorem dL_law_2529 : decode cL_law 2529 = .ok (.aload_n 2, 1) := dc_row (B := pc_L_law_w105) (a := 2520) (p := 9) pc_L_law_a105 (by decide +kernel)
theorem dL_law_2530 : decode cL_law 2530 = .ok (.invokevirtual 162, 3) := dc_row (B := pc_L_law_w105) (a := 2520) (p := 10) pc_L_law_a105 (by decide +kernel)
theorem dL_law_2533 : decode cL_law 2533 = .ok (.iload 5, 2) := dc_row (B := pc_L_law_w105) (a := 2520) (p := 13) pc_L_law_a105 (by decide +kernel)
theorem dL_law_2535 : decode cL_law 2535 = .ok (.if_icmp .eq 5, 3) := dc_row (B := pc_L_law_w105) (a := 2520) (p := 15) pc_L_law_a105 (by decide +kernel)
theorem dL_law_2540 : decode cL_law 2540 = .ok (.iload 5, 2) := dc_row (B := pc_L_law_w105) (a := 2520) (p := 20) pc_L_law_a105 (by decide +kernel)
theorem dL_law_2542 : decode cL_law 2542 = .ok (.ifCond .ne 16, 3) := dc_row (B := pc_L_law_w105) (a := 2520) (p := 22) pc_L_law_a105 (by decide +kernel)
theorem dL_law_2545 : decode cL_law 2545 = .ok (.aload_n 3, 1) := dc_row (B := pc_L_law_w106) (a := 2544) (p := 1) pc_L_law_a106 (by decide +kernel)
theorem dL_law_2546 : decode cL_law 2546 = .ok (.getfield 13, 3) := dc_row (B := pc_L_law_w106) (a := 2544) (p := 2) pc_L_law_a106 (by decide +kernel)
theorem dL_law_2549 : decode cL_law 2549 = .ok (.iload 6, 2) := dc_row (B := pc_L_law_w106) (a := 2544) (p := 5) pc_L_law_a106 (by decide +kernel)
theorem dL_law_2551 : decode cL_law 2551 = .ok (.i2l, 1) := dc_row (B := pc_L_law_w106) (a := 2544) (p := 7) pc_L_law_a106 (by decide +kernel)
theorem dL_law_2552 : decode cL_law 2552 = .ok (.lcmp, 1) := dc_row (B := pc_L_law_w106) (a := 2544) (p := 8) pc_L_law_a106 (by decide +kernel)
theorem dL_law_2553 : decode cL_law 2553 = .ok (.ifCond .eq 5, 3) := dc_row (B := pc_L_law_w106) (a := 2544) (p := 9) pc_L_law_a106 (by decide +kernel)
theorem dL_law_2558 : decode cL_law 2558 = .ok (.goto 424, 3) := dc_row (B := pc_L_law_w106) (a := 2544) (p := 14) pc_L_law_a106 (by decide +kernel)
theorem dL_law_2561 : decode cL_law 2561 = .ok (.aload_n 1, 1) := dc_row (B := pc_L_law_w106) (a := 2544) (p := 17) pc_L_law_a106 (by decide +kernel)
theorem dL_law_2562 : decode cL_law 2562 = .ok (.aload_n 0, 1) := dc_row (B := pc_L_law_w106) (a := 2544) (p := 18) pc_L_law_a106 (by decide +kernel)
theorem dL_law_2563 : decode cL_law 2563 = .ok (.iload 4, 2) := dc_row (B := pc_L_law_w106) (a := 2544) (p := 19) pc_L_law_a106 (by decide +kernel)
theorem dL_law_2565 : decode cL_law 2565 = .ok (.iconst 1, 1) := dc_row (B := pc_L_law_w106) (a := 2544) (p := 21) pc_L_law_a106 (by decide +kernel)
theorem dL_law_2566 : decode cL_law 2566 = .ok (.iadd, 1) := dc_row (B := pc_L_law_w106) (a := 2544) (p := 22) pc_L_law_a106 (by decide +kernel)
theorem dL_law_2567 : decode cL_law 2567 = .ok (.iaload, 1) := dc_row (B := pc_L_law_w106) (a := 2544) (p := 23) pc_L_law_a106 (by decide +kernel)
theorem dL_law_2568 : decode cL_law 2568 = .ok (.aload_n 0, 1) := dc_row (B := pc_L_law_w107) (a := 2568) (p := 0) pc_L_law_a107 (by decide +kernel)
theorem dL_law_2569 : decode cL_law 2569 = .ok (.iload 4, 2) := dc_row (B := pc_L_law_w107) (a := 2568) (p := 1) pc_L_law_a107 (by decide +kernel)
theorem dL_law_2571 : decode cL_law 2571 = .ok (.iconst 2, 1) := dc_row (B := pc_L_law_w107) (a := 2568) (p := 3) pc_L_law_a107 (by decide +kernel)
theorem dL_law_2572 : decode cL_law 2572 = .ok (.iadd, 1) := dc_row (B := pc_L_law_w107) (a := 2568) (p := 4) pc_L_law_a107 (by decide +kernel)
theorem dL_law_2573 : decode cL_law 2573 = .ok (.iaload, 1) := dc_row (B := pc_L_law_w107) (a := 2568) (p := 5) pc_L_law_a107 (by decide +kernel)
theorem dL_law_2574 : decode cL_law 2574 = .ok (.aload_n 3, 1) := dc_row (B := pc_L_law_w107) (a := 2568) (p := 6) pc_L_law_a107 (by decide +kernel)
theorem dL_law_2575 : decode cL_law 2575 = .ok (.invokestatic 272, 3) := dc_row (B := pc_L_law_w107) (a := 2568) (p := 7) pc_L_law_a107 (by decide +kernel)
theorem dL_law_2578 : decode cL_law 2578 = .ok (.istore 5, 2) := dc_row (B := pc_L_law_w107) (a := 2568) (p := 10) pc_L_law_a107 (by decide +kernel)
theorem dL_law_2580 : decode cL_law 2580 = .ok (.aload_n 2, 1) := dc_row (B := pc_L_law_w107) (a := 2568) (p := 12) pc_L_law_a107 (by decide +kernel)
theorem dL_law_2581 : decode cL_law 2581 = .ok (.aload_n 0, 1) := dc_row (B := pc_L_law_w107) (a := 2568) (p := 13) pc_L_law_a107 (by decide +kernel)
theorem dL_law_2582 : decode cL_law 2582 = .ok (.iload 4, 2) := dc_row (B := pc_L_law_w107) (a := 2568) (p := 14) pc_L_law_a107 (by decide +kernel)
theorem dL_law_2584 : decode cL_law 2584 = .ok (.iconst 1, 1) := dc_row (B := pc_L_law_w107) (a := 2568) (p := 16) pc_L_law_a107 (by decide +kernel)
theorem dL_law_2585 : decode cL_law 2585 = .ok (.iadd, 1) := dc_row (B := pc_L_law_w107) (a := 2568) (p := 17) pc_L_law_a107 (by decide +kernel)
theorem dL_law_2586 : decode cL_law 2586 = .ok (.iaload, 1) := dc_row (B := pc_L_law_w107) (a := 2568) (p := 18) pc_L_law_a107 (by decide +kernel)
theorem dL_law_2587 : decode cL_law 2587 = .ok (.aload_n 0, 1) := dc_row (B := pc_L_law_w107) (a := 2568) (p := 19) pc_L_law_a107 (by decide +kernel)
theorem dL_law_2588 : decode cL_law 2588 = .ok (.iload 4, 2) := dc_row (B := pc_L_law_w107) (a := 2568) (p := 20) pc_L_law_a107 (by decide +kernel)
theorem dL_law_2590 : decode cL_law 2590 = .ok (.iconst 2, 1) := dc_row (B := pc_L_law_w107) (a := 2568) (p := 22) pc_L_law_a107 (by decide +kernel)
theorem dL_law_2591 : decode cL_law 2591 = .ok (.iadd, 1) := dc_row (B := pc_L_law_w107) (a := 2568) (p := 23) pc_L_law_a107 (by decide +kernel)
theorem dL_law_2592 : decode cL_law 2592 = .ok (.iaload, 1) := dc_row (B := pc_L_law_w108) (a := 2592) (p := 0) pc_L_law_a108 (by decide +kernel)
theorem dL_law_2593 : decode cL_law 2593 = .ok (.invokevirtual 274, 3) := dc_row (B := pc_L_law_w108) (a := 2592) (p := 1) pc_L_law_a108 (by decide +kernel)
theorem dL_law_2596 : decode cL_law 2596 = .ok (.istore 6, 2) := dc_row (B := pc_L_law_w108) (a := 2592) (p := 4) pc_L_law_a108 (by decide +kernel)
theorem dL_law_2598 : decode cL_law 2598 = .ok (.aload_n 2, 1) := dc_row (B := pc_L_law_w108) (a := 2592) (p := 6) pc_L_law_a108 (by decide +kernel)
theorem dL_law_2599 : decode cL_law 2599 = .ok (.invokevirtual 162, 3) := dc_row (B := pc_L_law_w108) (a := 2592) (p := 7) pc_L_law_a108 (by decide +kernel)
theorem dL_law_2602 : decode cL_law 2602 = .ok (.iload 5, 2) := dc_row (B := pc_L_law_w108) (a := 2592) (p := 10) pc_L_law_a108 (by decide +kernel)
theorem dL_law_2604 : decode cL_law 2604 = .ok (.if_icmp .eq 5, 3) := dc_row (B := pc_L_law_w108) (a := 2592) (p := 12) pc_L_law_a108 (by decide +kernel)
theorem dL_law_2609 : decode cL_law 2609 = .ok (.iload 5, 2) := dc_row (B := pc_L_law_w108) (a := 2592) (p := 17) pc_L_law_a108 (by decide +kernel)
theorem dL_law_2611 : decode cL_law 2611 = .ok (.ifCond .ne 16, 3) := dc_row (B := pc_L_law_w108) (a := 2592) (p := 19) pc_L_law_a108 (by decide +kernel)
theorem dL_law_2614 : decode cL_law 2614 = .ok (.aload_n 3, 1) := dc_row (B := pc_L_law_w108) (a := 2592) (p := 22) pc_L_law_a108 (by decide +kernel)
theorem dL_law_2615 : decode cL_law 2615 = .ok (.getfield 13, 3) := dc_row (B := pc_L_law_w108) (a := 2592) (p := 23) pc_L_law_a108 (by decide +kernel)
theorem dL_law_2618 : decode cL_law 2618 = .ok (.iload 6, 2) := dc_row (B := pc_L_law_w109) (a := 2616) (p := 2) pc_L_law_a109 (by decide +kernel)
theorem dL_law_2620 : decode cL_law 2620 = .ok (.i2l, 1) := dc_row (B := pc_L_law_w109) (a := 2616) (p := 4) pc_L_law_a109 (by decide +kernel)
theorem dL_law_2621 : decode cL_law 2621 = .ok (.lcmp, 1) := dc_row (B := pc_L_law_w109) (a := 2616) (p := 5) pc_L_law_a109 (by decide +kernel)
theorem dL_law_2622 : decode cL_law 2622 = .ok (.ifCond .eq 5, 3) := dc_row (B := pc_L_law_w109) (a := 2616) (p := 6) pc_L_law_a109 (by decide +kernel)
theorem dL_law_2627 : decode cL_law 2627 = .ok (.goto 355, 3) := dc_row (B := pc_L_law_w109) (a := 2616) (p := 11) pc_L_law_a109 (by decide +kernel)
theorem dL_law_2630 : decode cL_law 2630 = .ok (.aload_n 1, 1) := dc_row (B := pc_L_law_w109) (a := 2616) (p := 14) pc_L_law_a109 (by decide +kernel)
theorem dL_law_2631 : decode cL_law 2631 = .ok (.aload_n 0, 1) := dc_row (B := pc_L_law_w109) (a := 2616) (p := 15) pc_L_law_a109 (by decide +kernel)
theorem dL_law_2632 : decode cL_law 2632 = .ok (.iload 4, 2) := dc_row (B := pc_L_law_w109) (a := 2616) (p := 16) pc_L_law_a109 (by decide +kernel)
theorem dL_law_2634 : decode cL_law 2634 = .ok (.iconst 1, 1) := dc_row (B := pc_L_law_w109) (a := 2616) (p := 18) pc_L_law_a109 (by decide +kernel)
theorem dL_law_2635 : decode cL_law 2635 = .ok (.iadd, 1) := dc_row (B := pc_L_law_w109) (a := 2616) (p := 19) pc_L_law_a109 (by decide +kernel)
theorem dL_law_2636 : decode cL_law 2636 = .ok (.iaload, 1) := dc_row (B := pc_L_law_w109) (a := 2616) (p := 20) pc_L_law_a109 (by decide +kernel)
theorem dL_law_2637 : decode cL_law 2637 = .ok (.aload_n 3, 1) := dc_row (B := pc_L_law_w109) (a := 2616) (p := 21) pc_L_law_a109 (by decide +kernel)
theorem dL_law_2638 : decode cL_law 2638 = .ok (.invokestatic 275, 3) := dc_row (B := pc_L_law_w109) (a := 2616) (p := 22) pc_L_law_a109 (by decide +kernel)
theorem dL_law_2641 : decode cL_law 2641 = .ok (.istore 5, 2) := dc_row (B := pc_L_law_w110) (a := 2640) (p := 1) pc_L_law_a110 (by decide +kernel)
theorem dL_law_2643 : decode cL_law 2643 = .ok (.aload_n 2, 1) := dc_row (B := pc_L_law_w110) (a := 2640) (p := 3) pc_L_law_a110 (by decide +kernel)
theorem dL_law_2644 : decode cL_law 2644 = .ok (.aload_n 0, 1) := dc_row (B := pc_L_law_w110) (a := 2640) (p := 4) pc_L_law_a110 (by decide +kernel)
theorem dL_law_2645 : decode cL_law 2645 = .ok (.iload 4, 2) := dc_row (B := pc_L_law_w110) (a := 2640) (p := 5) pc_L_law_a110 (by decide +kernel)
theorem dL_law_2647 : decode cL_law 2647 = .ok (.iconst 1, 1) := dc_row (B := pc_L_law_w110) (a := 2640) (p := 7) pc_L_law_a110 (by decide +kernel)
theorem dL_law_2648 : decode cL_law 2648 = .ok (.iadd, 1) := dc_row (B := pc_L_law_w110) (a := 2640) (p := 8) pc_L_law_a110 (by decide +kernel)
theorem dL_law_2649 : decode cL_law 2649 = .ok (.iaload, 1) := dc_row (B := pc_L_law_w110) (a := 2640) (p := 9) pc_L_law_a110 (by decide +kernel)
theorem dL_law_2650 : decode cL_law 2650 = .ok (.invokevirtual 277, 3) := dc_row (B := pc_L_law_w110) (a := 2640) (p := 10) pc_L_law_a110 (by decide +kernel)
theorem dL_law_2653 : decode cL_law 2653 = .ok (.istore 6, 2) := dc_row (B := pc_L_law_w110) (a := 2640) (p := 13) pc_L_law_a110 (by decide +kernel)
theorem dL_law_2655 : decode cL_law 2655 = .ok (.aload_n 2, 1) := dc_row (B := pc_L_law_w110) (a := 2640) (p := 15) pc_L_law_a110 (by decide +kernel)
theorem dL_law_2656 : decode cL_law 2656 = .ok (.invokevirtual 162, 3) := dc_row (B := pc_L_law_w110) (a := 2640) (p := 16) pc_L_law_a110 (by decide +kernel)
theorem dL_law_2659 : decode cL_law 2659 = .ok (.iload 5, 2) := dc_row (B := pc_L_law_w110) (a := 2640) (p := 19) pc_L_law_a110 (by decide +kernel)
theorem dL_law_2661 : decode cL_law 2661 = .ok (.if_icmp .eq 5, 3) := dc_row (B := pc_L_law_w110) (a := 2640) (p := 21) pc_L_law_a110 (by decide +kernel)
theorem dL_law_2666 : decode cL_law 2666 = .ok (.iload 5, 2) := dc_row (B := pc_L_law_w111) (a := 2664) (p := 2) pc_L_law_a111 (by decide +kernel)
theorem dL_law_2668 : decode cL_law 2668 = .ok (.ifCond .ne 23, 3) := dc_row (B := pc_L_law_w111) (a := 2664) (p := 4) pc_L_law_a111 (by decide +kernel)
theorem dL_law_2671 : decode cL_law 2671 = .ok (.aload_n 3, 1) := dc_row (B := pc_L_law_w111) (a := 2664) (p := 7) pc_L_law_a111 (by decide +kernel)
theorem dL_law_2672 : decode cL_law 2672 = .ok (.getfield 13, 3) := dc_row (B := pc_L_law_w111) (a := 2664) (p := 8) pc_L_law_a111 (by decide +kernel)
theorem dL_law_2675 : decode cL_law 2675 = .ok (.iload 6, 2) := dc_row (B := pc_L_law_w111) (a := 2664) (p := 11) pc_L_law_a111 (by decide +kernel)
theorem dL_law_2677 : decode cL_law 2677 = .ok (.ifCond .eq 7, 3) := dc_row (B := pc_L_law_w111) (a := 2664) (p := 13) pc_L_law_a111 (by decide +kernel)
theorem dL_law_2680 : decode cL_law 2680 = .ok (.lconst 1, 1) := dc_row (B := pc_L_law_w111) (a := 2664) (p := 16) pc_L_law_a111 (by decide +kernel)
theorem dL_law_2681 : decode cL_law 2681 = .ok (.goto 4, 3) := dc_row (B := pc_L_law_w111) (a := 2664) (p := 17) pc_L_law_a111 (by decide +kernel)
theorem dL_law_2684 : decode cL_law 2684 = .ok (.lconst 0, 1) := dc_row (B := pc_L_law_w111) (a := 2664) (p := 20) pc_L_law_a111 (by decide +kernel)
theorem dL_law_2685 : decode cL_law 2685 = .ok (.lcmp, 1) := dc_row (B := pc_L_law_w111) (a := 2664) (p := 21) pc_L_law_a111 (by decide +kernel)
theorem dL_law_2686 : decode cL_law 2686 = .ok (.ifCond .eq 5, 3) := dc_row (B := pc_L_law_w111) (a := 2664) (p := 22) pc_L_law_a111 (by decide +kernel)
theorem dL_law_2691 : decode cL_law 2691 = .ok (.goto 291, 3) := dc_row (B := pc_L_law_w112) (a := 2688) (p := 3) pc_L_law_a112 (by decide +kernel)
theorem dL_law_2694 : decode cL_law 2694 = .ok (.aload_n 1, 1) := dc_row (B := pc_L_law_w112) (a := 2688) (p := 6) pc_L_law_a112 (by decide +kernel)
theorem dL_law_2695 : decode cL_law 2695 = .ok (.aload_n 0, 1) := dc_row (B := pc_L_law_w112) (a := 2688) (p := 7) pc_L_law_a112 (by decide +kernel)
theorem dL_law_2696 : decode cL_law 2696 = .ok (.iload 4, 2) := dc_row (B := pc_L_law_w112) (a := 2688) (p := 8) pc_L_law_a112 (by decide +kernel)
theorem dL_law_2698 : decode cL_law 2698 = .ok (.iconst 1, 1) := dc_row (B := pc_L_law_w112) (a := 2688) (p := 10) pc_L_law_a112 (by decide +kernel)
theorem dL_law_2699 : decode cL_law 2699 = .ok (.iadd, 1) := dc_row (B := pc_L_law_w112) (a := 2688) (p := 11) pc_L_law_a112 (by decide +kernel)
theorem dL_law_2700 : decode cL_law 2700 = .ok (.iaload, 1) := dc_row (B := pc_L_law_w112) (a := 2688) (p := 12) pc_L_law_a112 (by decide +kernel)
theorem dL_law_2701 : decode cL_law 2701 = .ok (.aload_n 3, 1) := dc_row (B := pc_L_law_w112) (a := 2688) (p := 13) pc_L_law_a112 (by decide +kernel)
theorem dL_law_2702 : decode cL_law 2702 = .ok (.invokestatic 278, 3) := dc_row (B := pc_L_law_w112) (a := 2688) (p := 14) pc_L_law_a112 (by decide +kernel)
theorem dL_law_2705 : decode cL_law 2705 = .ok (.istore 5, 2) := dc_row (B := pc_L_law_w112) (a := 2688) (p := 17) pc_L_law_a112 (by decide +kernel)
theorem dL_law_2707 : decode cL_law 2707 = .ok (.aload_n 2, 1) := dc_row (B := pc_L_law_w112) (a := 2688) (p := 19) pc_L_law_a112 (by decide +kernel)
theorem dL_law_2708 : decode cL_law 2708 = .ok (.aload_n 0, 1) := dc_row (B := pc_L_law_w112) (a := 2688) (p := 20) pc_L_law_a112 (by decide +kernel)
theorem dL_law_2709 : decode cL_law 2709 = .ok (.iload 4, 2) := dc_row (B := pc_L_law_w112) (a := 2688) (p := 21) pc_L_law_a112 (by decide +kernel)
theorem dL_law_2711 : decode cL_law 2711 = .ok (.iconst 1, 1) := dc_row (B := pc_L_law_w112) (a := 2688) (p := 23) pc_L_law_a112 (by decide +kernel)
theorem dL_law_2712 : decode cL_law 2712 = .ok (.iadd, 1) := dc_row (B := pc_L_law_w113) (a := 2712) (p := 0) pc_L_law_a113 (by decide +kernel)
theorem dL_law_2713 : decode cL_law 2713 = .ok (.iaload, 1) := dc_row (B := pc_L_law_w113) (a := 2712) (p := 1) pc_L_law_a113 (by decide +kernel)
theorem dL_law_2714 : decode cL_law 2714 = .ok (.invokevirtual 280, 3) := dc_row (B := pc_L_law_w113) (a := 2712) (p := 2) pc_L_law_a113 (by decide +kernel)
theorem dL_law_2717 : decode cL_law 2717 = .ok (.istore 6, 2) := dc_row (B := pc_L_law_w113) (a := 2712) (p := 5) pc_L_law_a113 (by decide +kernel)
theorem dL_law_2719 : decode cL_law 2719 = .ok (.aload_n 2, 1) := dc_row (B := pc_L_law_w113) (a := 2712) (p := 7) pc_L_law_a113 (by decide +kernel)
theorem dL_law_2720 : decode cL_law 2720 = .ok (.invokevirtual 162, 3) := dc_row (B := pc_L_law_w113) (a := 2712) (p := 8) pc_L_law_a113 (by decide +kernel)
theorem dL_law_2723 : decode cL_law 2723 = .ok (.iload 5, 2) := dc_row (B := pc_L_law_w113) (a := 2712) (p := 11) pc_L_law_a113 (by decide +kernel)
theorem dL_law_2725 : decode cL_law 2725 = .ok (.if_icmp .eq 5, 3) := dc_row (B := pc_L_law_w113) (a := 2712) (p := 13) pc_L_law_a113 (by decide +kernel)
theorem dL_law_2730 : decode cL_law 2730 = .ok (.iload 5, 2) := dc_row (B := pc_L_law_w113) (a := 2712) (p := 18) pc_L_law_a113 (by decide +kernel)
theorem dL_law_2732 : decode cL_law 2732 = .ok (.ifCond .ne 23, 3) := dc_row (B := pc_L_law_w113) (a := 2712) (p := 20) pc_L_law_a113 (by decide +kernel)
theorem dL_law_2735 : decode cL_law 2735 = .ok (.aload_n 3, 1) := dc_row (B := pc_L_law_w113) (a := 2712) (p := 23) pc_L_law_a113 (by decide +kernel)
theorem dL_law_2736 : decode cL_law 2736 = .ok (.getfield 13, 3) := dc_row (B := pc_L_law_w114) (a := 2736) (p := 0) pc_L_law_a114 (by decide +kernel)
theorem dL_law_2739 : decode cL_law 2739 = .ok (.iload 6, 2) := dc_row (B := pc_L_law_w114) (a := 2736) (p := 3) pc_L_law_a114 (by decide +kernel)
theorem dL_law_2741 : decode cL_law 2741 = .ok (.ifCond .eq 7, 3) := dc_row (B := pc_L_law_w114) (a := 2736) (p := 5) pc_L_law_a114 (by decide +kernel)
theorem dL_law_2744 : decode cL_law 2744 = .ok (.lconst 1, 1) := dc_row (B := pc_L_law_w114) (a := 2736) (p := 8) pc_L_law_a114 (by decide +kernel)
theorem dL_law_2745 : decode cL_law 2745 = .ok (.goto 4, 3) := dc_row (B := pc_L_law_w114) (a := 2736) (p := 9) pc_L_law_a114 (by decide +kernel)
theorem dL_law_2748 : decode cL_law 2748 = .ok (.lconst 0, 1) := dc_row (B := pc_L_law_w114) (a := 2736) (p := 12) pc_L_law_a114 (by decide +kernel)
theorem dL_law_2749 : decode cL_law 2749 = .ok (.lcmp, 1) := dc_row (B := pc_L_law_w114) (a := 2736) (p := 13) pc_L_law_a114 (by decide +kernel)
theorem dL_law_2750 : decode cL_law 2750 = .ok (.ifCond .eq 5, 3) := dc_row (B := pc_L_law_w114) (a := 2736) (p := 14) pc_L_law_a114 (by decide +kernel)
theorem dL_law_2755 : decode cL_law 2755 = .ok (.goto 227, 3) := dc_row (B := pc_L_law_w114) (a := 2736) (p := 19) pc_L_law_a114 (by decide +kernel)
theorem dL_law_2758 : decode cL_law 2758 = .ok (.aload_n 1, 1) := dc_row (B := pc_L_law_w114) (a := 2736) (p := 22) pc_L_law_a114 (by decide +kernel)
theorem dL_law_2759 : decode cL_law 2759 = .ok (.aload_n 0, 1) := dc_row (B := pc_L_law_w114) (a := 2736) (p := 23) pc_L_law_a114 (by decide +kernel)
theorem dL_law_2760 : decode cL_law 2760 = .ok (.iload 4, 2) := dc_row (B := pc_L_law_w115) (a := 2760) (p := 0) pc_L_law_a115 (by decide +kernel)
theorem dL_law_2762 : decode cL_law 2762 = .ok (.iconst 1, 1) := dc_row (B := pc_L_law_w115) (a := 2760) (p := 2) pc_L_law_a115 (by decide +kernel)
theorem dL_law_2763 : decode cL_law 2763 = .ok (.iadd, 1) := dc_row (B := pc_L_law_w115) (a := 2760) (p := 3) pc_L_law_a115 (by decide +kernel)
theorem dL_law_2764 : decode cL_law 2764 = .ok (.iaload, 1) := dc_row (B := pc_L_law_w115) (a := 2760) (p := 4) pc_L_law_a115 (by decide +kernel)
theorem dL_law_2765 : decode cL_law 2765 = .ok (.aload_n 3, 1) := dc_row (B := pc_L_law_w115) (a := 2760) (p := 5) pc_L_law_a115 (by decide +kernel)
theorem dL_law_2766 : decode cL_law 2766 = .ok (.invokestatic 281, 3) := dc_row (B := pc_L_law_w115) (a := 2760) (p := 6) pc_L_law_a115 (by decide +kernel)
theorem dL_law_2769 : decode cL_law 2769 = .ok (.istore 5, 2) := dc_row (B := pc_L_law_w115) (a := 2760) (p := 9) pc_L_law_a115 (by decide +kernel)
theorem dL_law_2771 : decode cL_law 2771 = .ok (.aload_n 2, 1) := dc_row (B := pc_L_law_w115) (a := 2760) (p := 11) pc_L_law_a115 (by decide +kernel)
theorem dL_law_2772 : decode cL_law 2772 = .ok (.aload_n 0, 1) := dc_row (B := pc_L_law_w115) (a := 2760) (p := 12) pc_L_law_a115 (by decide +kernel)
theorem dL_law_2773 : decode cL_law 2773 = .ok (.iload 4, 2) := dc_row (B := pc_L_law_w115) (a := 2760) (p := 13) pc_L_law_a115 (by decide +kernel)
theorem dL_law_2775 : decode cL_law 2775 = .ok (.iconst 1, 1) := dc_row (B := pc_L_law_w115) (a := 2760) (p := 15) pc_L_law_a115 (by decide +kernel)
theorem dL_law_2776 : decode cL_law 2776 = .ok (.iadd, 1) := dc_row (B := pc_L_law_w115) (a := 2760) (p := 16) pc_L_law_a115 (by decide +kernel)
theorem dL_law_2777 : decode cL_law 2777 = .ok (.iaload, 1) := dc_row (B := pc_L_law_w115) (a := 2760) (p := 17) pc_L_law_a115 (by decide +kernel)
theorem dL_law_2778 : decode cL_law 2778 = .ok (.invokevirtual 283, 3) := dc_row (B := pc_L_law_w115) (a := 2760) (p := 18) pc_L_law_a115 (by decide +kernel)
theorem dL_law_2781 : decode cL_law 2781 = .ok (.astore 6, 2) := dc_row (B := pc_L_law_w115) (a := 2760) (p := 21) pc_L_law_a115 (by decide +kernel)
theorem dL_law_2783 : decode cL_law 2783 = .ok (.aload_n 2, 1) := dc_row (B := pc_L_law_w115) (a := 2760) (p := 23) pc_L_law_a115 (by decide +kernel)
theorem dL_law_2784 : decode cL_law 2784 = .ok (.invokevirtual 162, 3) := dc_row (B := pc_L_law_w116) (a := 2784) (p := 0) pc_L_law_a116 (by decide +kernel)
theorem dL_law_2787 : decode cL_law 2787 = .ok (.iload 5, 2) := dc_row (B := pc_L_law_w116) (a := 2784) (p := 3) pc_L_law_a116 (by decide +kernel)
theorem dL_law_2789 : decode cL_law 2789 = .ok (.if_icmp .eq 5, 3) := dc_row (B := pc_L_law_w116) (a := 2784) (p := 5) pc_L_law_a116 (by decide +kernel)
theorem dL_law_2794 : decode cL_law 2794 = .ok (.iload 5, 2) := dc_row (B := pc_L_law_w116) (a := 2784) (p := 10) pc_L_law_a116 (by decide +kernel)
theorem dL_law_2796 : decode cL_law 2796 = .ok (.ifCond .ne 17, 3) := dc_row (B := pc_L_law_w116) (a := 2784) (p := 12) pc_L_law_a116 (by decide +kernel)
theorem dL_law_2799 : decode cL_law 2799 = .ok (.aload_n 3, 1) := dc_row (B := pc_L_law_w116) (a := 2784) (p := 15) pc_L_law_a116 (by decide +kernel)
theorem dL_law_2800 : decode cL_law 2800 = .ok (.getfield 141, 3) := dc_row (B := pc_L_law_w116) (a := 2784) (p := 16) pc_L_law_a116 (by decide +kernel)
theorem dL_law_2803 : decode cL_law 2803 = .ok (.aload 6, 2) := dc_row (B := pc_L_law_w116) (a := 2784) (p := 19) pc_L_law_a116 (by decide +kernel)
theorem dL_law_2805 : decode cL_law 2805 = .ok (.invokevirtual 284, 3) := dc_row (B := pc_L_law_w116) (a := 2784) (p := 21) pc_L_law_a116 (by decide +kernel)
theorem dL_law_2808 : decode cL_law 2808 = .ok (.ifCond .ne 5, 3) := dc_row (B := pc_L_law_w117) (a := 2808) (p := 0) pc_L_law_a117 (by decide +kernel)
theorem dL_law_2813 : decode cL_law 2813 = .ok (.goto 169, 3) := dc_row (B := pc_L_law_w117) (a := 2808) (p := 5) pc_L_law_a117 (by decide +kernel)
theorem dL_law_2816 : decode cL_law 2816 = .ok (.aload_n 1, 1) := dc_row (B := pc_L_law_w117) (a := 2808) (p := 8) pc_L_law_a117 (by decide +kernel)
theorem dL_law_2817 : decode cL_law 2817 = .ok (.aload_n 0, 1) := dc_row (B := pc_L_law_w117) (a := 2808) (p := 9) pc_L_law_a117 (by decide +kernel)
theorem dL_law_2818 : decode cL_law 2818 = .ok (.iload 4, 2) := dc_row (B := pc_L_law_w117) (a := 2808) (p := 10) pc_L_law_a117 (by decide +kernel)
theorem dL_law_2820 : decode cL_law 2820 = .ok (.iconst 1, 1) := dc_row (B := pc_L_law_w117) (a := 2808) (p := 12) pc_L_law_a117 (by decide +kernel)
theorem dL_law_2821 : decode cL_law 2821 = .ok (.iadd, 1) := dc_row (B := pc_L_law_w117) (a := 2808) (p := 13) pc_L_law_a117 (by decide +kernel)
theorem dL_law_2822 : decode cL_law 2822 = .ok (.iaload, 1) := dc_row (B := pc_L_law_w117) (a := 2808) (p := 14) pc_L_law_a117 (by decide +kernel)
theorem dL_law_2823 : decode cL_law 2823 = .ok (.aload_n 0, 1) := dc_row (B := pc_L_law_w117) (a := 2808) (p := 15) pc_L_law_a117 (by decide +kernel)
theorem dL_law_2824 : decode cL_law 2824 = .ok (.iload 4, 2) := dc_row (B := pc_L_law_w117) (a := 2808) (p := 16) pc_L_law_a117 (by decide +kernel)
theorem dL_law_2826 : decode cL_law 2826 = .ok (.iconst 2, 1) := dc_row (B := pc_L_law_w117) (a := 2808) (p := 18) pc_L_law_a117 (by decide +kernel)
theorem dL_law_2827 : decode cL_law 2827 = .ok (.iadd, 1) := dc_row (B := pc_L_law_w117) (a := 2808) (p := 19) pc_L_law_a117 (by decide +kernel)
theorem dL_law_2828 : decode cL_law 2828 = .ok (.iaload, 1) := dc_row (B := pc_L_law_w117) (a := 2808) (p := 20) pc_L_law_a117 (by decide +kernel)
theorem dL_law_2829 : decode cL_law 2829 = .ok (.aload_n 3, 1) := dc_row (B := pc_L_law_w117) (a := 2808) (p := 21) pc_L_law_a117 (by decide +kernel)
theorem dL_law_2830 : decode cL_law 2830 = .ok (.invokestatic 290, 3) := dc_row (B := pc_L_law_w117) (a := 2808) (p := 22) pc_L_law_a117 (by decide +kernel)
theorem dL_law_2833 : decode cL_law 2833 = .ok (.istore 5, 2) := dc_row (B := pc_L_law_w118) (a := 2832) (p := 1) pc_L_law_a118 (by decide +kernel)
theorem dL_law_2835 : decode cL_law 2835 = .ok (.aload_n 2, 1) := dc_row (B := pc_L_law_w118) (a := 2832) (p := 3) pc_L_law_a118 (by decide +kernel)
theorem dL_law_2836 : decode cL_law 2836 = .ok (.aload_n 0, 1) := dc_row (B := pc_L_law_w118) (a := 2832) (p := 4) pc_L_law_a118 (by decide +kernel)
theorem dL_law_2837 : decode cL_law 2837 = .ok (.iload 4, 2) := dc_row (B := pc_L_law_w118) (a := 2832) (p := 5) pc_L_law_a118 (by decide +kernel)
theorem dL_law_2839 : decode cL_law 2839 = .ok (.iconst 1, 1) := dc_row (B := pc_L_law_w118) (a := 2832) (p := 7) pc_L_law_a118 (by decide +kernel)
theorem dL_law_2840 : decode cL_law 2840 = .ok (.iadd, 1) := dc_row (B := pc_L_law_w118) (a := 2832) (p := 8) pc_L_law_a118 (by decide +kernel)
theorem dL_law_2841 : decode cL_law 2841 = .ok (.iaload, 1) := dc_row (B := pc_L_law_w118) (a := 2832) (p := 9) pc_L_law_a118 (by decide +kernel)
theorem dL_law_2842 : decode cL_law 2842 = .ok (.aload_n 0, 1) := dc_row (B := pc_L_law_w118) (a := 2832) (p := 10) pc_L_law_a118 (by decide +kernel)
theorem dL_law_2843 : decode cL_law 2843 = .ok (.iload 4, 2) := dc_row (B := pc_L_law_w118) (a := 2832) (p := 11) pc_L_law_a118 (by decide +kernel)
theorem dL_law_2845 : decode cL_law 2845 = .ok (.iconst 2, 1) := dc_row (B := pc_L_law_w118) (a := 2832) (p := 13) pc_L_law_a118 (by decide +kernel)
theorem dL_law_2846 : decode cL_law 2846 = .ok (.iadd, 1) := dc_row (B := pc_L_law_w118) (a := 2832) (p := 14) pc_L_law_a118 (by decide +kernel)
theorem dL_law_2847 : decode cL_law 2847 = .ok (.iaload, 1) := dc_row (B := pc_L_law_w118) (a := 2832) (p := 15) pc_L_law_a118 (by decide +kernel)
theorem dL_law_2848 : decode cL_law 2848 = .ok (.invokevirtual 292, 3) := dc_row (B := pc_L_law_w118) (a := 2832) (p := 16) pc_L_law_a118 (by decide +kernel)
theorem dL_law_2851 : decode cL_law 2851 = .ok (.istore 6, 2) := dc_row (B := pc_L_law_w118) (a := 2832) (p := 19) pc_L_law_a118 (by decide +kernel)
theorem dL_law_2853 : decode cL_law 2853 = .ok (.aload_n 2, 1) := dc_row (B := pc_L_law_w118) (a := 2832) (p := 21) pc_L_law_a118 (by decide +kernel)
theorem dL_law_2854 : decode cL_law 2854 = .ok (.invokevirtual 162, 3) := dc_row (B := pc_L_law_w118) (a := 2832) (p := 22) pc_L_law_a118 (by decide +kernel)
theorem dL_law_2857 : decode cL_law 2857 = .ok (.iload 5, 2) := dc_row (B := pc_L_law_w119) (a := 2856) (p := 1) pc_L_law_a119 (by decide +kernel)
theorem dL_law_2859 : decode cL_law 2859 = .ok (.if_icmp .eq 5, 3) := dc_row (B := pc_L_law_w119) (a := 2856) (p := 3) pc_L_law_a119 (by decide +kernel)
theorem dL_law_2864 : decode cL_law 2864 = .ok (.iload 5, 2) := dc_row (B := pc_L_law_w119) (a := 2856) (p := 8) pc_L_law_a119 (by decide +kernel)
theorem dL_law_2866 : decode cL_law 2866 = .ok (.ifCond .ne 16, 3) := dc_row (B := pc_L_law_w119) (a := 2856) (p := 10) pc_L_law_a119 (by decide +kernel)
theorem dL_law_2869 : decode cL_law 2869 = .ok (.aload_n 3, 1) := dc_row (B := pc_L_law_w119) (a := 2856) (p := 13) pc_L_law_a119 (by decide +kernel)
theorem dL_law_2870 : decode cL_law 2870 = .ok (.getfield 13, 3) := dc_row (B := pc_L_law_w119) (a := 2856) (p := 14) pc_L_law_a119 (by decide +kernel)
theorem dL_law_2873 : decode cL_law 2873 = .ok (.iload 6, 2) := dc_row (B := pc_L_law_w119) (a := 2856) (p := 17) pc_L_law_a119 (by decide +kernel)
theorem dL_law_2875 : decode cL_law 2875 = .ok (.i2l, 1) := dc_row (B := pc_L_law_w119) (a := 2856) (p := 19) pc_L_law_a119 (by decide +kernel)
theorem dL_law_2876 : decode cL_law 2876 = .ok (.lcmp, 1) := dc_row (B := pc_L_law_w119) (a := 2856) (p := 20) pc_L_law_a119 (by decide +kernel)
theorem dL_law_2877 : decode cL_law 2877 = .ok (.ifCond .eq 5, 3) := dc_row (B := pc_L_law_w119) (a := 2856) (p := 21) pc_L_law_a119 (by decide +kernel)
theorem dL_law_2882 : decode cL_law 2882 = .ok (.goto 100, 3) := dc_row (B := pc_L_law_w120) (a := 2880) (p := 2) pc_L_law_a120 (by decide +kernel)
theorem dL_law_2885 : decode cL_law 2885 = .ok (.aload_n 1, 1) := dc_row (B := pc_L_law_w120) (a := 2880) (p := 5) pc_L_law_a120 (by decide +kernel)
theorem dL_law_2886 : decode cL_law 2886 = .ok (.invokevirtual 293, 3) := dc_row (B := pc_L_law_w120) (a := 2880) (p := 6) pc_L_law_a120 (by decide +kernel)
theorem dL_law_2889 : decode cL_law 2889 = .ok (.aload_n 2, 1) := dc_row (B := pc_L_law_w120) (a := 2880) (p := 9) pc_L_law_a120 (by decide +kernel)
theorem dL_law_2890 : decode cL_law 2890 = .ok (.invokevirtual 296, 3) := dc_row (B := pc_L_law_w120) (a := 2880) (p := 10) pc_L_law_a120 (by decide +kernel)
theorem dL_law_2893 : decode cL_law 2893 = .ok (.if_icmp .eq 89, 3) := dc_row (B := pc_L_law_w120) (a := 2880) (p := 13) pc_L_law_a120 (by decide +kernel)
theorem dL_law_2898 : decode cL_law 2898 = .ok (.aload_n 1, 1) := dc_row (B := pc_L_law_w120) (a := 2880) (p := 18) pc_L_law_a120 (by decide +kernel)
theorem dL_law_2899 : decode cL_law 2899 = .ok (.aload_n 0, 1) := dc_row (B := pc_L_law_w120) (a := 2880) (p := 19) pc_L_law_a120 (by decide +kernel)
theorem dL_law_2900 : decode cL_law 2900 = .ok (.iload 4, 2) := dc_row (B := pc_L_law_w120) (a := 2880) (p := 20) pc_L_law_a120 (by decide +kernel)
theorem dL_law_2902 : decode cL_law 2902 = .ok (.iconst 1, 1) := dc_row (B := pc_L_law_w120) (a := 2880) (p := 22) pc_L_law_a120 (by decide +kernel)
theorem dL_law_2903 : decode cL_law 2903 = .ok (.iadd, 1) := dc_row (B := pc_L_law_w120) (a := 2880) (p := 23) pc_L_law_a120 (by decide +kernel)
theorem dL_law_2904 : decode cL_law 2904 = .ok (.iaload, 1) := dc_row (B := pc_L_law_w121) (a := 2904) (p := 0) pc_L_law_a121 (by decide +kernel)
theorem dL_law_2905 : decode cL_law 2905 = .ok (.aload_n 3, 1) := dc_row (B := pc_L_law_w121) (a := 2904) (p := 1) pc_L_law_a121 (by decide +kernel)
theorem dL_law_2906 : decode cL_law 2906 = .ok (.invokestatic 297, 3) := dc_row (B := pc_L_law_w121) (a := 2904) (p := 2) pc_L_law_a121 (by decide +kernel)
theorem dL_law_2909 : decode cL_law 2909 = .ok (.istore 5, 2) := dc_row (B := pc_L_law_w121) (a := 2904) (p := 5) pc_L_law_a121 (by decide +kernel)
theorem dL_law_2911 : decode cL_law 2911 = .ok (.aload_n 2, 1) := dc_row (B := pc_L_law_w121) (a := 2904) (p := 7) pc_L_law_a121 (by decide +kernel)
theorem dL_law_2912 : decode cL_law 2912 = .ok (.aload_n 0, 1) := dc_row (B := pc_L_law_w121) (a := 2904) (p := 8) pc_L_law_a121 (by decide +kernel)
theorem dL_law_2913 : decode cL_law 2913 = .ok (.iload 4, 2) := dc_row (B := pc_L_law_w121) (a := 2904) (p := 9) pc_L_law_a121 (by decide +kernel)
theorem dL_law_2915 : decode cL_law 2915 = .ok (.iconst 1, 1) := dc_row (B := pc_L_law_w121) (a := 2904) (p := 11) pc_L_law_a121 (by decide +kernel)
theorem dL_law_2916 : decode cL_law 2916 = .ok (.iadd, 1) := dc_row (B := pc_L_law_w121) (a := 2904) (p := 12) pc_L_law_a121 (by decide +kernel)
theorem dL_law_2917 : decode cL_law 2917 = .ok (.iaload, 1) := dc_row (B := pc_L_law_w121) (a := 2904) (p := 13) pc_L_law_a121 (by decide +kernel)
theorem dL_law_2918 : decode cL_law 2918 = .ok (.invokevirtual 299, 3) := dc_row (B := pc_L_law_w121) (a := 2904) (p := 14) pc_L_law_a121 (by decide +kernel)
theorem dL_law_2921 : decode cL_law 2921 = .ok (.istore 6, 2) := dc_row (B := pc_L_law_w121) (a := 2904) (p := 17) pc_L_law_a121 (by decide +kernel)
theorem dL_law_2923 : decode cL_law 2923 = .ok (.aload_n 2, 1) := dc_row (B := pc_L_law_w121) (a := 2904) (p := 19) pc_L_law_a121 (by decide +kernel)
theorem dL_law_2924 : decode cL_law 2924 = .ok (.invokevirtual 162, 3) := dc_row (B := pc_L_law_w121) (a := 2904) (p := 20) pc_L_law_a121 (by decide +kernel)
theorem dL_law_2927 : decode cL_law 2927 = .ok (.iload 5, 2) := dc_row (B := pc_L_law_w121) (a := 2904) (p := 23) pc_L_law_a121 (by decide +kernel)
theorem dL_law_2929 : decode cL_law 2929 = .ok (.if_icmp .eq 5, 3) := dc_row (B := pc_L_law_w122) (a := 2928) (p := 1) pc_L_law_a122 (by decide +kernel)
theorem dL_law_2934 : decode cL_law 2934 = .ok (.iload 5, 2) := dc_row (B := pc_L_law_w122) (a := 2928) (p := 6) pc_L_law_a122 (by decide +kernel)
theorem dL_law_2936 : decode cL_law 2936 = .ok (.ifCond .ne 16, 3) := dc_row (B := pc_L_law_w122) (a := 2928) (p := 8) pc_L_law_a122 (by decide +kernel)
theorem dL_law_2939 : decode cL_law 2939 = .ok (.aload_n 3, 1) := dc_row (B := pc_L_law_w122) (a := 2928) (p := 11) pc_L_law_a122 (by decide +kernel)
theorem dL_law_2940 : decode cL_law 2940 = .ok (.getfield 13, 3) := dc_row (B := pc_L_law_w122) (a := 2928) (p := 12) pc_L_law_a122 (by decide +kernel)
theorem dL_law_2943 : decode cL_law 2943 = .ok (.iload 6, 2) := dc_row (B := pc_L_law_w122) (a := 2928) (p := 15) pc_L_law_a122 (by decide +kernel)
theorem dL_law_2945 : decode cL_law 2945 = .ok (.i2l, 1) := dc_row (B := pc_L_law_w122) (a := 2928) (p := 17) pc_L_law_a122 (by decide +kernel)
theorem dL_law_2946 : decode cL_law 2946 = .ok (.lcmp, 1) := dc_row (B := pc_L_law_w122) (a := 2928) (p := 18) pc_L_law_a122 (by decide +kernel)
theorem dL_law_2947 : decode cL_law 2947 = .ok (.ifCond .eq 5, 3) := dc_row (B := pc_L_law_w122) (a := 2928) (p := 19) pc_L_law_a122 (by decide +kernel)
theorem dL_law_2952 : decode cL_law 2952 = .ok (.goto 30, 3) := dc_row (B := pc_L_law_w123) (a := 2952) (p := 0) pc_L_law_a123 (by decide +kernel)
theorem dL_law_2955 : decode cL_law 2955 = .ok (.aload_n 1, 1) := dc_row (B := pc_L_law_w123) (a := 2952) (p := 3) pc_L_law_a123 (by decide +kernel)
theorem dL_law_2956 : decode cL_law 2956 = .ok (.invokevirtual 300, 3) := dc_row (B := pc_L_law_w123) (a := 2952) (p := 4) pc_L_law_a123 (by decide +kernel)
theorem dL_law_2959 : decode cL_law 2959 = .ok (.aload_n 2, 1) := dc_row (B := pc_L_law_w123) (a := 2952) (p := 7) pc_L_law_a123 (by decide +kernel)
theorem dL_law_2960 : decode cL_law 2960 = .ok (.invokevirtual 303, 3) := dc_row (B := pc_L_law_w123) (a := 2952) (p := 8) pc_L_law_a123 (by decide +kernel)
theorem dL_law_2963 : decode cL_law 2963 = .ok (.if_icmp .eq 19, 3) := dc_row (B := pc_L_law_w123) (a := 2952) (p := 11) pc_L_law_a123 (by decide +kernel)
theorem dL_law_2968 : decode cL_law 2968 = .ok (.aload_n 1, 1) := dc_row (B := pc_L_law_w123) (a := 2952) (p := 16) pc_L_law_a123 (by decide +kernel)
theorem dL_law_2969 : decode cL_law 2969 = .ok (.invokevirtual 304, 3) := dc_row (B := pc_L_law_w123) (a := 2952) (p := 17) pc_L_law_a123 (by decide +kernel)
theorem dL_law_2972 : decode cL_law 2972 = .ok (.aload_n 2, 1) := dc_row (B := pc_L_law_w123) (a := 2952) (p := 20) pc_L_law_a123 (by decide +kernel)
theorem dL_law_2973 : decode cL_law 2973 = .ok (.invokevirtual 308, 3) := dc_row (B := pc_L_law_w123) (a := 2952) (p := 21) pc_L_law_a123 (by decide +kernel)
theorem dL_law_2976 : decode cL_law 2976 = .ok (.lcmp, 1) := dc_row (B := pc_L_law_w124) (a := 2976) (p := 0) pc_L_law_a124 (by decide +kernel)
theorem dL_law_2977 : decode cL_law 2977 = .ok (.ifCond .eq 5, 3) := dc_row (B := pc_L_law_w124) (a := 2976) (p := 1) pc_L_law_a124 (by decide +kernel)
set_option maxRecDepth 100000 in
set_option maxHeartbeats 4000000 in
theorem case_0 {p : Program} {l : Launch} {e : Env} {s : State} {m : MethodId} {below : List Frame} {meth : Method} {c : Code} (hl0 : l.stackTraces = false) (D : va_G) (cI cB : ClassId) (b L : Nat) (xs : Nat → Int32) (x bx px t bt o bo po q : Nat) (to tt : Nat) (go gu : Nat → Int32) (na nv : Nat) (nf : Nat → Int32) (nb nw : Nat) (nh : Nat → Int32) (ea ew : Nat) (ef : Nat → Int32) (i cc ss : Nat) (hi : i + 6 ≤ L) (hcc : cc + 33 ≤ room_1.cells) (hss : ss + 321 ≤ room_1.slots) (hL : L ≤ 6) (FX : CallFix p m c cL_law 7 s #[.ref b] bigW RL) (hK : va_K D KL (TY cI cB) s) (hX : va_X b L xs s s.heap) (hbl : b < s.heap.size) (hz : zLaw to tt go gu na nv nf nb nw nh ea ew ef (fun q => s.heap.size ≤ q) s s.heap) (hfn : sb_Fit nf) (hfe : sb_Fit ef) (hnn : TL 4 nf nh) (kk : LGo p l e s m below meth c D cI cB b x bx px t bt o bo po q i 2982 (cc + 33) (ss + 321)) : LGo p l e s m below meth c D cI cB b x bx px t bt o bo po q i 232 cc ss := by
  intro H locs f g ak su gt lf rf kn ml cn bs th h j ak' su' gt' lf' rf' kn' n0 sv ls hI hb hc hP hD hS hl
  have hA : ∀ q : Nat, s.heap.size ≤ q → s.heap.size ≤ q := fun _ h => h
  have hbA : ¬ (fun q : Nat => s.heap.size ≤ q) b := Nat.not_le.mpr hbl
  obtain ⟨r1, ey1⟩ : ∃ y, xs (i + 1) = y := ⟨_, rfl⟩
  have hin1 : i + 1 < L ∧ L < 2 ^ 31 := ⟨by omega, by omega⟩
  obtain ⟨r2, ey2⟩ : ∃ y, xs (i + 2) = y := ⟨_, rfl⟩
  have hin2 : i + 2 < L ∧ L < 2 ^ 31 := ⟨by omega, by omega⟩
  have hl : lv_has ls 7 [(4, .int (nI i)), (3, .ref q), (2, .ref o), (1, .ref x), (0, .ref b)] := hl
  have hP : va_P D KL [(x, .inr (2, [.ref bx, .ref px, .ref t, .int ak, .int su, .int gt, .int lf, .int rf, .int kn])), (bx, .inl (cI, 6, .inl f)), (px, .inl (cI, 2, .inl g)), (t, .inr (1, [.ref bt, .int 0, .int ml, .int cn])), (bt, .inl (cB, 16, .inl bs)), (o, .inr (4, [.int th, .ref bo, .ref po, .int ak', .int su', .int gt', .int lf', .int rf', .int kn'])), (bo, .inl (cI, 6, .inl h)), (po, .inl (cI, 2, .inl j)), (q, .inr (3, [.long n0, sv]))] H := hP
  have hD : va_D (fun q => s.heap.size ≤ q) [(x, .inr (2, [.ref bx, .ref px, .ref t, .int ak, .int su, .int gt, .int lf, .int rf, .int kn])), (bx, .inl (cI, 6, .inl f)), (px, .inl (cI, 2, .inl g)), (t, .inr (1, [.ref bt, .int 0, .int ml, .int cn])), (bt, .inl (cB, 16, .inl bs)), (o, .inr (4, [.int th, .ref bo, .ref po, .int ak', .int su', .int gt', .int lf', .int rf', .int kn'])), (bo, .inl (cI, 6, .inl h)), (po, .inl (cI, 2, .inl j)), (q, .inr (3, [.long n0, sv]))] := hD
  refine lv_aload_n FX.1 FX.2.1 dL_law_232 rfl (lv_at hl 3 rfl) ?_
  refine p_rd (k := 1) (v := r1) FX hX hbl hbA hS (lv_at hl 4 rfl) (lv_at hl 0 rfl) dL_law_233 dL_law_234 dL_law_236 dL_law_237 dL_law_238 rfl hin1 ey1 ?_
  refine p_rd (k := 2) (v := r2) FX hX hbl hbA hS (lv_at hl 4 rfl) (lv_at hl 0 rfl) dL_law_239 dL_law_240 dL_law_242 dL_law_243 dL_law_244 rfl hin2 ey2 ?_
  refine lv_aload_n FX.1 FX.2.1 dL_law_245 rfl (lv_at hl 1 rfl) ?_
  refine c_J (W0 := [(x, .inr (2, [.ref bx, .ref px, .ref t, .int ak, .int su, .int gt, .int lf, .int rf, .int kn])), (bx, .inl (cI, 6, .inl f)), (px, .inl (cI, 2, .inl g)), (q, .inr (3, [.long n0, sv]))]) (wr := [(t, .inr (1, [.ref bt, .int 0, .int ml, .int cn])), (bt, .inl (cB, 16, .inl bs)), (o, .inr (4, [.int th, .ref bo, .ref po, .int ak', .int su', .int gt', .int lf', .int rf', .int kn'])), (bo, .inl (cI, 6, .inl h)), (po, .inl (cI, 2, .inl j))]) (wsN := fun _ => [(x, .inr (2, [.ref bx, .ref px, .ref t, .int ak, .int su, .int gt, .int lf, .int rf, .int kn])), (bx, .inl (cI, 6, .inl (hf_fill r1 r2 f))), (px, .inl (cI, 2, .inl g)), (t, .inr (1, [.ref bt, .int 0, .int ml, .int cn])), (bt, .inl (cB, 16, .inl bs)), (o, .inr (4, [.int th, .ref bo, .ref po, .int ak', .int su', .int gt', .int lf', .int rf', .int kn'])), (bo, .inl (cI, 6, .inl h)), (po, .inl (cI, 2, .inl j)), (q, .inr (3, [.long (hn_fill r1 r2 f n0), sv]))]) (vx_runSW FX ((j_L_fill l hl0 D cI cB x bx px t f g ak su gt lf rf kn q n0 sv r1 r2) H.size) (my_cwSW FX.2.2.2.2 mh_L_fill ml_RL_156 (RMok.mk)) ⟨PJ.blind (zAnd_ok (zAnd_ok zz_ok zN_ok) zF_ok), fun U hU hW => ⟨rfl, my_preJ (zAnd_ok (zAnd_ok zz_ok zN_ok) zF_ok) ⟨hz.1.1, hz.1.2.1⟩ hS hA hK hP hD [0, 1, 2, 8] rfl rfl U hU hW⟩⟩ rfl rfl hl.1 rfl (lv_room (Nat.le_of_ble_eq_true rfl)) dL_law_246 ⟨by omega, by omega⟩) hP hD hS hA [0, 1, 2, 8] rfl [3, 4, 5, 6, 7] rfl (by decide) [5, 6, 7, 0, 1, 2, 3, 4, 8] (fun _ => rfl) rfl (fun u1 H locs hp_1 hP hD hS => ?_)
  have hP : va_P D KL [(x, .inr (2, [.ref bx, .ref px, .ref t, .int ak, .int su, .int gt, .int lf, .int rf, .int kn])), (bx, .inl (cI, 6, .inl (hf_fill r1 r2 f))), (px, .inl (cI, 2, .inl g)), (t, .inr (1, [.ref bt, .int 0, .int ml, .int cn])), (bt, .inl (cB, 16, .inl bs)), (o, .inr (4, [.int th, .ref bo, .ref po, .int ak', .int su', .int gt', .int lf', .int rf', .int kn'])), (bo, .inl (cI, 6, .inl h)), (po, .inl (cI, 2, .inl j)), (q, .inr (3, [.long (hn_fill r1 r2 f n0), sv]))] H := hP
  have hD : va_D (fun q => s.heap.size ≤ q) [(x, .inr (2, [.ref bx, .ref px, .ref t, .int ak, .int su, .int gt, .int lf, .int rf, .int kn])), (bx, .inl (cI, 6, .inl (hf_fill r1 r2 f))), (px, .inl (cI, 2, .inl g)), (t, .inr (1, [.ref bt, .int 0, .int ml, .int cn])), (bt, .inl (cB, 16, .inl bs)), (o, .inr (4, [.int th, .ref bo, .ref po, .int ak', .int su', .int gt', .int lf', .int rf', .int kn'])), (bo, .inl (cI, 6, .inl h)), (po, .inl (cI, 2, .inl j)), (q, .inr (3, [.long (hn_fill r1 r2 f n0), sv]))] := hD
  refine W.eq (g2 := F0 m 249 ls [.int (hk_fill r1 r2)]) rfl ?_
  refine lv_istore (lv' := [(5, .int (hk_fill r1 r2)), (4, .int (nI i)), (3, .ref q), (2, .ref o), (1, .ref x), (0, .ref b)]) FX.1 FX.2.1 dL_law_249 hl (by decide) rfl (fun ls hl => ?_)
  refine lv_aload_n FX.1 FX.2.1 dL_law_251 rfl (lv_at hl 3 rfl) ?_
  refine p_rd (k := 1) (v := r1) FX hX hbl hbA hS (lv_at hl 5 rfl) (lv_at hl 1 rfl) dL_law_252 dL_law_253 dL_law_255 dL_law_256 dL_law_257 rfl hin1 ey1 ?_
  refine p_rd (k := 2) (v := r2) FX hX hbl hbA hS (lv_at hl 5 rfl) (lv_at hl 1 rfl) dL_law_258 dL_law_259 dL_law_261 dL_law_262 dL_law_263 rfl hin2 ey2 ?_
  obtain ⟨eT, eA, hI2⟩ := st_fill r1 r2 n0 hI
  refine c_WRV (wr := [(x, .inr (2, [.ref bx, .ref px, .ref t, .int ak, .int su, .int gt, .int lf, .int rf, .int kn])), (bx, .inl (cI, 6, .inl (hf_fill r1 r2 f))), (px, .inl (cI, 2, .inl g)), (t, .inr (1, [.ref bt, .int 0, .int ml, .int cn])), (bt, .inl (cB, 16, .inl bs)), (q, .inr (3, [.long (hn_fill r1 r2 f n0), sv]))]) (wsN := [(x, .inr (2, [.ref bx, .ref px, .ref t, .int ak, .int su, .int gt, .int lf, .int rf, .int kn])), (bx, .inl (cI, 6, .inl (hf_fill r1 r2 f))), (px, .inl (cI, 2, .inl g)), (t, .inr (1, [.ref bt, .int 0, .int ml, .int cn])), (bt, .inl (cB, 16, .inl bs)), (o, .inr (4, [.int (wth_X2_fill r1 r2), .ref bo, .ref po, .int ak', .int su', .int gt', .int lf', .int rf', .int kn'])), (bo, .inl (cI, 6, .inl (wf_X2_fill r1 r2 h))), (po, .inl (cI, 2, .inl j)), (q, .inr (3, [.long (hn_fill r1 r2 f n0), sv]))]) (i0 := 5) (ci := 4) FX (k_X2_fill l D cI cB o bo po th h j ak' su' gt' lf' rf' kn' r1 r2) mi_X2_fill rfl ml_RL_161 (RMok.mk) hl.1 rfl (Nat.le_of_ble_eq_true rfl) dL_law_264 ⟨by omega, by omega⟩ hK hP hD hS hA [5, 6, 7] rfl [0, 1, 2, 3, 4, 8] rfl rfl (by decide) [0, 1, 2, 3, 4, 6, 7, 8, 5] rfl rfl rfl rfl rfl (fun H locs hP hD hS => ?_)
  refine lv_istore (lv' := [(6, .int (v_X2_fill r1 r2 h)), (5, .int (hk_fill r1 r2)), (4, .int (nI i)), (3, .ref q), (2, .ref o), (1, .ref x), (0, .ref b)]) FX.1 FX.2.1 dL_law_267 hl (by decide) rfl (fun ls hl => ?_)
  refine lv_aload_n FX.1 FX.2.1 dL_law_269 rfl (lv_at hl 4 rfl) ?_
  refine c_RDV (i0 := 5) (ci := 4) FX (r_X2_thrown l D cI cB o bo po (wth_X2_fill r1 r2) (wf_X2_fill r1 r2 h) j ak' su' gt' lf' rf' kn') mi_X2_thrown rfl ml_RL_162 (RMok.mk) hl.1 rfl (Nat.le_of_ble_eq_true rfl) dL_law_270 ⟨by omega, by omega⟩ hK hP [5, 6, 7] rfl rfl rfl rfl ?_
  refine lv_iload FX.1 FX.2.1 dL_law_273 (lv_at hl 1 rfl) ?_
  refine lv_icmp_eq (tgt := 280) FX.1 FX.2.1 dL_law_275 (by decide) (fun c_1 => ?_) (fun c_1 => ?_)
  · refine lv_iload FX.1 FX.2.1 dL_law_280 (lv_at hl 1 rfl) ?_
    refine lv_if_ne (tgt := 298) FX.1 FX.2.1 dL_law_282 (by decide) (fun c_2 => ?_) (fun c_2 => ?_)
    · refine lv_goto (tgt := 2982) FX.1 FX.2.1 dL_law_298 (by decide) ?_
      refine W.widen (k := cc + 33) (n := ss + 321) (by omega) (by omega) ?_
      exact kk H locs (hf_fill r1 r2 f) g ak su gt lf rf kn ml cn bs (wth_X2_fill r1 r2) (wf_X2_fill r1 r2 h) j ak' su' gt' lf' rf' kn' (hn_fill r1 r2 f n0) sv ls hI2 hb hc hP hD hS (lv_sub hl [2, 3, 4, 5, 6] rfl)
    · refine lv_aload_n FX.1 FX.2.1 dL_law_285 rfl (lv_at hl 3 rfl) ?_
      refine p_getN (ci := 3) (v := .long (hn_fill r1 r2 f n0)) FX inX1 hK hP 8 rfl rfl 0 (by decide) hz.1.2.1 rfl dL_law_286 ?_
      refine lv_iload FX.1 FX.2.1 dL_law_289 (lv_at hl 0 rfl) ?_
      refine lv_i2l (v := (v_X2_fill r1 r2 h).toInt64) FX.1 FX.2.1 dL_law_291 rfl ?_
      refine W.eq (g2 := F0 m 292 ls [.long ((v_X2_fill r1 r2 h).toInt64), .long ((v_X2_fill r1 r2 h).toInt64)]) (by rw [eA c_2]) ?_
      refine W.lcmp FX.1 FX.2.1 dL_law_292 ?_
      refine W.eq (g2 := F0 m 293 ls [.int 0]) (by rw [lg_self]) ?_
      refine lv_if_eq (tgt := 298) FX.1 FX.2.1 dL_law_293 (by decide) (fun c_3 => ?_) (fun c_3 => ?_)
      · refine lv_goto (tgt := 2982) FX.1 FX.2.1 dL_law_298 (by decide) ?_
        refine W.widen (k := cc + 33) (n := ss + 321) (by omega) (by omega) ?_
        exact kk H locs (hf_fill r1 r2 f) g ak su gt lf rf kn ml cn bs (wth_X2_fill r1 r2) (wf_X2_fill r1 r2 h) j ak' su' gt' lf' rf' kn' (hn_fill r1 r2 f n0) sv ls hI2 hb hc hP hD hS (lv_sub hl [2, 3, 4, 5, 6] rfl)
      · exact absurd c_3 (by decide)
  · exact absurd eT c_1
set_option maxRecDepth 100000 in
set_option maxHeartbeats 4000000 in
theorem case_1 {p : Program} {l : Launch} {e : Env} {s : State} {m : MethodId} {below : List Frame} {meth : Method} {c : Code} (hl0 : l.stackTraces = false) (D : va_G) (cI cB : ClassId) (b L : Nat) (xs : Nat → Int32) (x bx px t bt o bo po q : Nat) (to tt : Nat) (go gu : Nat → Int32) (na nv : Nat) (nf : Nat → Int32) (nb nw : Nat) (nh : Nat → Int32) (ea ew : Nat) (ef : Nat → Int32) (i cc ss : Nat) (hi : i + 6 ≤ L) (hcc : cc + 33 ≤ room_1.cells) (hss : ss + 321 ≤ room_1.slots) (hL : L ≤ 6) (FX : CallFix p m c cL_law 7 s #[.ref b] bigW RL) (hK : va_K D KL (TY cI cB) s) (hX : va_X b L xs s s.heap) (hbl : b < s.heap.size) (hz : zLaw to tt go gu na nv nf nb nw nh ea ew ef (fun q => s.heap.size ≤ q) s s.heap) (hfn : sb_Fit nf) (hfe : sb_Fit ef) (hnn : TL 4 nf nh) (kk : LGo p l e s m below meth c D cI cB b x bx px t bt o bo po q i 2982 (cc + 33) (ss + 321)) : LGo p l e s m below meth c D cI cB b x bx px t bt o bo po q i 301 cc ss := by
  intro H locs f g ak su gt lf rf kn ml cn bs th h j ak' su' gt' lf' rf' kn' n0 sv ls hI hb hc hP hD hS hl
  have hA : ∀ q : Nat, s.heap.size ≤ q → s.heap.size ≤ q := fun _ h => h
  have hbA : ¬ (fun q : Nat => s.heap.size ≤ q) b := Nat.not_le.mpr hbl
  obtain ⟨r1, ey1⟩ : ∃ y, xs (i + 1) = y := ⟨_, rfl⟩
  have hin1 : i + 1 < L ∧ L < 2 ^ 31 := ⟨by omega, by omega⟩
  have hl : lv_has ls 7 [(4, .int (nI i)), (3, .ref q), (2, .ref o), (1, .ref x), (0, .ref b)] := hl
  have hP : va_P D KL [(x, .inr (2, [.ref bx, .ref px, .ref t, .int ak, .int su, .int gt, .int lf, .int rf, .int kn])), (bx, .inl (cI, 6, .inl f)), (px, .inl (cI, 2, .inl g)), (t, .inr (1, [.ref bt, .int 0, .int ml, .int cn])), (bt, .inl (cB, 16, .inl bs)), (o, .inr (4, [.int th, .ref bo, .ref po, .int ak', .int su', .int gt', .int lf', .int rf', .int kn'])), (bo, .inl (cI, 6, .inl h)), (po, .inl (cI, 2, .inl j)), (q, .inr (3, [.long n0, sv]))] H := hP
  have hD : va_D (fun q => s.heap.size ≤ q) [(x, .inr (2, [.ref bx, .ref px, .ref t, .int ak, .int su, .int gt, .int lf, .int rf, .int kn])), (bx, .inl (cI, 6, .inl f)), (px, .inl (cI, 2, .inl g)), (t, .inr (1, [.ref bt, .int 0, .int ml, .int cn])), (bt, .inl (cB, 16, .inl bs)), (o, .inr (4, [.int th, .ref bo, .ref po, .int ak', .int su', .int gt', .int lf', .int rf', .int kn'])), (bo, .inl (cI, 6, .inl h)), (po, .inl (cI, 2, .inl j)), (q, .inr (3, [.long n0, sv]))] := hD
  refine lv_aload_n FX.1 FX.2.1 dL_law_301 rfl (lv_at hl 3 rfl) ?_
  refine p_rd (k := 1) (v := r1) FX hX hbl hbA hS (lv_at hl 4 rfl) (lv_at hl 0 rfl) dL_law_302 dL_law_303 dL_law_305 dL_law_306 dL_law_307 rfl hin1 ey1 ?_
  refine lv_aload_n FX.1 FX.2.1 dL_law_308 rfl (lv_at hl 1 rfl) ?_
  refine c_J (W0 := [(x, .inr (2, [.ref bx, .ref px, .ref t, .int ak, .int su, .int gt, .int lf, .int rf, .int kn])), (bx, .inl (cI, 6, .inl f)), (px, .inl (cI, 2, .inl g)), (q, .inr (3, [.long n0, sv]))]) (wr := [(t, .inr (1, [.ref bt, .int 0, .int ml, .int cn])), (bt, .inl (cB, 16, .inl bs)), (o, .inr (4, [.int th, .ref bo, .ref po, .int ak', .int su', .int gt', .int lf', .int rf', .int kn'])), (bo, .inl (cI, 6, .inl h)), (po, .inl (cI, 2, .inl j))]) (wsN := fun _ => [(x, .inr (2, [.ref bx, .ref px, .ref t, .int ak, .int su, .int gt, .int lf, .int rf, .int kn])), (bx, .inl (cI, 6, .inl (hf_empty r1 f))), (px, .inl (cI, 2, .inl g)), (t, .inr (1, [.ref bt, .int 0, .int ml, .int cn])), (bt, .inl (cB, 16, .inl bs)), (o, .inr (4, [.int th, .ref bo, .ref po, .int ak', .int su', .int gt', .int lf', .int rf', .int kn'])), (bo, .inl (cI, 6, .inl h)), (po, .inl (cI, 2, .inl j)), (q, .inr (3, [.long (hn_empty r1 f n0), sv]))]) (vx_runSW FX ((j_L_empty l hl0 D cI cB x bx px t f g ak su gt lf rf kn q n0 sv r1) H.size) (my_cwSW FX.2.2.2.2 mh_L_empty ml_RL_166 (RMok.mk)) ⟨PJ.blind (zAnd_ok (zAnd_ok zz_ok zN_ok) zF_ok), fun U hU hW => ⟨rfl, my_preJ (zAnd_ok (zAnd_ok zz_ok zN_ok) zF_ok) ⟨hz.1.1, hz.1.2.1⟩ hS hA hK hP hD [0, 1, 2, 8] rfl rfl U hU hW⟩⟩ rfl rfl hl.1 rfl (lv_room (Nat.le_of_ble_eq_true rfl)) dL_law_309 ⟨by omega, by omega⟩) hP hD hS hA [0, 1, 2, 8] rfl [3, 4, 5, 6, 7] rfl (by decide) [5, 6, 7, 0, 1, 2, 3, 4, 8] (fun _ => rfl) rfl (fun u1 H locs hp_1 hP hD hS => ?_)
  have hP : va_P D KL [(x, .inr (2, [.ref bx, .ref px, .ref t, .int ak, .int su, .int gt, .int lf, .int rf, .int kn])), (bx, .inl (cI, 6, .inl (hf_empty r1 f))), (px, .inl (cI, 2, .inl g)), (t, .inr (1, [.ref bt, .int 0, .int ml, .int cn])), (bt, .inl (cB, 16, .inl bs)), (o, .inr (4, [.int th, .ref bo, .ref po, .int ak', .int su', .int gt', .int lf', .int rf', .int kn'])), (bo, .inl (cI, 6, .inl h)), (po, .inl (cI, 2, .inl j)), (q, .inr (3, [.long (hn_empty r1 f n0), sv]))] H := hP
  have hD : va_D (fun q => s.heap.size ≤ q) [(x, .inr (2, [.ref bx, .ref px, .ref t, .int ak, .int su, .int gt, .int lf, .int rf, .int kn])), (bx, .inl (cI, 6, .inl (hf_empty r1 f))), (px, .inl (cI, 2, .inl g)), (t, .inr (1, [.ref bt, .int 0, .int ml, .int cn])), (bt, .inl (cB, 16, .inl bs)), (o, .inr (4, [.int th, .ref bo, .ref po, .int ak', .int su', .int gt', .int lf', .int rf', .int kn'])), (bo, .inl (cI, 6, .inl h)), (po, .inl (cI, 2, .inl j)), (q, .inr (3, [.long (hn_empty r1 f n0), sv]))] := hD
  refine W.eq (g2 := F0 m 312 ls [.int (hk_empty r1)]) rfl ?_
  refine lv_istore (lv' := [(5, .int (hk_empty r1)), (4, .int (nI i)), (3, .ref q), (2, .ref o), (1, .ref x), (0, .ref b)]) FX.1 FX.2.1 dL_law_312 hl (by decide) rfl (fun ls hl => ?_)
  refine lv_aload_n FX.1 FX.2.1 dL_law_314 rfl (lv_at hl 3 rfl) ?_
  refine p_rd (k := 1) (v := r1) FX hX hbl hbA hS (lv_at hl 5 rfl) (lv_at hl 1 rfl) dL_law_315 dL_law_316 dL_law_318 dL_law_319 dL_law_320 rfl hin1 ey1 ?_
  obtain ⟨eT, eA, hI2⟩ := st_empty r1 n0 hI
  refine c_WRV (wr := [(x, .inr (2, [.ref bx, .ref px, .ref t, .int ak, .int su, .int gt, .int lf, .int rf, .int kn])), (bx, .inl (cI, 6, .inl (hf_empty r1 f))), (px, .inl (cI, 2, .inl g)), (t, .inr (1, [.ref bt, .int 0, .int ml, .int cn])), (bt, .inl (cB, 16, .inl bs)), (q, .inr (3, [.long (hn_empty r1 f n0), sv]))]) (wsN := [(x, .inr (2, [.ref bx, .ref px, .ref t, .int ak, .int su, .int gt, .int lf, .int rf, .int kn])), (bx, .inl (cI, 6, .inl (hf_empty r1 f))), (px, .inl (cI, 2, .inl g)), (t, .inr (1, [.ref bt, .int 0, .int ml, .int cn])), (bt, .inl (cB, 16, .inl bs)), (o, .inr (4, [.int (wth_X2_empty r1), .ref bo, .ref po, .int ak', .int su', .int gt', .int lf', .int rf', .int kn'])), (bo, .inl (cI, 6, .inl (wf_X2_empty r1 h))), (po, .inl (cI, 2, .inl j)), (q, .inr (3, [.long (hn_empty r1 f n0), sv]))]) (i0 := 5) (ci := 4) FX (k_X2_empty l D cI cB o bo po th h j ak' su' gt' lf' rf' kn' r1) mi_X2_empty rfl ml_RL_169 (RMok.mk) hl.1 rfl (Nat.le_of_ble_eq_true rfl) dL_law_321 ⟨by omega, by omega⟩ hK hP hD hS hA [5, 6, 7] rfl [0, 1, 2, 3, 4, 8] rfl rfl (by decide) [0, 1, 2, 3, 4, 6, 7, 8, 5] rfl rfl rfl rfl rfl (fun H locs hP hD hS => ?_)
  refine lv_istore (lv' := [(6, .int (v_X2_empty r1 h)), (5, .int (hk_empty r1)), (4, .int (nI i)), (3, .ref q), (2, .ref o), (1, .ref x), (0, .ref b)]) FX.1 FX.2.1 dL_law_324 hl (by decide) rfl (fun ls hl => ?_)
  refine lv_aload_n FX.1 FX.2.1 dL_law_326 rfl (lv_at hl 4 rfl) ?_
  refine c_RDV (i0 := 5) (ci := 4) FX (r_X2_thrown l D cI cB o bo po (wth_X2_empty r1) (wf_X2_empty r1 h) j ak' su' gt' lf' rf' kn') mi_X2_thrown rfl ml_RL_162 (RMok.mk) hl.1 rfl (Nat.le_of_ble_eq_true rfl) dL_law_327 ⟨by omega, by omega⟩ hK hP [5, 6, 7] rfl rfl rfl rfl ?_
  refine lv_iload FX.1 FX.2.1 dL_law_330 (lv_at hl 1 rfl) ?_
  refine lv_icmp_eq (tgt := 337) FX.1 FX.2.1 dL_law_332 (by decide) (fun c_1 => ?_) (fun c_1 => ?_)
  · refine lv_iload FX.1 FX.2.1 dL_law_337 (lv_at hl 1 rfl) ?_
    refine lv_if_ne (tgt := 355) FX.1 FX.2.1 dL_law_339 (by decide) (fun c_2 => ?_) (fun c_2 => ?_)
    · refine lv_goto (tgt := 2982) FX.1 FX.2.1 dL_law_355 (by decide) ?_
      refine W.widen (k := cc + 33) (n := ss + 321) (by omega) (by omega) ?_
      exact kk H locs (hf_empty r1 f) g ak su gt lf rf kn ml cn bs (wth_X2_empty r1) (wf_X2_empty r1 h) j ak' su' gt' lf' rf' kn' (hn_empty r1 f n0) sv ls hI2 hb hc hP hD hS (lv_sub hl [2, 3, 4, 5, 6] rfl)
    · refine lv_aload_n FX.1 FX.2.1 dL_law_342 rfl (lv_at hl 3 rfl) ?_
      refine p_getN (ci := 3) (v := .long (hn_empty r1 f n0)) FX inX1 hK hP 8 rfl rfl 0 (by decide) hz.1.2.1 rfl dL_law_343 ?_
      refine lv_iload FX.1 FX.2.1 dL_law_346 (lv_at hl 0 rfl) ?_
      refine lv_i2l (v := (v_X2_empty r1 h).toInt64) FX.1 FX.2.1 dL_law_348 rfl ?_
      refine W.eq (g2 := F0 m 349 ls [.long ((v_X2_empty r1 h).toInt64), .long ((v_X2_empty r1 h).toInt64)]) (by rw [eA c_2]) ?_
      refine W.lcmp FX.1 FX.2.1 dL_law_349 ?_
      refine W.eq (g2 := F0 m 350 ls [.int 0]) (by rw [lg_self]) ?_
      refine lv_if_eq (tgt := 355) FX.1 FX.2.1 dL_law_350 (by decide) (fun c_3 => ?_) (fun c_3 => ?_)
      · refine lv_goto (tgt := 2982) FX.1 FX.2.1 dL_law_355 (by decide) ?_
        refine W.widen (k := cc + 33) (n := ss + 321) (by omega) (by omega) ?_
        exact kk H locs (hf_empty r1 f) g ak su gt lf rf kn ml cn bs (wth_X2_empty r1) (wf_X2_empty r1 h) j ak' su' gt' lf' rf' kn' (hn_empty r1 f n0) sv ls hI2 hb hc hP hD hS (lv_sub hl [2, 3, 4, 5, 6] rfl)
      · exact absurd c_3 (by decide)
  · exact absurd eT c_1
set_option maxRecDepth 100000 in
set_option maxHeartbeats 4000000 in
theorem case_2 {p : Program} {l : Launch} {e : Env} {s : State} {m : MethodId} {below : List Frame} {meth : Method} {c : Code} (hl0 : l.stackTraces = false) (D : va_G) (cI cB : ClassId) (b L : Nat) (xs : Nat → Int32) (x bx px t bt o bo po q : Nat) (to tt : Nat) (go gu : Nat → Int32) (na nv : Nat) (nf : Nat → Int32) (nb nw : Nat) (nh : Nat → Int32) (ea ew : Nat) (ef : Nat → Int32) (i cc ss : Nat) (hi : i + 6 ≤ L) (hcc : cc + 33 ≤ room_1.cells) (hss : ss + 321 ≤ room_1.slots) (hL : L ≤ 6) (FX : CallFix p m c cL_law 7 s #[.ref b] bigW RL) (hK : va_K D KL (TY cI cB) s) (hX : va_X b L xs s s.heap) (hbl : b < s.heap.size) (hz : zLaw to tt go gu na nv nf nb nw nh ea ew ef (fun q => s.heap.size ≤ q) s s.heap) (hfn : sb_Fit nf) (hfe : sb_Fit ef) (hnn : TL 4 nf nh) (kk : LGo p l e s m below meth c D cI cB b x bx px t bt o bo po q i 2982 (cc + 33) (ss + 321)) : LGo p l e s m below meth c D cI cB b x bx px t bt o bo po q i 358 cc ss := by
  intro H locs f g ak su gt lf rf kn ml cn bs th h j ak' su' gt' lf' rf' kn' n0 sv ls hI hb hc hP hD hS hl
  have hA : ∀ q : Nat, s.heap.size ≤ q → s.heap.size ≤ q := fun _ h => h
  have hbA : ¬ (fun q : Nat => s.heap.size ≤ q) b := Nat.not_le.mpr hbl
  obtain ⟨r1, ey1⟩ : ∃ y, xs (i + 1) = y := ⟨_, rfl⟩
  have hin1 : i + 1 < L ∧ L < 2 ^ 31 := ⟨by omega, by omega⟩
  obtain ⟨r2, ey2⟩ : ∃ y, xs (i + 2) = y := ⟨_, rfl⟩
  have hin2 : i + 2 < L ∧ L < 2 ^ 31 := ⟨by omega, by omega⟩
  obtain ⟨r3, ey3⟩ : ∃ y, xs (i + 3) = y := ⟨_, rfl⟩
  have hin3 : i + 3 < L ∧ L < 2 ^ 31 := ⟨by omega, by omega⟩
  have hl : lv_has ls 7 [(4, .int (nI i)), (3, .ref q), (2, .ref o), (1, .ref x), (0, .ref b)] := hl
  have hP : va_P D KL [(x, .inr (2, [.ref bx, .ref px, .ref t, .int ak, .int su, .int gt, .int lf, .int rf, .int kn])), (bx, .inl (cI, 6, .inl f)), (px, .inl (cI, 2, .inl g)), (t, .inr (1, [.ref bt, .int 0, .int ml, .int cn])), (bt, .inl (cB, 16, .inl bs)), (o, .inr (4, [.int th, .ref bo, .ref po, .int ak', .int su', .int gt', .int lf', .int rf', .int kn'])), (bo, .inl (cI, 6, .inl h)), (po, .inl (cI, 2, .inl j)), (q, .inr (3, [.long n0, sv]))] H := hP
  have hD : va_D (fun q => s.heap.size ≤ q) [(x, .inr (2, [.ref bx, .ref px, .ref t, .int ak, .int su, .int gt, .int lf, .int rf, .int kn])), (bx, .inl (cI, 6, .inl f)), (px, .inl (cI, 2, .inl g)), (t, .inr (1, [.ref bt, .int 0, .int ml, .int cn])), (bt, .inl (cB, 16, .inl bs)), (o, .inr (4, [.int th, .ref bo, .ref po, .int ak', .int su', .int gt', .int lf', .int rf', .int kn'])), (bo, .inl (cI, 6, .inl h)), (po, .inl (cI, 2, .inl j)), (q, .inr (3, [.long n0, sv]))] := hD
  refine lv_aload_n FX.1 FX.2.1 dL_law_358 rfl (lv_at hl 3 rfl) ?_
  refine p_rd (k := 1) (v := r1) FX hX hbl hbA hS (lv_at hl 4 rfl) (lv_at hl 0 rfl) dL_law_359 dL_law_360 dL_law_362 dL_law_363 dL_law_364 rfl hin1 ey1 ?_
  refine p_rd (k := 2) (v := r2) FX hX hbl hbA hS (lv_at hl 4 rfl) (lv_at hl 0 rfl) dL_law_365 dL_law_366 dL_law_368 dL_law_369 dL_law_370 rfl hin2 ey2 ?_
  refine p_rd (k := 3) (v := r3) FX hX hbl hbA hS (lv_at hl 4 rfl) (lv_at hl 0 rfl) dL_law_371 dL_law_372 dL_law_374 dL_law_375 dL_law_376 rfl hin3 ey3 ?_
  refine lv_if_eq (tgt := 384) FX.1 FX.2.1 dL_law_377 (by decide) (fun c_1 => ?_) (fun c_1 => ?_)
  · refine lv_iconst (v := 0) FX.1 FX.2.1 dL_law_384 (by decide) ?_
    refine lv_aload_n FX.1 FX.2.1 dL_law_385 rfl (lv_at hl 1 rfl) ?_
    refine c_J (W0 := [(x, .inr (2, [.ref bx, .ref px, .ref t, .int ak, .int su, .int gt, .int lf, .int rf, .int kn])), (bx, .inl (cI, 6, .inl f)), (px, .inl (cI, 2, .inl g)), (q, .inr (3, [.long n0, sv]))]) (wr := [(t, .inr (1, [.ref bt, .int 0, .int ml, .int cn])), (bt, .inl (cB, 16, .inl bs)), (o, .inr (4, [.int th, .ref bo, .ref po, .int ak', .int su', .int gt', .int lf', .int rf', .int kn'])), (bo, .inl (cI, 6, .inl h)), (po, .inl (cI, 2, .inl j))]) (wsN := fun _ => [(x, .inr (2, [.ref bx, .ref px, .ref t, .int ak, .int su, .int gt, .int lf, .int rf, .int kn])), (bx, .inl (cI, 6, .inl (hf_fillMaybe r1 r2 0 f))), (px, .inl (cI, 2, .inl g)), (t, .inr (1, [.ref bt, .int 0, .int ml, .int cn])), (bt, .inl (cB, 16, .inl bs)), (o, .inr (4, [.int th, .ref bo, .ref po, .int ak', .int su', .int gt', .int lf', .int rf', .int kn'])), (bo, .inl (cI, 6, .inl h)), (po, .inl (cI, 2, .inl j)), (q, .inr (3, [.long (hn_fillMaybe r1 r2 0 f n0), sv]))]) (vx_runSW FX ((j_L_fillMaybe l hl0 D cI cB x bx px t f g ak su gt lf rf kn q n0 sv r1 r2 0) H.size) (my_cwSW FX.2.2.2.2 mh_L_fillMaybe ml_RL_170 (RMok.mk)) ⟨PJ.blind (zAnd_ok (zAnd_ok zz_ok zN_ok) zF_ok), fun U hU hW => ⟨rfl, my_preJ (zAnd_ok (zAnd_ok zz_ok zN_ok) zF_ok) ⟨hz.1.1, hz.1.2.1⟩ hS hA hK hP hD [0, 1, 2, 8] rfl rfl U hU hW⟩⟩ rfl rfl hl.1 rfl (lv_room (Nat.le_of_ble_eq_true rfl)) dL_law_386 ⟨by omega, by omega⟩) hP hD hS hA [0, 1, 2, 8] rfl [3, 4, 5, 6, 7] rfl (by decide) [5, 6, 7, 0, 1, 2, 3, 4, 8] (fun _ => rfl) rfl (fun u1 H locs hp_1 hP hD hS => ?_)
    have hP : va_P D KL [(x, .inr (2, [.ref bx, .ref px, .ref t, .int ak, .int su, .int gt, .int lf, .int rf, .int kn])), (bx, .inl (cI, 6, .inl (hf_fillMaybe r1 r2 0 f))), (px, .inl (cI, 2, .inl g)), (t, .inr (1, [.ref bt, .int 0, .int ml, .int cn])), (bt, .inl (cB, 16, .inl bs)), (o, .inr (4, [.int th, .ref bo, .ref po, .int ak', .int su', .int gt', .int lf', .int rf', .int kn'])), (bo, .inl (cI, 6, .inl h)), (po, .inl (cI, 2, .inl j)), (q, .inr (3, [.long (hn_fillMaybe r1 r2 0 f n0), sv]))] H := hP
    have hD : va_D (fun q => s.heap.size ≤ q) [(x, .inr (2, [.ref bx, .ref px, .ref t, .int ak, .int su, .int gt, .int lf, .int rf, .int kn])), (bx, .inl (cI, 6, .inl (hf_fillMaybe r1 r2 0 f))), (px, .inl (cI, 2, .inl g)), (t, .inr (1, [.ref bt, .int 0, .int ml, .int cn])), (bt, .inl (cB, 16, .inl bs)), (o, .inr (4, [.int th, .ref bo, .ref po, .int ak', .int su', .int gt', .int lf', .int rf', .int kn'])), (bo, .inl (cI, 6, .inl h)), (po, .inl (cI, 2, .inl j)), (q, .inr (3, [.long (hn_fillMaybe r1 r2 0 f n0), sv]))] := hD
    refine W.eq (g2 := F0 m 389 ls [.int (hk_fillMaybe r1 r2)]) rfl ?_
    refine lv_istore (lv' := [(5, .int (hk_fillMaybe r1 r2)), (4, .int (nI i)), (3, .ref q), (2, .ref o), (1, .ref x), (0, .ref b)]) FX.1 FX.2.1 dL_law_389 hl (by decide) rfl (fun ls hl => ?_)
    refine lv_aload_n FX.1 FX.2.1 dL_law_391 rfl (lv_at hl 3 rfl) ?_
    refine p_rd (k := 1) (v := r1) FX hX hbl hbA hS (lv_at hl 5 rfl) (lv_at hl 1 rfl) dL_law_392 dL_law_393 dL_law_395 dL_law_396 dL_law_397 rfl hin1 ey1 ?_
    refine p_rd (k := 2) (v := r2) FX hX hbl hbA hS (lv_at hl 5 rfl) (lv_at hl 1 rfl) dL_law_398 dL_law_399 dL_law_401 dL_law_402 dL_law_403 rfl hin2 ey2 ?_
    refine p_rd (k := 3) (v := r3) FX hX hbl hbA hS (lv_at hl 5 rfl) (lv_at hl 1 rfl) dL_law_404 dL_law_405 dL_law_407 dL_law_408 dL_law_409 rfl hin3 ey3 ?_
    refine lv_if_eq (tgt := 417) FX.1 FX.2.1 dL_law_410 (by decide) (fun c_2 => ?_) (fun c_2 => ?_)
    · refine lv_iconst (v := 0) FX.1 FX.2.1 dL_law_417 (by decide) ?_
      obtain ⟨eT, eA, hI2⟩ := st_fillMaybe r1 r2 0 n0 hI
      refine c_WRV (wr := [(x, .inr (2, [.ref bx, .ref px, .ref t, .int ak, .int su, .int gt, .int lf, .int rf, .int kn])), (bx, .inl (cI, 6, .inl (hf_fillMaybe r1 r2 0 f))), (px, .inl (cI, 2, .inl g)), (t, .inr (1, [.ref bt, .int 0, .int ml, .int cn])), (bt, .inl (cB, 16, .inl bs)), (q, .inr (3, [.long (hn_fillMaybe r1 r2 0 f n0), sv]))]) (wsN := [(x, .inr (2, [.ref bx, .ref px, .ref t, .int ak, .int su, .int gt, .int lf, .int rf, .int kn])), (bx, .inl (cI, 6, .inl (hf_fillMaybe r1 r2 0 f))), (px, .inl (cI, 2, .inl g)), (t, .inr (1, [.ref bt, .int 0, .int ml, .int cn])), (bt, .inl (cB, 16, .inl bs)), (o, .inr (4, [.int (wth_X2_fillMaybe r1 r2), .ref bo, .ref po, .int ak', .int su', .int gt', .int lf', .int rf', .int kn'])), (bo, .inl (cI, 6, .inl (wf_X2_fillMaybe r1 r2 0 h))), (po, .inl (cI, 2, .inl j)), (q, .inr (3, [.long (hn_fillMaybe r1 r2 0 f n0), sv]))]) (i0 := 5) (ci := 4) FX (k_X2_fillMaybe l D cI cB o bo po th h j ak' su' gt' lf' rf' kn' r1 r2 0) mi_X2_fillMaybe rfl ml_RL_173 (RMok.mk) hl.1 rfl (Nat.le_of_ble_eq_true rfl) dL_law_418 ⟨by omega, by omega⟩ hK hP hD hS hA [5, 6, 7] rfl [0, 1, 2, 3, 4, 8] rfl rfl (by decide) [0, 1, 2, 3, 4, 6, 7, 8, 5] rfl rfl rfl rfl rfl (fun H locs hP hD hS => ?_)
      refine lv_istore (lv' := [(6, .int (v_X2_fillMaybe r1 r2 0)), (5, .int (hk_fillMaybe r1 r2)), (4, .int (nI i)), (3, .ref q), (2, .ref o), (1, .ref x), (0, .ref b)]) FX.1 FX.2.1 dL_law_421 hl (by decide) rfl (fun ls hl => ?_)
      refine lv_aload_n FX.1 FX.2.1 dL_law_423 rfl (lv_at hl 4 rfl) ?_
      refine c_RDV (i0 := 5) (ci := 4) FX (r_X2_thrown l D cI cB o bo po (wth_X2_fillMaybe r1 r2) (wf_X2_fillMaybe r1 r2 0 h) j ak' su' gt' lf' rf' kn') mi_X2_thrown rfl ml_RL_162 (RMok.mk) hl.1 rfl (Nat.le_of_ble_eq_true rfl) dL_law_424 ⟨by omega, by omega⟩ hK hP [5, 6, 7] rfl rfl rfl rfl ?_
      refine lv_iload FX.1 FX.2.1 dL_law_427 (lv_at hl 1 rfl) ?_
      refine lv_icmp_eq (tgt := 434) FX.1 FX.2.1 dL_law_429 (by decide) (fun c_3 => ?_) (fun c_3 => ?_)
      · refine lv_iload FX.1 FX.2.1 dL_law_434 (lv_at hl 1 rfl) ?_
        refine lv_if_ne (tgt := 452) FX.1 FX.2.1 dL_law_436 (by decide) (fun c_4 => ?_) (fun c_4 => ?_)
        · refine lv_goto (tgt := 2982) FX.1 FX.2.1 dL_law_452 (by decide) ?_
          refine W.widen (k := cc + 33) (n := ss + 321) (by omega) (by omega) ?_
          exact kk H locs (hf_fillMaybe r1 r2 0 f) g ak su gt lf rf kn ml cn bs (wth_X2_fillMaybe r1 r2) (wf_X2_fillMaybe r1 r2 0 h) j ak' su' gt' lf' rf' kn' (hn_fillMaybe r1 r2 0 f n0) sv ls hI2 hb hc hP hD hS (lv_sub hl [2, 3, 4, 5, 6] rfl)
        · refine lv_aload_n FX.1 FX.2.1 dL_law_439 rfl (lv_at hl 3 rfl) ?_
          refine p_getN (ci := 3) (v := .long (hn_fillMaybe r1 r2 0 f n0)) FX inX1 hK hP 8 rfl rfl 0 (by decide) hz.1.2.1 rfl dL_law_440 ?_
          refine lv_iload FX.1 FX.2.1 dL_law_443 (lv_at hl 0 rfl) ?_
          refine lv_i2l (v := (v_X2_fillMaybe r1 r2 0).toInt64) FX.1 FX.2.1 dL_law_445 rfl ?_
          refine W.eq (g2 := F0 m 446 ls [.long ((v_X2_fillMaybe r1 r2 0).toInt64), .long ((v_X2_fillMaybe r1 r2 0).toInt64)]) (by rw [eA c_4]) ?_
          refine W.lcmp FX.1 FX.2.1 dL_law_446 ?_
          refine W.eq (g2 := F0 m 447 ls [.int 0]) (by rw [lg_self]) ?_
          refine lv_if_eq (tgt := 452) FX.1 FX.2.1 dL_law_447 (by decide) (fun c_5 => ?_) (fun c_5 => ?_)
          · refine lv_goto (tgt := 2982) FX.1 FX.2.1 dL_law_452 (by decide) ?_
            refine W.widen (k := cc + 33) (n := ss + 321) (by omega) (by omega) ?_
            exact kk H locs (hf_fillMaybe r1 r2 0 f) g ak su gt lf rf kn ml cn bs (wth_X2_fillMaybe r1 r2) (wf_X2_fillMaybe r1 r2 0 h) j ak' su' gt' lf' rf' kn' (hn_fillMaybe r1 r2 0 f n0) sv ls hI2 hb hc hP hD hS (lv_sub hl [2, 3, 4, 5, 6] rfl)
          · exact absurd c_5 (by decide)
      · exact absurd eT c_3
    · exact absurd c_1 c_2
  · refine lv_iconst (v := 1) FX.1 FX.2.1 dL_law_380 (by decide) ?_
    refine lv_goto (tgt := 385) FX.1 FX.2.1 dL_law_381 (by decide) ?_
    refine lv_aload_n FX.1 FX.2.1 dL_law_385 rfl (lv_at hl 1 rfl) ?_
    refine c_J (W0 := [(x, .inr (2, [.ref bx, .ref px, .ref t, .int ak, .int su, .int gt, .int lf, .int rf, .int kn])), (bx, .inl (cI, 6, .inl f)), (px, .inl (cI, 2, .inl g)), (q, .inr (3, [.long n0, sv]))]) (wr := [(t, .inr (1, [.ref bt, .int 0, .int ml, .int cn])), (bt, .inl (cB, 16, .inl bs)), (o, .inr (4, [.int th, .ref bo, .ref po, .int ak', .int su', .int gt', .int lf', .int rf', .int kn'])), (bo, .inl (cI, 6, .inl h)), (po, .inl (cI, 2, .inl j))]) (wsN := fun _ => [(x, .inr (2, [.ref bx, .ref px, .ref t, .int ak, .int su, .int gt, .int lf, .int rf, .int kn])), (bx, .inl (cI, 6, .inl (hf_fillMaybe r1 r2 1 f))), (px, .inl (cI, 2, .inl g)), (t, .inr (1, [.ref bt, .int 0, .int ml, .int cn])), (bt, .inl (cB, 16, .inl bs)), (o, .inr (4, [.int th, .ref bo, .ref po, .int ak', .int su', .int gt', .int lf', .int rf', .int kn'])), (bo, .inl (cI, 6, .inl h)), (po, .inl (cI, 2, .inl j)), (q, .inr (3, [.long (hn_fillMaybe r1 r2 1 f n0), sv]))]) (vx_runSW FX ((j_L_fillMaybe l hl0 D cI cB x bx px t f g ak su gt lf rf kn q n0 sv r1 r2 1) H.size) (my_cwSW FX.2.2.2.2 mh_L_fillMaybe ml_RL_170 (RMok.mk)) ⟨PJ.blind (zAnd_ok (zAnd_ok zz_ok zN_ok) zF_ok), fun U hU hW => ⟨rfl, my_preJ (zAnd_ok (zAnd_ok zz_ok zN_ok) zF_ok) ⟨hz.1.1, hz.1.2.1⟩ hS hA hK hP hD [0, 1, 2, 8] rfl rfl U hU hW⟩⟩ rfl rfl hl.1 rfl (lv_room (Nat.le_of_ble_eq_true rfl)) dL_law_386 ⟨by omega, by omega⟩) hP hD hS hA [0, 1, 2, 8] rfl [3, 4, 5, 6, 7] rfl (by decide) [5, 6, 7, 0, 1, 2, 3, 4, 8] (fun _ => rfl) rfl (fun u2 H locs hp_2 hP hD hS => ?_)
    have hP : va_P D KL [(x, .inr (2, [.ref bx, .ref px, .ref t, .int ak, .int su, .int gt, .int lf, .int rf, .int kn])), (bx, .inl (cI, 6, .inl (hf_fillMaybe r1 r2 1 f))), (px, .inl (cI, 2, .inl g)), (t, .inr (1, [.ref bt, .int 0, .int ml, .int cn])), (bt, .inl (cB, 16, .inl bs)), (o, .inr (4, [.int th, .ref bo, .ref po, .int ak', .int su', .int gt', .int lf', .int rf', .int kn'])), (bo, .inl (cI, 6, .inl h)), (po, .inl (cI, 2, .inl j)), (q, .inr (3, [.long (hn_fillMaybe r1 r2 1 f n0), sv]))] H := hP
    have hD : va_D (fun q => s.heap.size ≤ q) [(x, .inr (2, [.ref bx, .ref px, .ref t, .int ak, .int su, .int gt, .int lf, .int rf, .int kn])), (bx, .inl (cI, 6, .inl (hf_fillMaybe r1 r2 1 f))), (px, .inl (cI, 2, .inl g)), (t, .inr (1, [.ref bt, .int 0, .int ml, .int cn])), (bt, .inl (cB, 16, .inl bs)), (o, .inr (4, [.int th, .ref bo, .ref po, .int ak', .int su', .int gt', .int lf', .int rf', .int kn'])), (bo, .inl (cI, 6, .inl h)), (po, .inl (cI, 2, .inl j)), (q, .inr (3, [.long (hn_fillMaybe r1 r2 1 f n0), sv]))] := hD
    refine W.eq (g2 := F0 m 389 ls [.int (hk_fillMaybe r1 r2)]) rfl ?_
    refine lv_istore (lv' := [(5, .int (hk_fillMaybe r1 r2)), (4, .int (nI i)), (3, .ref q), (2, .ref o), (1, .ref x), (0, .ref b)]) FX.1 FX.2.1 dL_law_389 hl (by decide) rfl (fun ls hl => ?_)
    refine lv_aload_n FX.1 FX.2.1 dL_law_391 rfl (lv_at hl 3 rfl) ?_
    refine p_rd (k := 1) (v := r1) FX hX hbl hbA hS (lv_at hl 5 rfl) (lv_at hl 1 rfl) dL_law_392 dL_law_393 dL_law_395 dL_law_396 dL_law_397 rfl hin1 ey1 ?_
    refine p_rd (k := 2) (v := r2) FX hX hbl hbA hS (lv_at hl 5 rfl) (lv_at hl 1 rfl) dL_law_398 dL_law_399 dL_law_401 dL_law_402 dL_law_403 rfl hin2 ey2 ?_
    refine p_rd (k := 3) (v := r3) FX hX hbl hbA hS (lv_at hl 5 rfl) (lv_at hl 1 rfl) dL_law_404 dL_law_405 dL_law_407 dL_law_408 dL_law_409 rfl hin3 ey3 ?_
    refine lv_if_eq (tgt := 417) FX.1 FX.2.1 dL_law_410 (by decide) (fun c_6 => ?_) (fun c_6 => ?_)
    · exact absurd c_6 c_1
    · refine lv_iconst (v := 1) FX.1 FX.2.1 dL_law_413 (by decide) ?_
      refine lv_goto (tgt := 418) FX.1 FX.2.1 dL_law_414 (by decide) ?_
      obtain ⟨eT, eA, hI2⟩ := st_fillMaybe r1 r2 1 n0 hI
      refine c_WRV (wr := [(x, .inr (2, [.ref bx, .ref px, .ref t, .int ak, .int su, .int gt, .int lf, .int rf, .int kn])), (bx, .inl (cI, 6, .inl (hf_fillMaybe r1 r2 1 f))), (px, .inl (cI, 2, .inl g)), (t, .inr (1, [.ref bt, .int 0, .int ml, .int cn])), (bt, .inl (cB, 16, .inl bs)), (q, .inr (3, [.long (hn_fillMaybe r1 r2 1 f n0), sv]))]) (wsN := [(x, .inr (2, [.ref bx, .ref px, .ref t, .int ak, .int su, .int gt, .int lf, .int rf, .int kn])), (bx, .inl (cI, 6, .inl (hf_fillMaybe r1 r2 1 f))), (px, .inl (cI, 2, .inl g)), (t, .inr (1, [.ref bt, .int 0, .int ml, .int cn])), (bt, .inl (cB, 16, .inl bs)), (o, .inr (4, [.int (wth_X2_fillMaybe r1 r2), .ref bo, .ref po, .int ak', .int su', .int gt', .int lf', .int rf', .int kn'])), (bo, .inl (cI, 6, .inl (wf_X2_fillMaybe r1 r2 1 h))), (po, .inl (cI, 2, .inl j)), (q, .inr (3, [.long (hn_fillMaybe r1 r2 1 f n0), sv]))]) (i0 := 5) (ci := 4) FX (k_X2_fillMaybe l D cI cB o bo po th h j ak' su' gt' lf' rf' kn' r1 r2 1) mi_X2_fillMaybe rfl ml_RL_173 (RMok.mk) hl.1 rfl (Nat.le_of_ble_eq_true rfl) dL_law_418 ⟨by omega, by omega⟩ hK hP hD hS hA [5, 6, 7] rfl [0, 1, 2, 3, 4, 8] rfl rfl (by decide) [0, 1, 2, 3, 4, 6, 7, 8, 5] rfl rfl rfl rfl rfl (fun H locs hP hD hS => ?_)
      refine lv_istore (lv' := [(6, .int (v_X2_fillMaybe r1 r2 1)), (5, .int (hk_fillMaybe r1 r2)), (4, .int (nI i)), (3, .ref q), (2, .ref o), (1, .ref x), (0, .ref b)]) FX.1 FX.2.1 dL_law_421 hl (by decide) rfl (fun ls hl => ?_)
      refine lv_aload_n FX.1 FX.2.1 dL_law_423 rfl (lv_at hl 4 rfl) ?_
      refine c_RDV (i0 := 5) (ci := 4) FX (r_X2_thrown l D cI cB o bo po (wth_X2_fillMaybe r1 r2) (wf_X2_fillMaybe r1 r2 1 h) j ak' su' gt' lf' rf' kn') mi_X2_thrown rfl ml_RL_162 (RMok.mk) hl.1 rfl (Nat.le_of_ble_eq_true rfl) dL_law_424 ⟨by omega, by omega⟩ hK hP [5, 6, 7] rfl rfl rfl rfl ?_
      refine lv_iload FX.1 FX.2.1 dL_law_427 (lv_at hl 1 rfl) ?_
      refine lv_icmp_eq (tgt := 434) FX.1 FX.2.1 dL_law_429 (by decide) (fun c_7 => ?_) (fun c_7 => ?_)
      · refine lv_iload FX.1 FX.2.1 dL_law_434 (lv_at hl 1 rfl) ?_
        refine lv_if_ne (tgt := 452) FX.1 FX.2.1 dL_law_436 (by decide) (fun c_8 => ?_) (fun c_8 => ?_)
        · refine lv_goto (tgt := 2982) FX.1 FX.2.1 dL_law_452 (by decide) ?_
          refine W.widen (k := cc + 33) (n := ss + 321) (by omega) (by omega) ?_
          exact kk H locs (hf_fillMaybe r1 r2 1 f) g ak su gt lf rf kn ml cn bs (wth_X2_fillMaybe r1 r2) (wf_X2_fillMaybe r1 r2 1 h) j ak' su' gt' lf' rf' kn' (hn_fillMaybe r1 r2 1 f n0) sv ls hI2 hb hc hP hD hS (lv_sub hl [2, 3, 4, 5, 6] rfl)
        · refine lv_aload_n FX.1 FX.2.1 dL_law_439 rfl (lv_at hl 3 rfl) ?_
          refine p_getN (ci := 3) (v := .long (hn_fillMaybe r1 r2 1 f n0)) FX inX1 hK hP 8 rfl rfl 0 (by decide) hz.1.2.1 rfl dL_law_440 ?_
          refine lv_iload FX.1 FX.2.1 dL_law_443 (lv_at hl 0 rfl) ?_
          refine lv_i2l (v := (v_X2_fillMaybe r1 r2 1).toInt64) FX.1 FX.2.1 dL_law_445 rfl ?_
          refine W.eq (g2 := F0 m 446 ls [.long ((v_X2_fillMaybe r1 r2 1).toInt64), .long ((v_X2_fillMaybe r1 r2 1).toInt64)]) (by rw [eA c_8]) ?_
          refine W.lcmp FX.1 FX.2.1 dL_law_446 ?_
          refine W.eq (g2 := F0 m 447 ls [.int 0]) (by rw [lg_self]) ?_
          refine lv_if_eq (tgt := 452) FX.1 FX.2.1 dL_law_447 (by decide) (fun c_9 => ?_) (fun c_9 => ?_)
          · refine lv_goto (tgt := 2982) FX.1 FX.2.1 dL_law_452 (by decide) ?_
            refine W.widen (k := cc + 33) (n := ss + 321) (by omega) (by omega) ?_
            exact kk H locs (hf_fillMaybe r1 r2 1 f) g ak su gt lf rf kn ml cn bs (wth_X2_fillMaybe r1 r2) (wf_X2_fillMaybe r1 r2 1 h) j ak' su' gt' lf' rf' kn' (hn_fillMaybe r1 r2 1 f n0) sv ls hI2 hb hc hP hD hS (lv_sub hl [2, 3, 4, 5, 6] rfl)
          · exact absurd c_9 (by decide)
      · exact absurd eT c_7
set_option maxRecDepth 100000 in
set_option maxHeartbeats 4000000 in
theorem case_3 {p : Program} {l : Launch} {e : Env} {s : State} {m : MethodId} {below : List Frame} {meth : Method} {c : Code} (hl0 : l.stackTraces = false) (D : va_G) (cI cB : ClassId) (b L : Nat) (xs : Nat → Int32) (x bx px t bt o bo po q : Nat) (to tt : Nat) (go gu : Nat → Int32) (na nv : Nat) (nf : Nat → Int32) (nb nw : Nat) (nh : Nat → Int32) (ea ew : Nat) (ef : Nat → Int32) (i cc ss : Nat) (hi : i + 6 ≤ L) (hcc : cc + 33 ≤ room_1.cells) (hss : ss + 321 ≤ room_1.slots) (hL : L ≤ 6) (FX : CallFix p m c cL_law 7 s #[.ref b] bigW RL) (hK : va_K D KL (TY cI cB) s) (hX : va_X b L xs s s.heap) (hbl : b < s.heap.size) (hz : zLaw to tt go gu na nv nf nb nw nh ea ew ef (fun q => s.heap.size ≤ q) s s.heap) (hfn : sb_Fit nf) (hfe : sb_Fit ef) (hnn : TL 4 nf nh) (kk : LGo p l e s m below meth c D cI cB b x bx px t bt o bo po q i 2982 (cc + 33) (ss + 321)) : LGo p l e s m below meth c D cI cB b x bx px t bt o bo po q i 455 cc ss := by
  intro H locs f g ak su gt lf rf kn ml cn bs th h j ak' su' gt' lf' rf' kn' n0 sv ls hI hb hc hP hD hS hl
  have hA : ∀ q : Nat, s.heap.size ≤ q → s.heap.size ≤ q := fun _ h => h
  have hbA : ¬ (fun q : Nat => s.heap.size ≤ q) b := Nat.not_le.mpr hbl
  obtain ⟨r1, ey1⟩ : ∃ y, xs (i + 1) = y := ⟨_, rfl⟩
  have hin1 : i + 1 < L ∧ L < 2 ^ 31 := ⟨by omega, by omega⟩
  obtain ⟨r2, ey2⟩ : ∃ y, xs (i + 2) = y := ⟨_, rfl⟩
  have hin2 : i + 2 < L ∧ L < 2 ^ 31 := ⟨by omega, by omega⟩
  have hl : lv_has ls 7 [(4, .int (nI i)), (3, .ref q), (2, .ref o), (1, .ref x), (0, .ref b)] := hl
  have hP : va_P D KL [(x, .inr (2, [.ref bx, .ref px, .ref t, .int ak, .int su, .int gt, .int lf, .int rf, .int kn])), (bx, .inl (cI, 6, .inl f)), (px, .inl (cI, 2, .inl g)), (t, .inr (1, [.ref bt, .int 0, .int ml, .int cn])), (bt, .inl (cB, 16, .inl bs)), (o, .inr (4, [.int th, .ref bo, .ref po, .int ak', .int su', .int gt', .int lf', .int rf', .int kn'])), (bo, .inl (cI, 6, .inl h)), (po, .inl (cI, 2, .inl j)), (q, .inr (3, [.long n0, sv]))] H := hP
  have hD : va_D (fun q => s.heap.size ≤ q) [(x, .inr (2, [.ref bx, .ref px, .ref t, .int ak, .int su, .int gt, .int lf, .int rf, .int kn])), (bx, .inl (cI, 6, .inl f)), (px, .inl (cI, 2, .inl g)), (t, .inr (1, [.ref bt, .int 0, .int ml, .int cn])), (bt, .inl (cB, 16, .inl bs)), (o, .inr (4, [.int th, .ref bo, .ref po, .int ak', .int su', .int gt', .int lf', .int rf', .int kn'])), (bo, .inl (cI, 6, .inl h)), (po, .inl (cI, 2, .inl j)), (q, .inr (3, [.long n0, sv]))] := hD
  refine lv_aload_n FX.1 FX.2.1 dL_law_455 rfl (lv_at hl 3 rfl) ?_
  refine p_rd (k := 1) (v := r1) FX hX hbl hbA hS (lv_at hl 4 rfl) (lv_at hl 0 rfl) dL_law_456 dL_law_457 dL_law_459 dL_law_460 dL_law_461 rfl hin1 ey1 ?_
  refine p_rd (k := 2) (v := r2) FX hX hbl hbA hS (lv_at hl 4 rfl) (lv_at hl 0 rfl) dL_law_462 dL_law_463 dL_law_465 dL_law_466 dL_law_467 rfl hin2 ey2 ?_
  refine lv_aload_n FX.1 FX.2.1 dL_law_468 rfl (lv_at hl 1 rfl) ?_
  refine c_J (W0 := [(x, .inr (2, [.ref bx, .ref px, .ref t, .int ak, .int su, .int gt, .int lf, .int rf, .int kn])), (bx, .inl (cI, 6, .inl f)), (px, .inl (cI, 2, .inl g)), (q, .inr (3, [.long n0, sv]))]) (wr := [(t, .inr (1, [.ref bt, .int 0, .int ml, .int cn])), (bt, .inl (cB, 16, .inl bs)), (o, .inr (4, [.int th, .ref bo, .ref po, .int ak', .int su', .int gt', .int lf', .int rf', .int kn'])), (bo, .inl (cI, 6, .inl h)), (po, .inl (cI, 2, .inl j))]) (wsN := fun _ => [(x, .inr (2, [.ref bx, .ref px, .ref t, .int ak, .int su, .int gt, .int lf, .int rf, .int kn])), (bx, .inl (cI, 6, .inl (hf_copy r1 r2 f))), (px, .inl (cI, 2, .inl g)), (t, .inr (1, [.ref bt, .int 0, .int ml, .int cn])), (bt, .inl (cB, 16, .inl bs)), (o, .inr (4, [.int th, .ref bo, .ref po, .int ak', .int su', .int gt', .int lf', .int rf', .int kn'])), (bo, .inl (cI, 6, .inl h)), (po, .inl (cI, 2, .inl j)), (q, .inr (3, [.long (hn_copy r1 r2 f n0), sv]))]) (vx_runSW FX ((j_L_copy l hl0 D cI cB x bx px t f g ak su gt lf rf kn q n0 sv r1 r2) H.size) (my_cwSW FX.2.2.2.2 mh_L_copy ml_RL_174 (RMok.mk)) ⟨PJ.blind (zAnd_ok (zAnd_ok zz_ok zN_ok) zF_ok), fun U hU hW => ⟨rfl, my_preJ (zAnd_ok (zAnd_ok zz_ok zN_ok) zF_ok) ⟨hz.1.1, hz.1.2.1⟩ hS hA hK hP hD [0, 1, 2, 8] rfl rfl U hU hW⟩⟩ rfl rfl hl.1 rfl (lv_room (Nat.le_of_ble_eq_true rfl)) dL_law_469 ⟨by omega, by omega⟩) hP hD hS hA [0, 1, 2, 8] rfl [3, 4, 5, 6, 7] rfl (by decide) [5, 6, 7, 0, 1, 2, 3, 4, 8] (fun _ => rfl) rfl (fun u1 H locs hp_1 hP hD hS => ?_)
  have hP : va_P D KL [(x, .inr (2, [.ref bx, .ref px, .ref t, .int ak, .int su, .int gt, .int lf, .int rf, .int kn])), (bx, .inl (cI, 6, .inl (hf_copy r1 r2 f))), (px, .inl (cI, 2, .inl g)), (t, .inr (1, [.ref bt, .int 0, .int ml, .int cn])), (bt, .inl (cB, 16, .inl bs)), (o, .inr (4, [.int th, .ref bo, .ref po, .int ak', .int su', .int gt', .int lf', .int rf', .int kn'])), (bo, .inl (cI, 6, .inl h)), (po, .inl (cI, 2, .inl j)), (q, .inr (3, [.long (hn_copy r1 r2 f n0), sv]))] H := hP
  have hD : va_D (fun q => s.heap.size ≤ q) [(x, .inr (2, [.ref bx, .ref px, .ref t, .int ak, .int su, .int gt, .int lf, .int rf, .int kn])), (bx, .inl (cI, 6, .inl (hf_copy r1 r2 f))), (px, .inl (cI, 2, .inl g)), (t, .inr (1, [.ref bt, .int 0, .int ml, .int cn])), (bt, .inl (cB, 16, .inl bs)), (o, .inr (4, [.int th, .ref bo, .ref po, .int ak', .int su', .int gt', .int lf', .int rf', .int kn'])), (bo, .inl (cI, 6, .inl h)), (po, .inl (cI, 2, .inl j)), (q, .inr (3, [.long (hn_copy r1 r2 f n0), sv]))] := hD
  refine W.eq (g2 := F0 m 472 ls [.int (hk_copy r1 r2)]) rfl ?_
  refine lv_istore (lv' := [(5, .int (hk_copy r1 r2)), (4, .int (nI i)), (3, .ref q), (2, .ref o), (1, .ref x), (0, .ref b)]) FX.1 FX.2.1 dL_law_472 hl (by decide) rfl (fun ls hl => ?_)
  refine lv_aload_n FX.1 FX.2.1 dL_law_474 rfl (lv_at hl 3 rfl) ?_
  refine p_rd (k := 1) (v := r1) FX hX hbl hbA hS (lv_at hl 5 rfl) (lv_at hl 1 rfl) dL_law_475 dL_law_476 dL_law_478 dL_law_479 dL_law_480 rfl hin1 ey1 ?_
  refine p_rd (k := 2) (v := r2) FX hX hbl hbA hS (lv_at hl 5 rfl) (lv_at hl 1 rfl) dL_law_481 dL_law_482 dL_law_484 dL_law_485 dL_law_486 rfl hin2 ey2 ?_
  obtain ⟨eT, eA, hI2⟩ := st_copy r1 r2 n0 hI
  refine c_WRV (wr := [(x, .inr (2, [.ref bx, .ref px, .ref t, .int ak, .int su, .int gt, .int lf, .int rf, .int kn])), (bx, .inl (cI, 6, .inl (hf_copy r1 r2 f))), (px, .inl (cI, 2, .inl g)), (t, .inr (1, [.ref bt, .int 0, .int ml, .int cn])), (bt, .inl (cB, 16, .inl bs)), (q, .inr (3, [.long (hn_copy r1 r2 f n0), sv]))]) (wsN := [(x, .inr (2, [.ref bx, .ref px, .ref t, .int ak, .int su, .int gt, .int lf, .int rf, .int kn])), (bx, .inl (cI, 6, .inl (hf_copy r1 r2 f))), (px, .inl (cI, 2, .inl g)), (t, .inr (1, [.ref bt, .int 0, .int ml, .int cn])), (bt, .inl (cB, 16, .inl bs)), (o, .inr (4, [.int (wth_X2_copy r1 r2), .ref bo, .ref po, .int ak', .int su', .int gt', .int lf', .int rf', .int kn'])), (bo, .inl (cI, 6, .inl (wf_X2_copy r1 r2 h))), (po, .inl (cI, 2, .inl j)), (q, .inr (3, [.long (hn_copy r1 r2 f n0), sv]))]) (i0 := 5) (ci := 4) FX (k_X2_copy l D cI cB o bo po th h j ak' su' gt' lf' rf' kn' r1 r2) mi_X2_copy rfl ml_RL_176 (RMok.mk) hl.1 rfl (Nat.le_of_ble_eq_true rfl) dL_law_487 ⟨by omega, by omega⟩ hK hP hD hS hA [5, 6, 7] rfl [0, 1, 2, 3, 4, 8] rfl rfl (by decide) [0, 1, 2, 3, 4, 6, 7, 8, 5] rfl rfl rfl rfl rfl (fun H locs hP hD hS => ?_)
  refine lv_istore (lv' := [(6, .int (v_X2_copy r1 r2 h)), (5, .int (hk_copy r1 r2)), (4, .int (nI i)), (3, .ref q), (2, .ref o), (1, .ref x), (0, .ref b)]) FX.1 FX.2.1 dL_law_490 hl (by decide) rfl (fun ls hl => ?_)
  refine lv_aload_n FX.1 FX.2.1 dL_law_492 rfl (lv_at hl 4 rfl) ?_
  refine c_RDV (i0 := 5) (ci := 4) FX (r_X2_thrown l D cI cB o bo po (wth_X2_copy r1 r2) (wf_X2_copy r1 r2 h) j ak' su' gt' lf' rf' kn') mi_X2_thrown rfl ml_RL_162 (RMok.mk) hl.1 rfl (Nat.le_of_ble_eq_true rfl) dL_law_493 ⟨by omega, by omega⟩ hK hP [5, 6, 7] rfl rfl rfl rfl ?_
  refine lv_iload FX.1 FX.2.1 dL_law_496 (lv_at hl 1 rfl) ?_
  refine lv_icmp_eq (tgt := 503) FX.1 FX.2.1 dL_law_498 (by decide) (fun c_1 => ?_) (fun c_1 => ?_)
  · refine lv_iload FX.1 FX.2.1 dL_law_503 (lv_at hl 1 rfl) ?_
    refine lv_if_ne (tgt := 521) FX.1 FX.2.1 dL_law_505 (by decide) (fun c_2 => ?_) (fun c_2 => ?_)
    · refine lv_goto (tgt := 2982) FX.1 FX.2.1 dL_law_521 (by decide) ?_
      refine W.widen (k := cc + 33) (n := ss + 321) (by omega) (by omega) ?_
      exact kk H locs (hf_copy r1 r2 f) g ak su gt lf rf kn ml cn bs (wth_X2_copy r1 r2) (wf_X2_copy r1 r2 h) j ak' su' gt' lf' rf' kn' (hn_copy r1 r2 f n0) sv ls hI2 hb hc hP hD hS (lv_sub hl [2, 3, 4, 5, 6] rfl)
    · refine lv_aload_n FX.1 FX.2.1 dL_law_508 rfl (lv_at hl 3 rfl) ?_
      refine p_getN (ci := 3) (v := .long (hn_copy r1 r2 f n0)) FX inX1 hK hP 8 rfl rfl 0 (by decide) hz.1.2.1 rfl dL_law_509 ?_
      refine lv_iload FX.1 FX.2.1 dL_law_512 (lv_at hl 0 rfl) ?_
      refine lv_i2l (v := (v_X2_copy r1 r2 h).toInt64) FX.1 FX.2.1 dL_law_514 rfl ?_
      refine W.eq (g2 := F0 m 515 ls [.long ((v_X2_copy r1 r2 h).toInt64), .long ((v_X2_copy r1 r2 h).toInt64)]) (by rw [eA c_2]) ?_
      refine W.lcmp FX.1 FX.2.1 dL_law_515 ?_
      refine W.eq (g2 := F0 m 516 ls [.int 0]) (by rw [lg_self]) ?_
      refine lv_if_eq (tgt := 521) FX.1 FX.2.1 dL_law_516 (by decide) (fun c_3 => ?_) (fun c_3 => ?_)
      · refine lv_goto (tgt := 2982) FX.1 FX.2.1 dL_law_521 (by decide) ?_
        refine W.widen (k := cc + 33) (n := ss + 321) (by omega) (by omega) ?_
        exact kk H locs (hf_copy r1 r2 f) g ak su gt lf rf kn ml cn bs (wth_X2_copy r1 r2) (wf_X2_copy r1 r2 h) j ak' su' gt' lf' rf' kn' (hn_copy r1 r2 f n0) sv ls hI2 hb hc hP hD hS (lv_sub hl [2, 3, 4, 5, 6] rfl)
      · exact absurd c_3 (by decide)
  · exact absurd eT c_1
set_option maxRecDepth 100000 in
set_option maxHeartbeats 4000000 in
theorem case_4 {p : Program} {l : Launch} {e : Env} {s : State} {m : MethodId} {below : List Frame} {meth : Method} {c : Code} (hl0 : l.stackTraces = false) (D : va_G) (cI cB : ClassId) (b L : Nat) (xs : Nat → Int32) (x bx px t bt o bo po q : Nat) (to tt : Nat) (go gu : Nat → Int32) (na nv : Nat) (nf : Nat → Int32) (nb nw : Nat) (nh : Nat → Int32) (ea ew : Nat) (ef : Nat → Int32) (i cc ss : Nat) (hi : i + 6 ≤ L) (hcc : cc + 33 ≤ room_1.cells) (hss : ss + 321 ≤ room_1.slots) (hL : L ≤ 6) (FX : CallFix p m c cL_law 7 s #[.ref b] bigW RL) (hK : va_K D KL (TY cI cB) s) (hX : va_X b L xs s s.heap) (hbl : b < s.heap.size) (hz : zLaw to tt go gu na nv nf nb nw nh ea ew ef (fun q => s.heap.size ≤ q) s s.heap) (hfn : sb_Fit nf) (hfe : sb_Fit ef) (hnn : TL 4 nf nh) (kk : LGo p l e s m below meth c D cI cB b x bx px t bt o bo po q i 2982 (cc + 33) (ss + 321)) : LGo p l e s m below meth c D cI cB b x bx px t bt o bo po q i 524 cc ss := by
  intro H locs f g ak su gt lf rf kn ml cn bs th h j ak' su' gt' lf' rf' kn' n0 sv ls hI hb hc hP hD hS hl
  have hA : ∀ q : Nat, s.heap.size ≤ q → s.heap.size ≤ q := fun _ h => h
  have hbA : ¬ (fun q : Nat => s.heap.size ≤ q) b := Nat.not_le.mpr hbl
  obtain ⟨r1, ey1⟩ : ∃ y, xs (i + 1) = y := ⟨_, rfl⟩
  have hin1 : i + 1 < L ∧ L < 2 ^ 31 := ⟨by omega, by omega⟩
  obtain ⟨r2, ey2⟩ : ∃ y, xs (i + 2) = y := ⟨_, rfl⟩
  have hin2 : i + 2 < L ∧ L < 2 ^ 31 := ⟨by omega, by omega⟩
  obtain ⟨r3, ey3⟩ : ∃ y, xs (i + 3) = y := ⟨_, rfl⟩
  have hin3 : i + 3 < L ∧ L < 2 ^ 31 := ⟨by omega, by omega⟩
  obtain ⟨r4, ey4⟩ : ∃ y, xs (i + 4) = y := ⟨_, rfl⟩
  have hin4 : i + 4 < L ∧ L < 2 ^ 31 := ⟨by omega, by omega⟩
  have hl : lv_has ls 7 [(4, .int (nI i)), (3, .ref q), (2, .ref o), (1, .ref x), (0, .ref b)] := hl
  have hP : va_P D KL [(x, .inr (2, [.ref bx, .ref px, .ref t, .int ak, .int su, .int gt, .int lf, .int rf, .int kn])), (bx, .inl (cI, 6, .inl f)), (px, .inl (cI, 2, .inl g)), (t, .inr (1, [.ref bt, .int 0, .int ml, .int cn])), (bt, .inl (cB, 16, .inl bs)), (o, .inr (4, [.int th, .ref bo, .ref po, .int ak', .int su', .int gt', .int lf', .int rf', .int kn'])), (bo, .inl (cI, 6, .inl h)), (po, .inl (cI, 2, .inl j)), (q, .inr (3, [.long n0, sv]))] H := hP
  have hD : va_D (fun q => s.heap.size ≤ q) [(x, .inr (2, [.ref bx, .ref px, .ref t, .int ak, .int su, .int gt, .int lf, .int rf, .int kn])), (bx, .inl (cI, 6, .inl f)), (px, .inl (cI, 2, .inl g)), (t, .inr (1, [.ref bt, .int 0, .int ml, .int cn])), (bt, .inl (cB, 16, .inl bs)), (o, .inr (4, [.int th, .ref bo, .ref po, .int ak', .int su', .int gt', .int lf', .int rf', .int kn'])), (bo, .inl (cI, 6, .inl h)), (po, .inl (cI, 2, .inl j)), (q, .inr (3, [.long n0, sv]))] := hD
  refine lv_aload_n FX.1 FX.2.1 dL_law_524 rfl (lv_at hl 3 rfl) ?_
  refine p_rd (k := 1) (v := r1) FX hX hbl hbA hS (lv_at hl 4 rfl) (lv_at hl 0 rfl) dL_law_525 dL_law_526 dL_law_528 dL_law_529 dL_law_530 rfl hin1 ey1 ?_
  refine p_rd (k := 2) (v := r2) FX hX hbl hbA hS (lv_at hl 4 rfl) (lv_at hl 0 rfl) dL_law_531 dL_law_532 dL_law_534 dL_law_535 dL_law_536 rfl hin2 ey2 ?_
  refine p_rd (k := 3) (v := r3) FX hX hbl hbA hS (lv_at hl 4 rfl) (lv_at hl 0 rfl) dL_law_537 dL_law_538 dL_law_540 dL_law_541 dL_law_542 rfl hin3 ey3 ?_
  refine p_rd (k := 4) (v := r4) FX hX hbl hbA hS (lv_at hl 4 rfl) (lv_at hl 0 rfl) dL_law_543 dL_law_544 dL_law_546 dL_law_547 dL_law_548 rfl hin4 ey4 ?_
  refine lv_aload_n FX.1 FX.2.1 dL_law_549 rfl (lv_at hl 1 rfl) ?_
  refine c_J (W0 := [(x, .inr (2, [.ref bx, .ref px, .ref t, .int ak, .int su, .int gt, .int lf, .int rf, .int kn])), (bx, .inl (cI, 6, .inl f)), (px, .inl (cI, 2, .inl g)), (q, .inr (3, [.long n0, sv]))]) (wr := [(t, .inr (1, [.ref bt, .int 0, .int ml, .int cn])), (bt, .inl (cB, 16, .inl bs)), (o, .inr (4, [.int th, .ref bo, .ref po, .int ak', .int su', .int gt', .int lf', .int rf', .int kn'])), (bo, .inl (cI, 6, .inl h)), (po, .inl (cI, 2, .inl j))]) (wsN := fun _ => [(x, .inr (2, [.ref bx, .ref px, .ref t, .int (hak_map r1 r2 r3 r4 f ak), .int su, .int gt, .int lf, .int rf, .int kn])), (bx, .inl (cI, 6, .inl (hf_map r1 r2 r3 r4 f))), (px, .inl (cI, 2, .inl g)), (t, .inr (1, [.ref bt, .int 0, .int ml, .int cn])), (bt, .inl (cB, 16, .inl bs)), (o, .inr (4, [.int th, .ref bo, .ref po, .int ak', .int su', .int gt', .int lf', .int rf', .int kn'])), (bo, .inl (cI, 6, .inl h)), (po, .inl (cI, 2, .inl j)), (q, .inr (3, [.long (hn_map r1 r2 r3 r4 f n0), sv]))]) (vx_runSW FX ((j_L_map l hl0 D cI cB x bx px t f g ak su gt lf rf kn q n0 sv r1 r2 r3 r4) H.size) (my_cwSW FX.2.2.2.2 mh_L_map ml_RL_177 (RMok.mk)) ⟨PJ.blind (zAnd_ok (zAnd_ok zz_ok zN_ok) zF_ok), fun U hU hW => ⟨rfl, my_preJ (zAnd_ok (zAnd_ok zz_ok zN_ok) zF_ok) ⟨hz.1.1, hz.1.2.1⟩ hS hA hK hP hD [0, 1, 2, 8] rfl rfl U hU hW⟩⟩ rfl rfl hl.1 rfl (lv_room (Nat.le_of_ble_eq_true rfl)) dL_law_550 ⟨by omega, by omega⟩) hP hD hS hA [0, 1, 2, 8] rfl [3, 4, 5, 6, 7] rfl (by decide) [5, 6, 7, 0, 1, 2, 3, 4, 8] (fun _ => rfl) rfl (fun u1 H locs hp_1 hP hD hS => ?_)
  have hP : va_P D KL [(x, .inr (2, [.ref bx, .ref px, .ref t, .int (hak_map r1 r2 r3 r4 f ak), .int su, .int gt, .int lf, .int rf, .int kn])), (bx, .inl (cI, 6, .inl (hf_map r1 r2 r3 r4 f))), (px, .inl (cI, 2, .inl g)), (t, .inr (1, [.ref bt, .int 0, .int ml, .int cn])), (bt, .inl (cB, 16, .inl bs)), (o, .inr (4, [.int th, .ref bo, .ref po, .int ak', .int su', .int gt', .int lf', .int rf', .int kn'])), (bo, .inl (cI, 6, .inl h)), (po, .inl (cI, 2, .inl j)), (q, .inr (3, [.long (hn_map r1 r2 r3 r4 f n0), sv]))] H := hP
  have hD : va_D (fun q => s.heap.size ≤ q) [(x, .inr (2, [.ref bx, .ref px, .ref t, .int (hak_map r1 r2 r3 r4 f ak), .int su, .int gt, .int lf, .int rf, .int kn])), (bx, .inl (cI, 6, .inl (hf_map r1 r2 r3 r4 f))), (px, .inl (cI, 2, .inl g)), (t, .inr (1, [.ref bt, .int 0, .int ml, .int cn])), (bt, .inl (cB, 16, .inl bs)), (o, .inr (4, [.int th, .ref bo, .ref po, .int ak', .int su', .int gt', .int lf', .int rf', .int kn'])), (bo, .inl (cI, 6, .inl h)), (po, .inl (cI, 2, .inl j)), (q, .inr (3, [.long (hn_map r1 r2 r3 r4 f n0), sv]))] := hD
  refine W.eq (g2 := F0 m 553 ls [.int (hk_map r1 r2 r3 r4)]) rfl ?_
  refine lv_istore (lv' := [(5, .int (hk_map r1 r2 r3 r4)), (4, .int (nI i)), (3, .ref q), (2, .ref o), (1, .ref x), (0, .ref b)]) FX.1 FX.2.1 dL_law_553 hl (by decide) rfl (fun ls hl => ?_)
  refine lv_aload_n FX.1 FX.2.1 dL_law_555 rfl (lv_at hl 3 rfl) ?_
  refine p_rd (k := 1) (v := r1) FX hX hbl hbA hS (lv_at hl 5 rfl) (lv_at hl 1 rfl) dL_law_556 dL_law_557 dL_law_559 dL_law_560 dL_law_561 rfl hin1 ey1 ?_
  refine p_rd (k := 2) (v := r2) FX hX hbl hbA hS (lv_at hl 5 rfl) (lv_at hl 1 rfl) dL_law_562 dL_law_563 dL_law_565 dL_law_566 dL_law_567 rfl hin2 ey2 ?_
  refine p_rd (k := 3) (v := r3) FX hX hbl hbA hS (lv_at hl 5 rfl) (lv_at hl 1 rfl) dL_law_568 dL_law_569 dL_law_571 dL_law_572 dL_law_573 rfl hin3 ey3 ?_
  refine p_rd (k := 4) (v := r4) FX hX hbl hbA hS (lv_at hl 5 rfl) (lv_at hl 1 rfl) dL_law_574 dL_law_575 dL_law_577 dL_law_578 dL_law_579 rfl hin4 ey4 ?_
  obtain ⟨eT, eA, hI2⟩ := st_map r1 r2 r3 r4 n0 hI
  refine c_WRV (wr := [(x, .inr (2, [.ref bx, .ref px, .ref t, .int (hak_map r1 r2 r3 r4 f ak), .int su, .int gt, .int lf, .int rf, .int kn])), (bx, .inl (cI, 6, .inl (hf_map r1 r2 r3 r4 f))), (px, .inl (cI, 2, .inl g)), (t, .inr (1, [.ref bt, .int 0, .int ml, .int cn])), (bt, .inl (cB, 16, .inl bs)), (q, .inr (3, [.long (hn_map r1 r2 r3 r4 f n0), sv]))]) (wsN := [(x, .inr (2, [.ref bx, .ref px, .ref t, .int (hak_map r1 r2 r3 r4 f ak), .int su, .int gt, .int lf, .int rf, .int kn])), (bx, .inl (cI, 6, .inl (hf_map r1 r2 r3 r4 f))), (px, .inl (cI, 2, .inl g)), (t, .inr (1, [.ref bt, .int 0, .int ml, .int cn])), (bt, .inl (cB, 16, .inl bs)), (o, .inr (4, [.int (wth_X2_map r1 r2 r3 r4), .ref bo, .ref po, .int (wak_X2_map r1 r2 r3 r4 h ak'), .int su', .int gt', .int lf', .int rf', .int kn'])), (bo, .inl (cI, 6, .inl (wf_X2_map r1 r2 r3 r4 h))), (po, .inl (cI, 2, .inl j)), (q, .inr (3, [.long (hn_map r1 r2 r3 r4 f n0), sv]))]) (i0 := 5) (ci := 4) FX (k_X2_map l D cI cB o bo po th h j ak' su' gt' lf' rf' kn' r1 r2 r3 r4) mi_X2_map rfl ml_RL_180 (RMok.mk) hl.1 rfl (Nat.le_of_ble_eq_true rfl) dL_law_580 ⟨by omega, by omega⟩ hK hP hD hS hA [5, 6, 7] rfl [0, 1, 2, 3, 4, 8] rfl rfl (by decide) [0, 1, 2, 3, 4, 6, 7, 8, 5] rfl rfl rfl rfl rfl (fun H locs hP hD hS => ?_)
  refine lv_istore (lv' := [(6, .int (v_X2_map r1 r2 r3 r4 h)), (5, .int (hk_map r1 r2 r3 r4)), (4, .int (nI i)), (3, .ref q), (2, .ref o), (1, .ref x), (0, .ref b)]) FX.1 FX.2.1 dL_law_583 hl (by decide) rfl (fun ls hl => ?_)
  refine lv_aload_n FX.1 FX.2.1 dL_law_585 rfl (lv_at hl 4 rfl) ?_
  refine c_RDV (i0 := 5) (ci := 4) FX (r_X2_thrown l D cI cB o bo po (wth_X2_map r1 r2 r3 r4) (wf_X2_map r1 r2 r3 r4 h) j (wak_X2_map r1 r2 r3 r4 h ak') su' gt' lf' rf' kn') mi_X2_thrown rfl ml_RL_162 (RMok.mk) hl.1 rfl (Nat.le_of_ble_eq_true rfl) dL_law_586 ⟨by omega, by omega⟩ hK hP [5, 6, 7] rfl rfl rfl rfl ?_
  refine lv_iload FX.1 FX.2.1 dL_law_589 (lv_at hl 1 rfl) ?_
  refine lv_icmp_eq (tgt := 596) FX.1 FX.2.1 dL_law_591 (by decide) (fun c_1 => ?_) (fun c_1 => ?_)
  · refine lv_iload FX.1 FX.2.1 dL_law_596 (lv_at hl 1 rfl) ?_
    refine lv_if_ne (tgt := 614) FX.1 FX.2.1 dL_law_598 (by decide) (fun c_2 => ?_) (fun c_2 => ?_)
    · refine lv_goto (tgt := 2982) FX.1 FX.2.1 dL_law_614 (by decide) ?_
      refine W.widen (k := cc + 33) (n := ss + 321) (by omega) (by omega) ?_
      exact kk H locs (hf_map r1 r2 r3 r4 f) g (hak_map r1 r2 r3 r4 f ak) su gt lf rf kn ml cn bs (wth_X2_map r1 r2 r3 r4) (wf_X2_map r1 r2 r3 r4 h) j (wak_X2_map r1 r2 r3 r4 h ak') su' gt' lf' rf' kn' (hn_map r1 r2 r3 r4 f n0) sv ls hI2 hb hc hP hD hS (lv_sub hl [2, 3, 4, 5, 6] rfl)
    · refine lv_aload_n FX.1 FX.2.1 dL_law_601 rfl (lv_at hl 3 rfl) ?_
      refine p_getN (ci := 3) (v := .long (hn_map r1 r2 r3 r4 f n0)) FX inX1 hK hP 8 rfl rfl 0 (by decide) hz.1.2.1 rfl dL_law_602 ?_
      refine lv_iload FX.1 FX.2.1 dL_law_605 (lv_at hl 0 rfl) ?_
      refine lv_i2l (v := (v_X2_map r1 r2 r3 r4 h).toInt64) FX.1 FX.2.1 dL_law_607 rfl ?_
      refine W.eq (g2 := F0 m 608 ls [.long ((v_X2_map r1 r2 r3 r4 h).toInt64), .long ((v_X2_map r1 r2 r3 r4 h).toInt64)]) (by rw [eA c_2]) ?_
      refine W.lcmp FX.1 FX.2.1 dL_law_608 ?_
      refine W.eq (g2 := F0 m 609 ls [.int 0]) (by rw [lg_self]) ?_
      refine lv_if_eq (tgt := 614) FX.1 FX.2.1 dL_law_609 (by decide) (fun c_3 => ?_) (fun c_3 => ?_)
      · refine lv_goto (tgt := 2982) FX.1 FX.2.1 dL_law_614 (by decide) ?_
        refine W.widen (k := cc + 33) (n := ss + 321) (by omega) (by omega) ?_
        exact kk H locs (hf_map r1 r2 r3 r4 f) g (hak_map r1 r2 r3 r4 f ak) su gt lf rf kn ml cn bs (wth_X2_map r1 r2 r3 r4) (wf_X2_map r1 r2 r3 r4 h) j (wak_X2_map r1 r2 r3 r4 h ak') su' gt' lf' rf' kn' (hn_map r1 r2 r3 r4 f n0) sv ls hI2 hb hc hP hD hS (lv_sub hl [2, 3, 4, 5, 6] rfl)
      · exact absurd c_3 (by decide)
  · exact absurd eT c_1
set_option maxRecDepth 100000 in
set_option maxHeartbeats 4000000 in
theorem case_5 {p : Program} {l : Launch} {e : Env} {s : State} {m : MethodId} {below : List Frame} {meth : Method} {c : Code} (hl0 : l.stackTraces = false) (D : va_G) (cI cB : ClassId) (b L : Nat) (xs : Nat → Int32) (x bx px t bt o bo po q : Nat) (to tt : Nat) (go gu : Nat → Int32) (na nv : Nat) (nf : Nat → Int32) (nb nw : Nat) (nh : Nat → Int32) (ea ew : Nat) (ef : Nat → Int32) (i cc ss : Nat) (hi : i + 6 ≤ L) (hcc : cc + 33 ≤ room_1.cells) (hss : ss + 321 ≤ room_1.slots) (hL : L ≤ 6) (FX : CallFix p m c cL_law 7 s #[.ref b] bigW RL) (hK : va_K D KL (TY cI cB) s) (hX : va_X b L xs s s.heap) (hbl : b < s.heap.size) (hz : zLaw to tt go gu na nv nf nb nw nh ea ew ef (fun q => s.heap.size ≤ q) s s.heap) (hfn : sb_Fit nf) (hfe : sb_Fit ef) (hnn : TL 4 nf nh) (kk : LGo p l e s m below meth c D cI cB b x bx px t bt o bo po q i 2982 (cc + 33) (ss + 321)) : LGo p l e s m below meth c D cI cB b x bx px t bt o bo po q i 617 cc ss := by
  intro H locs f g ak su gt lf rf kn ml cn bs th h j ak' su' gt' lf' rf' kn' n0 sv ls hI hb hc hP hD hS hl
  have hA : ∀ q : Nat, s.heap.size ≤ q → s.heap.size ≤ q := fun _ h => h
  have hbA : ¬ (fun q : Nat => s.heap.size ≤ q) b := Nat.not_le.mpr hbl
  obtain ⟨r1, ey1⟩ : ∃ y, xs (i + 1) = y := ⟨_, rfl⟩
  have hin1 : i + 1 < L ∧ L < 2 ^ 31 := ⟨by omega, by omega⟩
  obtain ⟨r2, ey2⟩ : ∃ y, xs (i + 2) = y := ⟨_, rfl⟩
  have hin2 : i + 2 < L ∧ L < 2 ^ 31 := ⟨by omega, by omega⟩
  obtain ⟨r3, ey3⟩ : ∃ y, xs (i + 3) = y := ⟨_, rfl⟩
  have hin3 : i + 3 < L ∧ L < 2 ^ 31 := ⟨by omega, by omega⟩
  obtain ⟨r4, ey4⟩ : ∃ y, xs (i + 4) = y := ⟨_, rfl⟩
  have hin4 : i + 4 < L ∧ L < 2 ^ 31 := ⟨by omega, by omega⟩
  have hl : lv_has ls 7 [(4, .int (nI i)), (3, .ref q), (2, .ref o), (1, .ref x), (0, .ref b)] := hl
  have hP : va_P D KL [(x, .inr (2, [.ref bx, .ref px, .ref t, .int ak, .int su, .int gt, .int lf, .int rf, .int kn])), (bx, .inl (cI, 6, .inl f)), (px, .inl (cI, 2, .inl g)), (t, .inr (1, [.ref bt, .int 0, .int ml, .int cn])), (bt, .inl (cB, 16, .inl bs)), (o, .inr (4, [.int th, .ref bo, .ref po, .int ak', .int su', .int gt', .int lf', .int rf', .int kn'])), (bo, .inl (cI, 6, .inl h)), (po, .inl (cI, 2, .inl j)), (q, .inr (3, [.long n0, sv]))] H := hP
  have hD : va_D (fun q => s.heap.size ≤ q) [(x, .inr (2, [.ref bx, .ref px, .ref t, .int ak, .int su, .int gt, .int lf, .int rf, .int kn])), (bx, .inl (cI, 6, .inl f)), (px, .inl (cI, 2, .inl g)), (t, .inr (1, [.ref bt, .int 0, .int ml, .int cn])), (bt, .inl (cB, 16, .inl bs)), (o, .inr (4, [.int th, .ref bo, .ref po, .int ak', .int su', .int gt', .int lf', .int rf', .int kn'])), (bo, .inl (cI, 6, .inl h)), (po, .inl (cI, 2, .inl j)), (q, .inr (3, [.long n0, sv]))] := hD
  refine lv_aload_n FX.1 FX.2.1 dL_law_617 rfl (lv_at hl 3 rfl) ?_
  refine p_rd (k := 1) (v := r1) FX hX hbl hbA hS (lv_at hl 4 rfl) (lv_at hl 0 rfl) dL_law_618 dL_law_619 dL_law_621 dL_law_622 dL_law_623 rfl hin1 ey1 ?_
  refine p_rd (k := 2) (v := r2) FX hX hbl hbA hS (lv_at hl 4 rfl) (lv_at hl 0 rfl) dL_law_624 dL_law_625 dL_law_627 dL_law_628 dL_law_629 rfl hin2 ey2 ?_
  refine p_rd (k := 3) (v := r3) FX hX hbl hbA hS (lv_at hl 4 rfl) (lv_at hl 0 rfl) dL_law_630 dL_law_631 dL_law_633 dL_law_634 dL_law_635 rfl hin3 ey3 ?_
  refine p_rd (k := 4) (v := r4) FX hX hbl hbA hS (lv_at hl 4 rfl) (lv_at hl 0 rfl) dL_law_636 dL_law_637 dL_law_639 dL_law_640 dL_law_641 rfl hin4 ey4 ?_
  refine lv_aload_n FX.1 FX.2.1 dL_law_642 rfl (lv_at hl 1 rfl) ?_
  refine c_J (W0 := [(x, .inr (2, [.ref bx, .ref px, .ref t, .int ak, .int su, .int gt, .int lf, .int rf, .int kn])), (bx, .inl (cI, 6, .inl f)), (px, .inl (cI, 2, .inl g)), (q, .inr (3, [.long n0, sv]))]) (wr := [(t, .inr (1, [.ref bt, .int 0, .int ml, .int cn])), (bt, .inl (cB, 16, .inl bs)), (o, .inr (4, [.int th, .ref bo, .ref po, .int ak', .int su', .int gt', .int lf', .int rf', .int kn'])), (bo, .inl (cI, 6, .inl h)), (po, .inl (cI, 2, .inl j))]) (wsN := fun _ => [(x, .inr (2, [.ref bx, .ref px, .ref t, .int (hak_turn r1 r2 r3 r4 f ak), .int su, .int gt, .int lf, .int rf, .int kn])), (bx, .inl (cI, 6, .inl (hf_turn r1 r2 r3 r4 f))), (px, .inl (cI, 2, .inl g)), (t, .inr (1, [.ref bt, .int 0, .int ml, .int cn])), (bt, .inl (cB, 16, .inl bs)), (o, .inr (4, [.int th, .ref bo, .ref po, .int ak', .int su', .int gt', .int lf', .int rf', .int kn'])), (bo, .inl (cI, 6, .inl h)), (po, .inl (cI, 2, .inl j)), (q, .inr (3, [.long (hn_turn r1 r2 r3 r4 f n0), sv]))]) (vx_runSW FX ((j_L_turn l hl0 D cI cB x bx px t f g ak su gt lf rf kn q n0 sv r1 r2 r3 r4) H.size) (my_cwSW FX.2.2.2.2 mh_L_turn ml_RL_181 (RMok.mk)) ⟨PJ.blind (zAnd_ok (zAnd_ok zz_ok zN_ok) zF_ok), fun U hU hW => ⟨rfl, my_preJ (zAnd_ok (zAnd_ok zz_ok zN_ok) zF_ok) ⟨hz.1.1, hz.1.2.1⟩ hS hA hK hP hD [0, 1, 2, 8] rfl rfl U hU hW⟩⟩ rfl rfl hl.1 rfl (lv_room (Nat.le_of_ble_eq_true rfl)) dL_law_643 ⟨by omega, by omega⟩) hP hD hS hA [0, 1, 2, 8] rfl [3, 4, 5, 6, 7] rfl (by decide) [5, 6, 7, 0, 1, 2, 3, 4, 8] (fun _ => rfl) rfl (fun u1 H locs hp_1 hP hD hS => ?_)
  have hP : va_P D KL [(x, .inr (2, [.ref bx, .ref px, .ref t, .int (hak_turn r1 r2 r3 r4 f ak), .int su, .int gt, .int lf, .int rf, .int kn])), (bx, .inl (cI, 6, .inl (hf_turn r1 r2 r3 r4 f))), (px, .inl (cI, 2, .inl g)), (t, .inr (1, [.ref bt, .int 0, .int ml, .int cn])), (bt, .inl (cB, 16, .inl bs)), (o, .inr (4, [.int th, .ref bo, .ref po, .int ak', .int su', .int gt', .int lf', .int rf', .int kn'])), (bo, .inl (cI, 6, .inl h)), (po, .inl (cI, 2, .inl j)), (q, .inr (3, [.long (hn_turn r1 r2 r3 r4 f n0), sv]))] H := hP
  have hD : va_D (fun q => s.heap.size ≤ q) [(x, .inr (2, [.ref bx, .ref px, .ref t, .int (hak_turn r1 r2 r3 r4 f ak), .int su, .int gt, .int lf, .int rf, .int kn])), (bx, .inl (cI, 6, .inl (hf_turn r1 r2 r3 r4 f))), (px, .inl (cI, 2, .inl g)), (t, .inr (1, [.ref bt, .int 0, .int ml, .int cn])), (bt, .inl (cB, 16, .inl bs)), (o, .inr (4, [.int th, .ref bo, .ref po, .int ak', .int su', .int gt', .int lf', .int rf', .int kn'])), (bo, .inl (cI, 6, .inl h)), (po, .inl (cI, 2, .inl j)), (q, .inr (3, [.long (hn_turn r1 r2 r3 r4 f n0), sv]))] := hD
  refine W.eq (g2 := F0 m 646 ls [.int (hk_turn r1 r2 r3 r4)]) rfl ?_
  refine lv_istore (lv' := [(5, .int (hk_turn r1 r2 r3 r4)), (4, .int (nI i)), (3, .ref q), (2, .ref o), (1, .ref x), (0, .ref b)]) FX.1 FX.2.1 dL_law_646 hl (by decide) rfl (fun ls hl => ?_)
  refine lv_aload_n FX.1 FX.2.1 dL_law_648 rfl (lv_at hl 3 rfl) ?_
  refine p_rd (k := 1) (v := r1) FX hX hbl hbA hS (lv_at hl 5 rfl) (lv_at hl 1 rfl) dL_law_649 dL_law_650 dL_law_652 dL_law_653 dL_law_654 rfl hin1 ey1 ?_
  refine p_rd (k := 2) (v := r2) FX hX hbl hbA hS (lv_at hl 5 rfl) (lv_at hl 1 rfl) dL_law_655 dL_law_656 dL_law_658 dL_law_659 dL_law_660 rfl hin2 ey2 ?_
  refine p_rd (k := 3) (v := r3) FX hX hbl hbA hS (lv_at hl 5 rfl) (lv_at hl 1 rfl) dL_law_661 dL_law_662 dL_law_664 dL_law_665 dL_law_666 rfl hin3 ey3 ?_
  refine p_rd (k := 4) (v := r4) FX hX hbl hbA hS (lv_at hl 5 rfl) (lv_at hl 1 rfl) dL_law_667 dL_law_668 dL_law_670 dL_law_671 dL_law_672 rfl hin4 ey4 ?_
  obtain ⟨eT, eA, hI2⟩ := st_turn r1 r2 r3 r4 n0 hI
  refine c_WRV (wr := [(x, .inr (2, [.ref bx, .ref px, .ref t, .int (hak_turn r1 r2 r3 r4 f ak), .int su, .int gt, .int lf, .int rf, .int kn])), (bx, .inl (cI, 6, .inl (hf_turn r1 r2 r3 r4 f))), (px, .inl (cI, 2, .inl g)), (t, .inr (1, [.ref bt, .int 0, .int ml, .int cn])), (bt, .inl (cB, 16, .inl bs)), (q, .inr (3, [.long (hn_turn r1 r2 r3 r4 f n0), sv]))]) (wsN := [(x, .inr (2, [.ref bx, .ref px, .ref t, .int (hak_turn r1 r2 r3 r4 f ak), .int su, .int gt, .int lf, .int rf, .int kn])), (bx, .inl (cI, 6, .inl (hf_turn r1 r2 r3 r4 f))), (px, .inl (cI, 2, .inl g)), (t, .inr (1, [.ref bt, .int 0, .int ml, .int cn])), (bt, .inl (cB, 16, .inl bs)), (o, .inr (4, [.int (wth_X2_turn r1 r2 r3 r4), .ref bo, .ref po, .int (wak_X2_turn r1 r2 r3 r4 h ak'), .int su', .int gt', .int lf', .int rf', .int kn'])), (bo, .inl (cI, 6, .inl (wf_X2_turn r1 r2 r3 r4 h))), (po, .inl (cI, 2, .inl j)), (q, .inr (3, [.long (hn_turn r1 r2 r3 r4 f n0), sv]))]) (i0 := 5) (ci := 4) FX (k_X2_turn l D cI cB o bo po th h j ak' su' gt' lf' rf' kn' r1 r2 r3 r4) mi_X2_turn rfl ml_RL_183 (RMok.mk) hl.1 rfl (Nat.le_of_ble_eq_true rfl) dL_law_673 ⟨by omega, by omega⟩ hK hP hD hS hA [5, 6, 7] rfl [0, 1, 2, 3, 4, 8] rfl rfl (by decide) [0, 1, 2, 3, 4, 6, 7, 8, 5] rfl rfl rfl rfl rfl (fun H locs hP hD hS => ?_)
  refine lv_istore (lv' := [(6, .int (v_X2_turn r1 r2 r3 r4 h)), (5, .int (hk_turn r1 r2 r3 r4)), (4, .int (nI i)), (3, .ref q), (2, .ref o), (1, .ref x), (0, .ref b)]) FX.1 FX.2.1 dL_law_676 hl (by decide) rfl (fun ls hl => ?_)
  refine lv_aload_n FX.1 FX.2.1 dL_law_678 rfl (lv_at hl 4 rfl) ?_
  refine c_RDV (i0 := 5) (ci := 4) FX (r_X2_thrown l D cI cB o bo po (wth_X2_turn r1 r2 r3 r4) (wf_X2_turn r1 r2 r3 r4 h) j (wak_X2_turn r1 r2 r3 r4 h ak') su' gt' lf' rf' kn') mi_X2_thrown rfl ml_RL_162 (RMok.mk) hl.1 rfl (Nat.le_of_ble_eq_true rfl) dL_law_679 ⟨by omega, by omega⟩ hK hP [5, 6, 7] rfl rfl rfl rfl ?_
  refine lv_iload FX.1 FX.2.1 dL_law_682 (lv_at hl 1 rfl) ?_
  refine lv_icmp_eq (tgt := 689) FX.1 FX.2.1 dL_law_684 (by decide) (fun c_1 => ?_) (fun c_1 => ?_)
  · refine lv_iload FX.1 FX.2.1 dL_law_689 (lv_at hl 1 rfl) ?_
    refine lv_if_ne (tgt := 707) FX.1 FX.2.1 dL_law_691 (by decide) (fun c_2 => ?_) (fun c_2 => ?_)
    · refine lv_goto (tgt := 2982) FX.1 FX.2.1 dL_law_707 (by decide) ?_
      refine W.widen (k := cc + 33) (n := ss + 321) (by omega) (by omega) ?_
      exact kk H locs (hf_turn r1 r2 r3 r4 f) g (hak_turn r1 r2 r3 r4 f ak) su gt lf rf kn ml cn bs (wth_X2_turn r1 r2 r3 r4) (wf_X2_turn r1 r2 r3 r4 h) j (wak_X2_turn r1 r2 r3 r4 h ak') su' gt' lf' rf' kn' (hn_turn r1 r2 r3 r4 f n0) sv ls hI2 hb hc hP hD hS (lv_sub hl [2, 3, 4, 5, 6] rfl)
    · refine lv_aload_n FX.1 FX.2.1 dL_law_694 rfl (lv_at hl 3 rfl) ?_
      refine p_getN (ci := 3) (v := .long (hn_turn r1 r2 r3 r4 f n0)) FX inX1 hK hP 8 rfl rfl 0 (by decide) hz.1.2.1 rfl dL_law_695 ?_
      refine lv_iload FX.1 FX.2.1 dL_law_698 (lv_at hl 0 rfl) ?_
      refine lv_i2l (v := (v_X2_turn r1 r2 r3 r4 h).toInt64) FX.1 FX.2.1 dL_law_700 rfl ?_
      refine W.eq (g2 := F0 m 701 ls [.long ((v_X2_turn r1 r2 r3 r4 h).toInt64), .long ((v_X2_turn r1 r2 r3 r4 h).toInt64)]) (by rw [eA c_2]) ?_
      refine W.lcmp FX.1 FX.2.1 dL_law_701 ?_
      refine W.eq (g2 := F0 m 702 ls [.int 0]) (by rw [lg_self]) ?_
      refine lv_if_eq (tgt := 707) FX.1 FX.2.1 dL_law_702 (by decide) (fun c_3 => ?_) (fun c_3 => ?_)
      · refine lv_goto (tgt := 2982) FX.1 FX.2.1 dL_law_707 (by decide) ?_
        refine W.widen (k := cc + 33) (n := ss + 321) (by omega) (by omega) ?_
        exact kk H locs (hf_turn r1 r2 r3 r4 f) g (hak_turn r1 r2 r3 r4 f ak) su gt lf rf kn ml cn bs (wth_X2_turn r1 r2 r3 r4) (wf_X2_turn r1 r2 r3 r4 h) j (wak_X2_turn r1 r2 r3 r4 h ak') su' gt' lf' rf' kn' (hn_turn r1 r2 r3 r4 f n0) sv ls hI2 hb hc hP hD hS (lv_sub hl [2, 3, 4, 5, 6] rfl)
      · exact absurd c_3 (by decide)
  · exact absurd eT c_1
set_option maxRecDepth 100000 in
set_option maxHeartbeats 4000000 in
theorem case_6 {p : Program} {l : Launch} {e : Env} {s : State} {m : MethodId} {below : List Frame} {meth : Method} {c : Code} (hl0 : l.stackTraces = false) (D : va_G) (cI cB : ClassId) (b L : Nat) (xs : Nat → Int32) (x bx px t bt o bo po q : Nat) (to tt : Nat) (go gu : Nat → Int32) (na nv : Nat) (nf : Nat → Int32) (nb nw : Nat) (nh : Nat → Int32) (ea ew : Nat) (ef : Nat → Int32) (i cc ss : Nat) (hi : i + 6 ≤ L) (hcc : cc + 33 ≤ room_1.cells) (hss : ss + 321 ≤ room_1.slots) (hL : L ≤ 6) (FX : CallFix p m c cL_law 7 s #[.ref b] bigW RL) (hK : va_K D KL (TY cI cB) s) (hX : va_X b L xs s s.heap) (hbl : b < s.heap.size) (hz : zLaw to tt go gu na nv nf nb nw nh ea ew ef (fun q => s.heap.size ≤ q) s s.heap) (hfn : sb_Fit nf) (hfe : sb_Fit ef) (hnn : TL 4 nf nh) (kk : LGo p l e s m below meth c D cI cB b x bx px t bt o bo po q i 2982 (cc + 33) (ss + 321)) : LGo p l e s m below meth c D cI cB b x bx px t bt o bo po q i 710 cc ss := by
  intro H locs f g ak su gt lf rf kn ml cn bs th h j ak' su' gt' lf' rf' kn' n0 sv ls hI hb hc hP hD hS hl
  have hA : ∀ q : Nat, s.heap.size ≤ q → s.heap.size ≤ q := fun _ h => h
  have hbA : ¬ (fun q : Nat => s.heap.size ≤ q) b := Nat.not_le.mpr hbl
  obtain ⟨r1, ey1⟩ : ∃ y, xs (i + 1) = y := ⟨_, rfl⟩
  have hin1 : i + 1 < L ∧ L < 2 ^ 31 := ⟨by omega, by omega⟩
  obtain ⟨r2, ey2⟩ : ∃ y, xs (i + 2) = y := ⟨_, rfl⟩
  have hin2 : i + 2 < L ∧ L < 2 ^ 31 := ⟨by omega, by omega⟩
  obtain ⟨r3, ey3⟩ : ∃ y, xs (i + 3) = y := ⟨_, rfl⟩
  have hin3 : i + 3 < L ∧ L < 2 ^ 31 := ⟨by omega, by omega⟩
  obtain ⟨r4, ey4⟩ : ∃ y, xs (i + 4) = y := ⟨_, rfl⟩
  have hin4 : i + 4 < L ∧ L < 2 ^ 31 := ⟨by omega, by omega⟩
  have hl : lv_has ls 7 [(4, .int (nI i)), (3, .ref q), (2, .ref o), (1, .ref x), (0, .ref b)] := hl
  have hP : va_P D KL [(x, .inr (2, [.ref bx, .ref px, .ref t, .int ak, .int su, .int gt, .int lf, .int rf, .int kn])), (bx, .inl (cI, 6, .inl f)), (px, .inl (cI, 2, .inl g)), (t, .inr (1, [.ref bt, .int 0, .int ml, .int cn])), (bt, .inl (cB, 16, .inl bs)), (o, .inr (4, [.int th, .ref bo, .ref po, .int ak', .int su', .int gt', .int lf', .int rf', .int kn'])), (bo, .inl (cI, 6, .inl h)), (po, .inl (cI, 2, .inl j)), (q, .inr (3, [.long n0, sv]))] H := hP
  have hD : va_D (fun q => s.heap.size ≤ q) [(x, .inr (2, [.ref bx, .ref px, .ref t, .int ak, .int su, .int gt, .int lf, .int rf, .int kn])), (bx, .inl (cI, 6, .inl f)), (px, .inl (cI, 2, .inl g)), (t, .inr (1, [.ref bt, .int 0, .int ml, .int cn])), (bt, .inl (cB, 16, .inl bs)), (o, .inr (4, [.int th, .ref bo, .ref po, .int ak', .int su', .int gt', .int lf', .int rf', .int kn'])), (bo, .inl (cI, 6, .inl h)), (po, .inl (cI, 2, .inl j)), (q, .inr (3, [.long n0, sv]))] := hD
  refine lv_aload_n FX.1 FX.2.1 dL_law_710 rfl (lv_at hl 3 rfl) ?_
  refine p_rd (k := 1) (v := r1) FX hX hbl hbA hS (lv_at hl 4 rfl) (lv_at hl 0 rfl) dL_law_711 dL_law_712 dL_law_714 dL_law_715 dL_law_716 rfl hin1 ey1 ?_
  refine p_rd (k := 2) (v := r2) FX hX hbl hbA hS (lv_at hl 4 rfl) (lv_at hl 0 rfl) dL_law_717 dL_law_718 dL_law_720 dL_law_721 dL_law_722 rfl hin2 ey2 ?_
  refine p_rd (k := 3) (v := r3) FX hX hbl hbA hS (lv_at hl 4 rfl) (lv_at hl 0 rfl) dL_law_723 dL_law_724 dL_law_726 dL_law_727 dL_law_728 rfl hin3 ey3 ?_
  refine p_rd (k := 4) (v := r4) FX hX hbl hbA hS (lv_at hl 4 rfl) (lv_at hl 0 rfl) dL_law_729 dL_law_730 dL_law_732 dL_law_733 dL_law_734 rfl hin4 ey4 ?_
  refine lv_aload_n FX.1 FX.2.1 dL_law_735 rfl (lv_at hl 1 rfl) ?_
  refine c_J (W0 := [(x, .inr (2, [.ref bx, .ref px, .ref t, .int ak, .int su, .int gt, .int lf, .int rf, .int kn])), (bx, .inl (cI, 6, .inl f)), (px, .inl (cI, 2, .inl g)), (q, .inr (3, [.long n0, sv]))]) (wr := [(t, .inr (1, [.ref bt, .int 0, .int ml, .int cn])), (bt, .inl (cB, 16, .inl bs)), (o, .inr (4, [.int th, .ref bo, .ref po, .int ak', .int su', .int gt', .int lf', .int rf', .int kn'])), (bo, .inl (cI, 6, .inl h)), (po, .inl (cI, 2, .inl j))]) (wsN := fun _ => [(x, .inr (2, [.ref bx, .ref px, .ref t, .int (hak_filter r1 r2 r3 r4 f ak), .int su, .int gt, .int lf, .int rf, .int kn])), (bx, .inl (cI, 6, .inl (hf_filter r1 r2 r3 r4 f))), (px, .inl (cI, 2, .inl g)), (t, .inr (1, [.ref bt, .int 0, .int ml, .int cn])), (bt, .inl (cB, 16, .inl bs)), (o, .inr (4, [.int th, .ref bo, .ref po, .int ak', .int su', .int gt', .int lf', .int rf', .int kn'])), (bo, .inl (cI, 6, .inl h)), (po, .inl (cI, 2, .inl j)), (q, .inr (3, [.long (hn_filter r1 r2 r3 r4 f n0), sv]))]) (vx_runSW FX ((j_L_filter l hl0 D cI cB x bx px t f g ak su gt lf rf kn q n0 sv r1 r2 r3 r4) H.size) (my_cwSW FX.2.2.2.2 mh_L_filter ml_RL_184 (RMok.mk)) ⟨PJ.blind (zAnd_ok (zAnd_ok zz_ok zN_ok) zF_ok), fun U hU hW => ⟨rfl, my_preJ (zAnd_ok (zAnd_ok zz_ok zN_ok) zF_ok) ⟨hz.1.1, hz.1.2.1⟩ hS hA hK hP hD [0, 1, 2, 8] rfl rfl U hU hW⟩⟩ rfl rfl hl.1 rfl (lv_room (Nat.le_of_ble_eq_true rfl)) dL_law_736 ⟨by omega, by omega⟩) hP hD hS hA [0, 1, 2, 8] rfl [3, 4, 5, 6, 7] rfl (by decide) [5, 6, 7, 0, 1, 2, 3, 4, 8] (fun _ => rfl) rfl (fun u1 H locs hp_1 hP hD hS => ?_)
  have hP : va_P D KL [(x, .inr (2, [.ref bx, .ref px, .ref t, .int (hak_filter r1 r2 r3 r4 f ak), .int su, .int gt, .int lf, .int rf, .int kn])), (bx, .inl (cI, 6, .inl (hf_filter r1 r2 r3 r4 f))), (px, .inl (cI, 2, .inl g)), (t, .inr (1, [.ref bt, .int 0, .int ml, .int cn])), (bt, .inl (cB, 16, .inl bs)), (o, .inr (4, [.int th, .ref bo, .ref po, .int ak', .int su', .int gt', .int lf', .int rf', .int kn'])), (bo, .inl (cI, 6, .inl h)), (po, .inl (cI, 2, .inl j)), (q, .inr (3, [.long (hn_filter r1 r2 r3 r4 f n0), sv]))] H := hP
  have hD : va_D (fun q => s.heap.size ≤ q) [(x, .inr (2, [.ref bx, .ref px, .ref t, .int (hak_filter r1 r2 r3 r4 f ak), .int su, .int gt, .int lf, .int rf, .int kn])), (bx, .inl (cI, 6, .inl (hf_filter r1 r2 r3 r4 f))), (px, .inl (cI, 2, .inl g)), (t, .inr (1, [.ref bt, .int 0, .int ml, .int cn])), (bt, .inl (cB, 16, .inl bs)), (o, .inr (4, [.int th, .ref bo, .ref po, .int ak', .int su', .int gt', .int lf', .int rf', .int kn'])), (bo, .inl (cI, 6, .inl h)), (po, .inl (cI, 2, .inl j)), (q, .inr (3, [.long (hn_filter r1 r2 r3 r4 f n0), sv]))] := hD
  refine W.eq (g2 := F0 m 739 ls [.int (hk_filter r1 r2 r3 r4)]) rfl ?_
  refine lv_istore (lv' := [(5, .int (hk_filter r1 r2 r3 r4)), (4, .int (nI i)), (3, .ref q), (2, .ref o), (1, .ref x), (0, .ref b)]) FX.1 FX.2.1 dL_law_739 hl (by decide) rfl (fun ls hl => ?_)
  refine lv_aload_n FX.1 FX.2.1 dL_law_741 rfl (lv_at hl 3 rfl) ?_
  refine p_rd (k := 1) (v := r1) FX hX hbl hbA hS (lv_at hl 5 rfl) (lv_at hl 1 rfl) dL_law_742 dL_law_743 dL_law_745 dL_law_746 dL_law_747 rfl hin1 ey1 ?_
  refine p_rd (k := 2) (v := r2) FX hX hbl hbA hS (lv_at hl 5 rfl) (lv_at hl 1 rfl) dL_law_748 dL_law_749 dL_law_751 dL_law_752 dL_law_753 rfl hin2 ey2 ?_
  refine p_rd (k := 3) (v := r3) FX hX hbl hbA hS (lv_at hl 5 rfl) (lv_at hl 1 rfl) dL_law_754 dL_law_755 dL_law_757 dL_law_758 dL_law_759 rfl hin3 ey3 ?_
  refine p_rd (k := 4) (v := r4) FX hX hbl hbA hS (lv_at hl 5 rfl) (lv_at hl 1 rfl) dL_law_760 dL_law_761 dL_law_763 dL_law_764 dL_law_765 rfl hin4 ey4 ?_
  obtain ⟨eT, eA, hI2⟩ := st_filter r1 r2 r3 r4 n0 hI
  refine c_WRV (wr := [(x, .inr (2, [.ref bx, .ref px, .ref t, .int (hak_filter r1 r2 r3 r4 f ak), .int su, .int gt, .int lf, .int rf, .int kn])), (bx, .inl (cI, 6, .inl (hf_filter r1 r2 r3 r4 f))), (px, .inl (cI, 2, .inl g)), (t, .inr (1, [.ref bt, .int 0, .int ml, .int cn])), (bt, .inl (cB, 16, .inl bs)), (q, .inr (3, [.long (hn_filter r1 r2 r3 r4 f n0), sv]))]) (wsN := [(x, .inr (2, [.ref bx, .ref px, .ref t, .int (hak_filter r1 r2 r3 r4 f ak), .int su, .int gt, .int lf, .int rf, .int kn])), (bx, .inl (cI, 6, .inl (hf_filter r1 r2 r3 r4 f))), (px, .inl (cI, 2, .inl g)), (t, .inr (1, [.ref bt, .int 0, .int ml, .int cn])), (bt, .inl (cB, 16, .inl bs)), (o, .inr (4, [.int (wth_X2_filter r1 r2 r3 r4), .ref bo, .ref po, .int (wak_X2_filter r1 r2 r3 r4 h ak'), .int su', .int gt', .int lf', .int rf', .int kn'])), (bo, .inl (cI, 6, .inl (wf_X2_filter r1 r2 r3 r4 h))), (po, .inl (cI, 2, .inl j)), (q, .inr (3, [.long (hn_filter r1 r2 r3 r4 f n0), sv]))]) (i0 := 5) (ci := 4) FX (k_X2_filter l D cI cB o bo po th h j ak' su' gt' lf' rf' kn' r1 r2 r3 r4) mi_X2_filter rfl ml_RL_186 (RMok.mk) hl.1 rfl (Nat.le_of_ble_eq_true rfl) dL_law_766 ⟨by omega, by omega⟩ hK hP hD hS hA [5, 6, 7] rfl [0, 1, 2, 3, 4, 8] rfl rfl (by decide) [0, 1, 2, 3, 4, 6, 7, 8, 5] rfl rfl rfl rfl rfl (fun H locs hP hD hS => ?_)
  refine lv_istore (lv' := [(6, .int (v_X2_filter r1 r2 r3 r4 h)), (5, .int (hk_filter r1 r2 r3 r4)), (4, .int (nI i)), (3, .ref q), (2, .ref o), (1, .ref x), (0, .ref b)]) FX.1 FX.2.1 dL_law_769 hl (by decide) rfl (fun ls hl => ?_)
  refine lv_aload_n FX.1 FX.2.1 dL_law_771 rfl (lv_at hl 4 rfl) ?_
  refine c_RDV (i0 := 5) (ci := 4) FX (r_X2_thrown l D cI cB o bo po (wth_X2_filter r1 r2 r3 r4) (wf_X2_filter r1 r2 r3 r4 h) j (wak_X2_filter r1 r2 r3 r4 h ak') su' gt' lf' rf' kn') mi_X2_thrown rfl ml_RL_162 (RMok.mk) hl.1 rfl (Nat.le_of_ble_eq_true rfl) dL_law_772 ⟨by omega, by omega⟩ hK hP [5, 6, 7] rfl rfl rfl rfl ?_
  refine lv_iload FX.1 FX.2.1 dL_law_775 (lv_at hl 1 rfl) ?_
  refine lv_icmp_eq (tgt := 782) FX.1 FX.2.1 dL_law_777 (by decide) (fun c_1 => ?_) (fun c_1 => ?_)
  · refine lv_iload FX.1 FX.2.1 dL_law_782 (lv_at hl 1 rfl) ?_
    refine lv_if_ne (tgt := 800) FX.1 FX.2.1 dL_law_784 (by decide) (fun c_2 => ?_) (fun c_2 => ?_)
    · refine lv_goto (tgt := 2982) FX.1 FX.2.1 dL_law_800 (by decide) ?_
      refine W.widen (k := cc + 33) (n := ss + 321) (by omega) (by omega) ?_
      exact kk H locs (hf_filter r1 r2 r3 r4 f) g (hak_filter r1 r2 r3 r4 f ak) su gt lf rf kn ml cn bs (wth_X2_filter r1 r2 r3 r4) (wf_X2_filter r1 r2 r3 r4 h) j (wak_X2_filter r1 r2 r3 r4 h ak') su' gt' lf' rf' kn' (hn_filter r1 r2 r3 r4 f n0) sv ls hI2 hb hc hP hD hS (lv_sub hl [2, 3, 4, 5, 6] rfl)
    · refine lv_aload_n FX.1 FX.2.1 dL_law_787 rfl (lv_at hl 3 rfl) ?_
      refine p_getN (ci := 3) (v := .long (hn_filter r1 r2 r3 r4 f n0)) FX inX1 hK hP 8 rfl rfl 0 (by decide) hz.1.2.1 rfl dL_law_788 ?_
      refine lv_iload FX.1 FX.2.1 dL_law_791 (lv_at hl 0 rfl) ?_
      refine lv_i2l (v := (v_X2_filter r1 r2 r3 r4 h).toInt64) FX.1 FX.2.1 dL_law_793 rfl ?_
      refine W.eq (g2 := F0 m 794 ls [.long ((v_X2_filter r1 r2 r3 r4 h).toInt64), .long ((v_X2_filter r1 r2 r3 r4 h).toInt64)]) (by rw [eA c_2]) ?_
      refine W.lcmp FX.1 FX.2.1 dL_law_794 ?_
      refine W.eq (g2 := F0 m 795 ls [.int 0]) (by rw [lg_self]) ?_
      refine lv_if_eq (tgt := 800) FX.1 FX.2.1 dL_law_795 (by decide) (fun c_3 => ?_) (fun c_3 => ?_)
      · refine lv_goto (tgt := 2982) FX.1 FX.2.1 dL_law_800 (by decide) ?_
        refine W.widen (k := cc + 33) (n := ss + 321) (by omega) (by omega) ?_
        exact kk H locs (hf_filter r1 r2 r3 r4 f) g (hak_filter r1 r2 r3 r4 f ak) su gt lf rf kn ml cn bs (wth_X2_filter r1 r2 r3 r4) (wf_X2_filter r1 r2 r3 r4 h) j (wak_X2_filter r1 r2 r3 r4 h ak') su' gt' lf' rf' kn' (hn_filter r1 r2 r3 r4 f n0) sv ls hI2 hb hc hP hD hS (lv_sub hl [2, 3, 4, 5, 6] rfl)
      · exact absurd c_3 (by decide)
  · exact absurd eT c_1
set_option maxRecDepth 100000 in
set_option maxHeartbeats 4000000 in
theorem case_7 {p : Program} {l : Launch} {e : Env} {s : State} {m : MethodId} {below : List Frame} {meth : Method} {c : Code} (hl0 : l.stackTraces = false) (D : va_G) (cI cB : ClassId) (b L : Nat) (xs : Nat → Int32) (x bx px t bt o bo po q : Nat) (to tt : Nat) (go gu : Nat → Int32) (na nv : Nat) (nf : Nat → Int32) (nb nw : Nat) (nh : Nat → Int32) (ea ew : Nat) (ef : Nat → Int32) (i cc ss : Nat) (hi : i + 6 ≤ L) (hcc : cc + 33 ≤ room_1.cells) (hss : ss + 321 ≤ room_1.slots) (hL : L ≤ 6) (FX : CallFix p m c cL_law 7 s #[.ref b] bigW RL) (hK : va_K D KL (TY cI cB) s) (hX : va_X b L xs s s.heap) (hbl : b < s.heap.size) (hz : zLaw to tt go gu na nv nf nb nw nh ea ew ef (fun q => s.heap.size ≤ q) s s.heap) (hfn : sb_Fit nf) (hfe : sb_Fit ef) (hnn : TL 4 nf nh) (kk : LGo p l e s m below meth c D cI cB b x bx px t bt o bo po q i 2982 (cc + 33) (ss + 321)) : LGo p l e s m below meth c D cI cB b x bx px t bt o bo po q i 803 cc ss := by
  intro H locs f g ak su gt lf rf kn ml cn bs th h j ak' su' gt' lf' rf' kn' n0 sv ls hI hb hc hP hD hS hl
  have hA : ∀ q : Nat, s.heap.size ≤ q → s.heap.size ≤ q := fun _ h => h
  have hbA : ¬ (fun q : Nat => s.heap.size ≤ q) b := Nat.not_le.mpr hbl
  obtain ⟨r1, ey1⟩ : ∃ y, xs (i + 1) = y := ⟨_, rfl⟩
  have hin1 : i + 1 < L ∧ L < 2 ^ 31 := ⟨by omega, by omega⟩
  obtain ⟨r2, ey2⟩ : ∃ y, xs (i + 2) = y := ⟨_, rfl⟩
  have hin2 : i + 2 < L ∧ L < 2 ^ 31 := ⟨by omega, by omega⟩
  obtain ⟨r3, ey3⟩ : ∃ y, xs (i + 3) = y := ⟨_, rfl⟩
  have hin3 : i + 3 < L ∧ L < 2 ^ 31 := ⟨by omega, by omega⟩
  have hl : lv_has ls 7 [(4, .int (nI i)), (3, .ref q), (2, .ref o), (1, .ref x), (0, .ref b)] := hl
  have hP : va_P D KL [(x, .inr (2, [.ref bx, .ref px, .ref t, .int ak, .int su, .int gt, .int lf, .int rf, .int kn])), (bx, .inl (cI, 6, .inl f)), (px, .inl (cI, 2, .inl g)), (t, .inr (1, [.ref bt, .int 0, .int ml, .int cn])), (bt, .inl (cB, 16, .inl bs)), (o, .inr (4, [.int th, .ref bo, .ref po, .int ak', .int su', .int gt', .int lf', .int rf', .int kn'])), (bo, .inl (cI, 6, .inl h)), (po, .inl (cI, 2, .inl j)), (q, .inr (3, [.long n0, sv]))] H := hP
  have hD : va_D (fun q => s.heap.size ≤ q) [(x, .inr (2, [.ref bx, .ref px, .ref t, .int ak, .int su, .int gt, .int lf, .int rf, .int kn])), (bx, .inl (cI, 6, .inl f)), (px, .inl (cI, 2, .inl g)), (t, .inr (1, [.ref bt, .int 0, .int ml, .int cn])), (bt, .inl (cB, 16, .inl bs)), (o, .inr (4, [.int th, .ref bo, .ref po, .int ak', .int su', .int gt', .int lf', .int rf', .int kn'])), (bo, .inl (cI, 6, .inl h)), (po, .inl (cI, 2, .inl j)), (q, .inr (3, [.long n0, sv]))] := hD
  refine lv_aload_n FX.1 FX.2.1 dL_law_803 rfl (lv_at hl 3 rfl) ?_
  refine p_rd (k := 1) (v := r1) FX hX hbl hbA hS (lv_at hl 4 rfl) (lv_at hl 0 rfl) dL_law_804 dL_law_805 dL_law_807 dL_law_808 dL_law_809 rfl hin1 ey1 ?_
  refine p_rd (k := 2) (v := r2) FX hX hbl hbA hS (lv_at hl 4 rfl) (lv_at hl 0 rfl) dL_law_810 dL_law_811 dL_law_813 dL_law_814 dL_law_815 rfl hin2 ey2 ?_
  refine p_rd (k := 3) (v := r3) FX hX hbl hbA hS (lv_at hl 4 rfl) (lv_at hl 0 rfl) dL_law_816 dL_law_817 dL_law_819 dL_law_820 dL_law_821 rfl hin3 ey3 ?_
  refine lv_aload_n FX.1 FX.2.1 dL_law_822 rfl (lv_at hl 1 rfl) ?_
  refine c_J (W0 := [(x, .inr (2, [.ref bx, .ref px, .ref t, .int ak, .int su, .int gt, .int lf, .int rf, .int kn])), (bx, .inl (cI, 6, .inl f)), (px, .inl (cI, 2, .inl g)), (q, .inr (3, [.long n0, sv]))]) (wr := [(t, .inr (1, [.ref bt, .int 0, .int ml, .int cn])), (bt, .inl (cB, 16, .inl bs)), (o, .inr (4, [.int th, .ref bo, .ref po, .int ak', .int su', .int gt', .int lf', .int rf', .int kn'])), (bo, .inl (cI, 6, .inl h)), (po, .inl (cI, 2, .inl j))]) (wsN := fun _ => [(x, .inr (2, [.ref bx, .ref px, .ref t, .int (hak_or r1 r2 r3 f ak), .int su, .int gt, .int lf, .int rf, .int kn])), (bx, .inl (cI, 6, .inl (hf_or r1 r2 r3 f))), (px, .inl (cI, 2, .inl g)), (t, .inr (1, [.ref bt, .int 0, .int ml, .int cn])), (bt, .inl (cB, 16, .inl bs)), (o, .inr (4, [.int th, .ref bo, .ref po, .int ak', .int su', .int gt', .int lf', .int rf', .int kn'])), (bo, .inl (cI, 6, .inl h)), (po, .inl (cI, 2, .inl j)), (q, .inr (3, [.long (hn_or r1 r2 r3 f n0), sv]))]) (vx_runSW FX ((j_L_or l hl0 D cI cB x bx px t f g ak su gt lf rf kn q n0 sv r1 r2 r3) H.size) (my_cwSW FX.2.2.2.2 mh_L_or ml_RL_187 (RMok.mk)) ⟨PJ.blind (zAnd_ok (zAnd_ok zz_ok zN_ok) zF_ok), fun U hU hW => ⟨rfl, my_preJ (zAnd_ok (zAnd_ok zz_ok zN_ok) zF_ok) ⟨hz.1.1, hz.1.2.1⟩ hS hA hK hP hD [0, 1, 2, 8] rfl rfl U hU hW⟩⟩ rfl rfl hl.1 rfl (lv_room (Nat.le_of_ble_eq_true rfl)) dL_law_823 ⟨by omega, by omega⟩) hP hD hS hA [0, 1, 2, 8] rfl [3, 4, 5, 6, 7] rfl (by decide) [5, 6, 7, 0, 1, 2, 3, 4, 8] (fun _ => rfl) rfl (fun u1 H locs hp_1 hP hD hS => ?_)
  have hP : va_P D KL [(x, .inr (2, [.ref bx, .ref px, .ref t, .int (hak_or r1 r2 r3 f ak), .int su, .int gt, .int lf, .int rf, .int kn])), (bx, .inl (cI, 6, .inl (hf_or r1 r2 r3 f))), (px, .inl (cI, 2, .inl g)), (t, .inr (1, [.ref bt, .int 0, .int ml, .int cn])), (bt, .inl (cB, 16, .inl bs)), (o, .inr (4, [.int th, .ref bo, .ref po, .int ak', .int su', .int gt', .int lf', .int rf', .int kn'])), (bo, .inl (cI, 6, .inl h)), (po, .inl (cI, 2, .inl j)), (q, .inr (3, [.long (hn_or r1 r2 r3 f n0), sv]))] H := hP
  have hD : va_D (fun q => s.heap.size ≤ q) [(x, .inr (2, [.ref bx, .ref px, .ref t, .int (hak_or r1 r2 r3 f ak), .int su, .int gt, .int lf, .int rf, .int kn])), (bx, .inl (cI, 6, .inl (hf_or r1 r2 r3 f))), (px, .inl (cI, 2, .inl g)), (t, .inr (1, [.ref bt, .int 0, .int ml, .int cn])), (bt, .inl (cB, 16, .inl bs)), (o, .inr (4, [.int th, .ref bo, .ref po, .int ak', .int su', .int gt', .int lf', .int rf', .int kn'])), (bo, .inl (cI, 6, .inl h)), (po, .inl (cI, 2, .inl j)), (q, .inr (3, [.long (hn_or r1 r2 r3 f n0), sv]))] := hD
  refine W.eq (g2 := F0 m 826 ls [.int (hk_or r1 r2 r3)]) rfl ?_
  refine lv_istore (lv' := [(5, .int (hk_or r1 r2 r3)), (4, .int (nI i)), (3, .ref q), (2, .ref o), (1, .ref x), (0, .ref b)]) FX.1 FX.2.1 dL_law_826 hl (by decide) rfl (fun ls hl => ?_)
  refine lv_aload_n FX.1 FX.2.1 dL_law_828 rfl (lv_at hl 3 rfl) ?_
  refine p_rd (k := 1) (v := r1) FX hX hbl hbA hS (lv_at hl 5 rfl) (lv_at hl 1 rfl) dL_law_829 dL_law_830 dL_law_832 dL_law_833 dL_law_834 rfl hin1 ey1 ?_
  refine p_rd (k := 2) (v := r2) FX hX hbl hbA hS (lv_at hl 5 rfl) (lv_at hl 1 rfl) dL_law_835 dL_law_836 dL_law_838 dL_law_839 dL_law_840 rfl hin2 ey2 ?_
  refine p_rd (k := 3) (v := r3) FX hX hbl hbA hS (lv_at hl 5 rfl) (lv_at hl 1 rfl) dL_law_841 dL_law_842 dL_law_844 dL_law_845 dL_law_846 rfl hin3 ey3 ?_
  obtain ⟨eT, eA, hI2⟩ := st_or r1 r2 r3 n0 hI
  refine c_WRV (wr := [(x, .inr (2, [.ref bx, .ref px, .ref t, .int (hak_or r1 r2 r3 f ak), .int su, .int gt, .int lf, .int rf, .int kn])), (bx, .inl (cI, 6, .inl (hf_or r1 r2 r3 f))), (px, .inl (cI, 2, .inl g)), (t, .inr (1, [.ref bt, .int 0, .int ml, .int cn])), (bt, .inl (cB, 16, .inl bs)), (q, .inr (3, [.long (hn_or r1 r2 r3 f n0), sv]))]) (wsN := [(x, .inr (2, [.ref bx, .ref px, .ref t, .int (hak_or r1 r2 r3 f ak), .int su, .int gt, .int lf, .int rf, .int kn])), (bx, .inl (cI, 6, .inl (hf_or r1 r2 r3 f))), (px, .inl (cI, 2, .inl g)), (t, .inr (1, [.ref bt, .int 0, .int ml, .int cn])), (bt, .inl (cB, 16, .inl bs)), (o, .inr (4, [.int (wth_X2_or r1 r2 r3), .ref bo, .ref po, .int (wak_X2_or r1 r2 r3 h ak'), .int su', .int gt', .int lf', .int rf', .int kn'])), (bo, .inl (cI, 6, .inl (wf_X2_or r1 r2 r3 h))), (po, .inl (cI, 2, .inl j)), (q, .inr (3, [.long (hn_or r1 r2 r3 f n0), sv]))]) (i0 := 5) (ci := 4) FX (k_X2_or l D cI cB o bo po th h j ak' su' gt' lf' rf' kn' r1 r2 r3) mi_X2_or rfl ml_RL_190 (RMok.mk) hl.1 rfl (Nat.le_of_ble_eq_true rfl) dL_law_847 ⟨by omega, by omega⟩ hK hP hD hS hA [5, 6, 7] rfl [0, 1, 2, 3, 4, 8] rfl rfl (by decide) [0, 1, 2, 3, 4, 6, 7, 8, 5] rfl rfl rfl rfl rfl (fun H locs hP hD hS => ?_)
  refine lv_istore (lv' := [(6, .int (v_X2_or r1 r2 r3 h)), (5, .int (hk_or r1 r2 r3)), (4, .int (nI i)), (3, .ref q), (2, .ref o), (1, .ref x), (0, .ref b)]) FX.1 FX.2.1 dL_law_850 hl (by decide) rfl (fun ls hl => ?_)
  refine lv_aload_n FX.1 FX.2.1 dL_law_852 rfl (lv_at hl 4 rfl) ?_
  refine c_RDV (i0 := 5) (ci := 4) FX (r_X2_thrown l D cI cB o bo po (wth_X2_or r1 r2 r3) (wf_X2_or r1 r2 r3 h) j (wak_X2_or r1 r2 r3 h ak') su' gt' lf' rf' kn') mi_X2_thrown rfl ml_RL_162 (RMok.mk) hl.1 rfl (Nat.le_of_ble_eq_true rfl) dL_law_853 ⟨by omega, by omega⟩ hK hP [5, 6, 7] rfl rfl rfl rfl ?_
  refine lv_iload FX.1 FX.2.1 dL_law_856 (lv_at hl 1 rfl) ?_
  refine lv_icmp_eq (tgt := 863) FX.1 FX.2.1 dL_law_858 (by decide) (fun c_1 => ?_) (fun c_1 => ?_)
  · refine lv_iload FX.1 FX.2.1 dL_law_863 (lv_at hl 1 rfl) ?_
    refine lv_if_ne (tgt := 881) FX.1 FX.2.1 dL_law_865 (by decide) (fun c_2 => ?_) (fun c_2 => ?_)
    · refine lv_goto (tgt := 2982) FX.1 FX.2.1 dL_law_881 (by decide) ?_
      refine W.widen (k := cc + 33) (n := ss + 321) (by omega) (by omega) ?_
      exact kk H locs (hf_or r1 r2 r3 f) g (hak_or r1 r2 r3 f ak) su gt lf rf kn ml cn bs (wth_X2_or r1 r2 r3) (wf_X2_or r1 r2 r3 h) j (wak_X2_or r1 r2 r3 h ak') su' gt' lf' rf' kn' (hn_or r1 r2 r3 f n0) sv ls hI2 hb hc hP hD hS (lv_sub hl [2, 3, 4, 5, 6] rfl)
    · refine lv_aload_n FX.1 FX.2.1 dL_law_868 rfl (lv_at hl 3 rfl) ?_
      refine p_getN (ci := 3) (v := .long (hn_or r1 r2 r3 f n0)) FX inX1 hK hP 8 rfl rfl 0 (by decide) hz.1.2.1 rfl dL_law_869 ?_
      refine lv_iload FX.1 FX.2.1 dL_law_872 (lv_at hl 0 rfl) ?_
      refine lv_i2l (v := (v_X2_or r1 r2 r3 h).toInt64) FX.1 FX.2.1 dL_law_874 rfl ?_
      refine W.eq (g2 := F0 m 875 ls [.long ((v_X2_or r1 r2 r3 h).toInt64), .long ((v_X2_or r1 r2 r3 h).toInt64)]) (by rw [eA c_2]) ?_
      refine W.lcmp FX.1 FX.2.1 dL_law_875 ?_
      refine W.eq (g2 := F0 m 876 ls [.int 0]) (by rw [lg_self]) ?_
      refine lv_if_eq (tgt := 881) FX.1 FX.2.1 dL_law_876 (by decide) (fun c_3 => ?_) (fun c_3 => ?_)
      · refine lv_goto (tgt := 2982) FX.1 FX.2.1 dL_law_881 (by decide) ?_
        refine W.widen (k := cc + 33) (n := ss + 321) (by omega) (by omega) ?_
        exact kk H locs (hf_or r1 r2 r3 f) g (hak_or r1 r2 r3 f ak) su gt lf rf kn ml cn bs (wth_X2_or r1 r2 r3) (wf_X2_or r1 r2 r3 h) j (wak_X2_or r1 r2 r3 h ak') su' gt' lf' rf' kn' (hn_or r1 r2 r3 f n0) sv ls hI2 hb hc hP hD hS (lv_sub hl [2, 3, 4, 5, 6] rfl)
      · exact absurd c_3 (by decide)
  · exact absurd eT c_1
set_option maxRecDepth 100000 in
set_option maxHeartbeats 4000000 in
theorem case_8 {p : Program} {l : Launch} {e : Env} {s : State} {m : MethodId} {below : List Frame} {meth : Method} {c : Code} (hl0 : l.stackTraces = false) (D : va_G) (cI cB : ClassId) (b L : Nat) (xs : Nat → Int32) (x bx px t bt o bo po q : Nat) (to tt : Nat) (go gu : Nat → Int32) (na nv : Nat) (nf : Nat → Int32) (nb nw : Nat) (nh : Nat → Int32) (ea ew : Nat) (ef : Nat → Int32) (i cc ss : Nat) (hi : i + 6 ≤ L) (hcc : cc + 33 ≤ room_1.cells) (hss : ss + 321 ≤ room_1.slots) (hL : L ≤ 6) (FX : CallFix p m c cL_law 7 s #[.ref b] bigW RL) (hK : va_K D KL (TY cI cB) s) (hX : va_X b L xs s s.heap) (hbl : b < s.heap.size) (hz : zLaw to tt go gu na nv nf nb nw nh ea ew ef (fun q => s.heap.size ≤ q) s s.heap) (hfn : sb_Fit nf) (hfe : sb_Fit ef) (hnn : TL 4 nf nh) (kk : LGo p l e s m below meth c D cI cB b x bx px t bt o bo po q i 2982 (cc + 33) (ss + 321)) : LGo p l e s m below meth c D cI cB b x bx px t bt o bo po q i 884 cc ss := by
  intro H locs f g ak su gt lf rf kn ml cn bs th h j ak' su' gt' lf' rf' kn' n0 sv ls hI hb hc hP hD hS hl
  have hA : ∀ q : Nat, s.heap.size ≤ q → s.heap.size ≤ q := fun _ h => h
  have hbA : ¬ (fun q : Nat => s.heap.size ≤ q) b := Nat.not_le.mpr hbl
  obtain ⟨r1, ey1⟩ : ∃ y, xs (i + 1) = y := ⟨_, rfl⟩
  have hin1 : i + 1 < L ∧ L < 2 ^ 31 := ⟨by omega, by omega⟩
  obtain ⟨r2, ey2⟩ : ∃ y, xs (i + 2) = y := ⟨_, rfl⟩
  have hin2 : i + 2 < L ∧ L < 2 ^ 31 := ⟨by omega, by omega⟩
  have hl : lv_has ls 7 [(4, .int (nI i)), (3, .ref q), (2, .ref o), (1, .ref x), (0, .ref b)] := hl
  have hP : va_P D KL [(x, .inr (2, [.ref bx, .ref px, .ref t, .int ak, .int su, .int gt, .int lf, .int rf, .int kn])), (bx, .inl (cI, 6, .inl f)), (px, .inl (cI, 2, .inl g)), (t, .inr (1, [.ref bt, .int 0, .int ml, .int cn])), (bt, .inl (cB, 16, .inl bs)), (o, .inr (4, [.int th, .ref bo, .ref po, .int ak', .int su', .int gt', .int lf', .int rf', .int kn'])), (bo, .inl (cI, 6, .inl h)), (po, .inl (cI, 2, .inl j)), (q, .inr (3, [.long n0, sv]))] H := hP
  have hD : va_D (fun q => s.heap.size ≤ q) [(x, .inr (2, [.ref bx, .ref px, .ref t, .int ak, .int su, .int gt, .int lf, .int rf, .int kn])), (bx, .inl (cI, 6, .inl f)), (px, .inl (cI, 2, .inl g)), (t, .inr (1, [.ref bt, .int 0, .int ml, .int cn])), (bt, .inl (cB, 16, .inl bs)), (o, .inr (4, [.int th, .ref bo, .ref po, .int ak', .int su', .int gt', .int lf', .int rf', .int kn'])), (bo, .inl (cI, 6, .inl h)), (po, .inl (cI, 2, .inl j)), (q, .inr (3, [.long n0, sv]))] := hD
  refine lv_aload_n FX.1 FX.2.1 dL_law_884 rfl (lv_at hl 3 rfl) ?_
  refine p_rd (k := 1) (v := r1) FX hX hbl hbA hS (lv_at hl 4 rfl) (lv_at hl 0 rfl) dL_law_885 dL_law_886 dL_law_888 dL_law_889 dL_law_890 rfl hin1 ey1 ?_
  refine p_rd (k := 2) (v := r2) FX hX hbl hbA hS (lv_at hl 4 rfl) (lv_at hl 0 rfl) dL_law_891 dL_law_892 dL_law_894 dL_law_895 dL_law_896 rfl hin2 ey2 ?_
  refine lv_aload_n FX.1 FX.2.1 dL_law_897 rfl (lv_at hl 1 rfl) ?_
  refine c_J (W0 := [(x, .inr (2, [.ref bx, .ref px, .ref t, .int ak, .int su, .int gt, .int lf, .int rf, .int kn])), (bx, .inl (cI, 6, .inl f)), (px, .inl (cI, 2, .inl g)), (q, .inr (3, [.long n0, sv]))]) (wr := [(t, .inr (1, [.ref bt, .int 0, .int ml, .int cn])), (bt, .inl (cB, 16, .inl bs)), (o, .inr (4, [.int th, .ref bo, .ref po, .int ak', .int su', .int gt', .int lf', .int rf', .int kn'])), (bo, .inl (cI, 6, .inl h)), (po, .inl (cI, 2, .inl j))]) (wsN := fun _ => [(x, .inr (2, [.ref bx, .ref px, .ref t, .int ak, .int su, .int gt, .int lf, .int rf, .int kn])), (bx, .inl (cI, 6, .inl (hf_wrap r1 r2 f))), (px, .inl (cI, 2, .inl g)), (t, .inr (1, [.ref bt, .int 0, .int ml, .int cn])), (bt, .inl (cB, 16, .inl bs)), (o, .inr (4, [.int th, .ref bo, .ref po, .int ak', .int su', .int gt', .int lf', .int rf', .int kn'])), (bo, .inl (cI, 6, .inl h)), (po, .inl (cI, 2, .inl j)), (q, .inr (3, [.long (hn_wrap r1 r2 f n0), sv]))]) (vx_runSW FX ((j_L_wrap l hl0 D cI cB x bx px t f g ak su gt lf rf kn q n0 sv r1 r2) H.size) (my_cwSW FX.2.2.2.2 mh_L_wrap ml_RL_191 (RMok.mk)) ⟨PJ.blind (zAnd_ok (zAnd_ok zz_ok zN_ok) zF_ok), fun U hU hW => ⟨rfl, my_preJ (zAnd_ok (zAnd_ok zz_ok zN_ok) zF_ok) ⟨hz.1.1, hz.1.2.1⟩ hS hA hK hP hD [0, 1, 2, 8] rfl rfl U hU hW⟩⟩ rfl rfl hl.1 rfl (lv_room (Nat.le_of_ble_eq_true rfl)) dL_law_898 ⟨by omega, by omega⟩) hP hD hS hA [0, 1, 2, 8] rfl [3, 4, 5, 6, 7] rfl (by decide) [5, 6, 7, 0, 1, 2, 3, 4, 8] (fun _ => rfl) rfl (fun u1 H locs hp_1 hP hD hS => ?_)
  have hP : va_P D KL [(x, .inr (2, [.ref bx, .ref px, .ref t, .int ak, .int su, .int gt, .int lf, .int rf, .int kn])), (bx, .inl (cI, 6, .inl (hf_wrap r1 r2 f))), (px, .inl (cI, 2, .inl g)), (t, .inr (1, [.ref bt, .int 0, .int ml, .int cn])), (bt, .inl (cB, 16, .inl bs)), (o, .inr (4, [.int th, .ref bo, .ref po, .int ak', .int su', .int gt', .int lf', .int rf', .int kn'])), (bo, .inl (cI, 6, .inl h)), (po, .inl (cI, 2, .inl j)), (q, .inr (3, [.long (hn_wrap r1 r2 f n0), sv]))] H := hP
  have hD : va_D (fun q => s.heap.size ≤ q) [(x, .inr (2, [.ref bx, .ref px, .ref t, .int ak, .int su, .int gt, .int lf, .int rf, .int kn])), (bx, .inl (cI, 6, .inl (hf_wrap r1 r2 f))), (px, .inl (cI, 2, .inl g)), (t, .inr (1, [.ref bt, .int 0, .int ml, .int cn])), (bt, .inl (cB, 16, .inl bs)), (o, .inr (4, [.int th, .ref bo, .ref po, .int ak', .int su', .int gt', .int lf', .int rf', .int kn'])), (bo, .inl (cI, 6, .inl h)), (po, .inl (cI, 2, .inl j)), (q, .inr (3, [.long (hn_wrap r1 r2 f n0), sv]))] := hD
  refine W.eq (g2 := F0 m 901 ls [.int (hk_wrap r1 r2)]) rfl ?_
  refine lv_istore (lv' := [(5, .int (hk_wrap r1 r2)), (4, .int (nI i)), (3, .ref q), (2, .ref o), (1, .ref x), (0, .ref b)]) FX.1 FX.2.1 dL_law_901 hl (by decide) rfl (fun ls hl => ?_)
  refine lv_aload_n FX.1 FX.2.1 dL_law_903 rfl (lv_at hl 3 rfl) ?_
  refine p_rd (k := 1) (v := r1) FX hX hbl hbA hS (lv_at hl 5 rfl) (lv_at hl 1 rfl) dL_law_904 dL_law_905 dL_law_907 dL_law_908 dL_law_909 rfl hin1 ey1 ?_
  refine p_rd (k := 2) (v := r2) FX hX hbl hbA hS (lv_at hl 5 rfl) (lv_at hl 1 rfl) dL_law_910 dL_law_911 dL_law_913 dL_law_914 dL_law_915 rfl hin2 ey2 ?_
  obtain ⟨eT, eA, hI2⟩ := st_wrap r1 r2 n0 hI
  refine c_WRV (wr := [(x, .inr (2, [.ref bx, .ref px, .ref t, .int ak, .int su, .int gt, .int lf, .int rf, .int kn])), (bx, .inl (cI, 6, .inl (hf_wrap r1 r2 f))), (px, .inl (cI, 2, .inl g)), (t, .inr (1, [.ref bt, .int 0, .int ml, .int cn])), (bt, .inl (cB, 16, .inl bs)), (q, .inr (3, [.long (hn_wrap r1 r2 f n0), sv]))]) (wsN := [(x, .inr (2, [.ref bx, .ref px, .ref t, .int ak, .int su, .int gt, .int lf, .int rf, .int kn])), (bx, .inl (cI, 6, .inl (hf_wrap r1 r2 f))), (px, .inl (cI, 2, .inl g)), (t, .inr (1, [.ref bt, .int 0, .int ml, .int cn])), (bt, .inl (cB, 16, .inl bs)), (o, .inr (4, [.int (wth_X2_wrap r1 r2), .ref bo, .ref po, .int ak', .int su', .int gt', .int lf', .int rf', .int kn'])), (bo, .inl (cI, 6, .inl (wf_X2_wrap r1 r2 h))), (po, .inl (cI, 2, .inl j)), (q, .inr (3, [.long (hn_wrap r1 r2 f n0), sv]))]) (i0 := 5) (ci := 4) FX (k_X2_wrap l D cI cB o bo po th h j ak' su' gt' lf' rf' kn' r1 r2) mi_X2_wrap rfl ml_RL_193 (RMok.mk) hl.1 rfl (Nat.le_of_ble_eq_true rfl) dL_law_916 ⟨by omega, by omega⟩ hK hP hD hS hA [5, 6, 7] rfl [0, 1, 2, 3, 4, 8] rfl rfl (by decide) [0, 1, 2, 3, 4, 6, 7, 8, 5] rfl rfl rfl rfl rfl (fun H locs hP hD hS => ?_)
  refine lv_istore (lv' := [(6, .int (v_X2_wrap r1 r2 h)), (5, .int (hk_wrap r1 r2)), (4, .int (nI i)), (3, .ref q), (2, .ref o), (1, .ref x), (0, .ref b)]) FX.1 FX.2.1 dL_law_919 hl (by decide) rfl (fun ls hl => ?_)
  refine lv_aload_n FX.1 FX.2.1 dL_law_921 rfl (lv_at hl 4 rfl) ?_
  refine c_RDV (i0 := 5) (ci := 4) FX (r_X2_thrown l D cI cB o bo po (wth_X2_wrap r1 r2) (wf_X2_wrap r1 r2 h) j ak' su' gt' lf' rf' kn') mi_X2_thrown rfl ml_RL_162 (RMok.mk) hl.1 rfl (Nat.le_of_ble_eq_true rfl) dL_law_922 ⟨by omega, by omega⟩ hK hP [5, 6, 7] rfl rfl rfl rfl ?_
  refine lv_iload FX.1 FX.2.1 dL_law_925 (lv_at hl 1 rfl) ?_
  refine lv_icmp_eq (tgt := 932) FX.1 FX.2.1 dL_law_927 (by decide) (fun c_1 => ?_) (fun c_1 => ?_)
  · refine lv_iload FX.1 FX.2.1 dL_law_932 (lv_at hl 1 rfl) ?_
    refine lv_if_ne (tgt := 950) FX.1 FX.2.1 dL_law_934 (by decide) (fun c_2 => ?_) (fun c_2 => ?_)
    · refine lv_goto (tgt := 2982) FX.1 FX.2.1 dL_law_950 (by decide) ?_
      refine W.widen (k := cc + 33) (n := ss + 321) (by omega) (by omega) ?_
      exact kk H locs (hf_wrap r1 r2 f) g ak su gt lf rf kn ml cn bs (wth_X2_wrap r1 r2) (wf_X2_wrap r1 r2 h) j ak' su' gt' lf' rf' kn' (hn_wrap r1 r2 f n0) sv ls hI2 hb hc hP hD hS (lv_sub hl [2, 3, 4, 5, 6] rfl)
    · refine lv_aload_n FX.1 FX.2.1 dL_law_937 rfl (lv_at hl 3 rfl) ?_
      refine p_getN (ci := 3) (v := .long (hn_wrap r1 r2 f n0)) FX inX1 hK hP 8 rfl rfl 0 (by decide) hz.1.2.1 rfl dL_law_938 ?_
      refine lv_iload FX.1 FX.2.1 dL_law_941 (lv_at hl 0 rfl) ?_
      refine lv_i2l (v := (v_X2_wrap r1 r2 h).toInt64) FX.1 FX.2.1 dL_law_943 rfl ?_
      refine W.eq (g2 := F0 m 944 ls [.long ((v_X2_wrap r1 r2 h).toInt64), .long ((v_X2_wrap r1 r2 h).toInt64)]) (by rw [eA c_2]) ?_
      refine W.lcmp FX.1 FX.2.1 dL_law_944 ?_
      refine W.eq (g2 := F0 m 945 ls [.int 0]) (by rw [lg_self]) ?_
      refine lv_if_eq (tgt := 950) FX.1 FX.2.1 dL_law_945 (by decide) (fun c_3 => ?_) (fun c_3 => ?_)
      · refine lv_goto (tgt := 2982) FX.1 FX.2.1 dL_law_950 (by decide) ?_
        refine W.widen (k := cc + 33) (n := ss + 321) (by omega) (by omega) ?_
        exact kk H locs (hf_wrap r1 r2 f) g ak su gt lf rf kn ml cn bs (wth_X2_wrap r1 r2) (wf_X2_wrap r1 r2 h) j ak' su' gt' lf' rf' kn' (hn_wrap r1 r2 f n0) sv ls hI2 hb hc hP hD hS (lv_sub hl [2, 3, 4, 5, 6] rfl)
      · exact absurd c_3 (by decide)
  · exact absurd eT c_1
set_option maxRecDepth 100000 in
set_option maxHeartbeats 4000000 in
theorem case_9 {p : Program} {l : Launch} {e : Env} {s : State} {m : MethodId} {below : List Frame} {meth : Method} {c : Code} (hl0 : l.stackTraces = false) (D : va_G) (cI cB : ClassId) (b L : Nat) (xs : Nat → Int32) (x bx px t bt o bo po q : Nat) (to tt : Nat) (go gu : Nat → Int32) (na nv : Nat) (nf : Nat → Int32) (nb nw : Nat) (nh : Nat → Int32) (ea ew : Nat) (ef : Nat → Int32) (i cc ss : Nat) (hi : i + 6 ≤ L) (hcc : cc + 33 ≤ room_1.cells) (hss : ss + 321 ≤ room_1.slots) (hL : L ≤ 6) (FX : CallFix p m c cL_law 7 s #[.ref b] bigW RL) (hK : va_K D KL (TY cI cB) s) (hX : va_X b L xs s s.heap) (hbl : b < s.heap.size) (hz : zLaw to tt go gu na nv nf nb nw nh ea ew ef (fun q => s.heap.size ≤ q) s s.heap) (hfn : sb_Fit nf) (hfe : sb_Fit ef) (hnn : TL 4 nf nh) (kk : LGo p l e s m below meth c D cI cB b x bx px t bt o bo po q i 2982 (cc + 33) (ss + 321)) : LGo p l e s m below meth c D cI cB b x bx px t bt o bo po q i 953 cc ss := by
  intro H locs f g ak su gt lf rf kn ml cn bs th h j ak' su' gt' lf' rf' kn' n0 sv ls hI hb hc hP hD hS hl
  have hA : ∀ q : Nat, s.heap.size ≤ q → s.heap.size ≤ q := fun _ h => h
  have hbA : ¬ (fun q : Nat => s.heap.size ≤ q) b := Nat.not_le.mpr hbl
  obtain ⟨r1, ey1⟩ : ∃ y, xs (i + 1) = y := ⟨_, rfl⟩
  have hin1 : i + 1 < L ∧ L < 2 ^ 31 := ⟨by omega, by omega⟩
  obtain ⟨r2, ey2⟩ : ∃ y, xs (i + 2) = y := ⟨_, rfl⟩
  have hin2 : i + 2 < L ∧ L < 2 ^ 31 := ⟨by omega, by omega⟩
  obtain ⟨r3, ey3⟩ : ∃ y, xs (i + 3) = y := ⟨_, rfl⟩
  have hin3 : i + 3 < L ∧ L < 2 ^ 31 := ⟨by omega, by omega⟩
  obtain ⟨r4, ey4⟩ : ∃ y, xs (i + 4) = y := ⟨_, rfl⟩
  have hin4 : i + 4 < L ∧ L < 2 ^ 31 := ⟨by omega, by omega⟩
  obtain ⟨r5, ey5⟩ : ∃ y, xs (i + 5) = y := ⟨_, rfl⟩
  have hin5 : i + 5 < L ∧ L < 2 ^ 31 := ⟨by omega, by omega⟩
  have hl : lv_has ls 7 [(4, .int (nI i)), (3, .ref q), (2, .ref o), (1, .ref x), (0, .ref b)] := hl
  have hP : va_P D KL [(x, .inr (2, [.ref bx, .ref px, .ref t, .int ak, .int su, .int gt, .int lf, .int rf, .int kn])), (bx, .inl (cI, 6, .inl f)), (px, .inl (cI, 2, .inl g)), (t, .inr (1, [.ref bt, .int 0, .int ml, .int cn])), (bt, .inl (cB, 16, .inl bs)), (o, .inr (4, [.int th, .ref bo, .ref po, .int ak', .int su', .int gt', .int lf', .int rf', .int kn'])), (bo, .inl (cI, 6, .inl h)), (po, .inl (cI, 2, .inl j)), (q, .inr (3, [.long n0, sv]))] H := hP
  have hD : va_D (fun q => s.heap.size ≤ q) [(x, .inr (2, [.ref bx, .ref px, .ref t, .int ak, .int su, .int gt, .int lf, .int rf, .int kn])), (bx, .inl (cI, 6, .inl f)), (px, .inl (cI, 2, .inl g)), (t, .inr (1, [.ref bt, .int 0, .int ml, .int cn])), (bt, .inl (cB, 16, .inl bs)), (o, .inr (4, [.int th, .ref bo, .ref po, .int ak', .int su', .int gt', .int lf', .int rf', .int kn'])), (bo, .inl (cI, 6, .inl h)), (po, .inl (cI, 2, .inl j)), (q, .inr (3, [.long n0, sv]))] := hD
  refine lv_aload_n FX.1 FX.2.1 dL_law_953 rfl (lv_at hl 3 rfl) ?_
  refine p_rd (k := 1) (v := r1) FX hX hbl hbA hS (lv_at hl 4 rfl) (lv_at hl 0 rfl) dL_law_954 dL_law_955 dL_law_957 dL_law_958 dL_law_959 rfl hin1 ey1 ?_
  refine p_rd (k := 2) (v := r2) FX hX hbl hbA hS (lv_at hl 4 rfl) (lv_at hl 0 rfl) dL_law_960 dL_law_961 dL_law_963 dL_law_964 dL_law_965 rfl hin2 ey2 ?_
  refine p_rd (k := 3) (v := r3) FX hX hbl hbA hS (lv_at hl 4 rfl) (lv_at hl 0 rfl) dL_law_966 dL_law_967 dL_law_969 dL_law_970 dL_law_971 rfl hin3 ey3 ?_
  refine p_rd (k := 4) (v := r4) FX hX hbl hbA hS (lv_at hl 4 rfl) (lv_at hl 0 rfl) dL_law_972 dL_law_973 dL_law_975 dL_law_976 dL_law_977 rfl hin4 ey4 ?_
  refine p_rd (k := 5) (v := r5) FX hX hbl hbA hS (lv_at hl 4 rfl) (lv_at hl 0 rfl) dL_law_978 dL_law_979 dL_law_981 dL_law_982 dL_law_983 rfl hin5 ey5 ?_
  refine lv_aload_n FX.1 FX.2.1 dL_law_984 rfl (lv_at hl 1 rfl) ?_
  refine c_J (W0 := [(x, .inr (2, [.ref bx, .ref px, .ref t, .int ak, .int su, .int gt, .int lf, .int rf, .int kn])), (bx, .inl (cI, 6, .inl f)), (px, .inl (cI, 2, .inl g)), (q, .inr (3, [.long n0, sv]))]) (wr := [(t, .inr (1, [.ref bt, .int 0, .int ml, .int cn])), (bt, .inl (cB, 16, .inl bs)), (o, .inr (4, [.int th, .ref bo, .ref po, .int ak', .int su', .int gt', .int lf', .int rf', .int kn'])), (bo, .inl (cI, 6, .inl h)), (po, .inl (cI, 2, .inl j))]) (wsN := fun _ => [(x, .inr (2, [.ref bx, .ref px, .ref t, .int (hak_both r1 r2 r3 r4 r5 f ak), .int su, .int gt, .int lf, .int rf, .int kn])), (bx, .inl (cI, 6, .inl (hf_both r1 r2 r3 r4 r5 f))), (px, .inl (cI, 2, .inl g)), (t, .inr (1, [.ref bt, .int 0, .int ml, .int cn])), (bt, .inl (cB, 16, .inl bs)), (o, .inr (4, [.int th, .ref bo, .ref po, .int ak', .int su', .int gt', .int lf', .int rf', .int kn'])), (bo, .inl (cI, 6, .inl h)), (po, .inl (cI, 2, .inl j)), (q, .inr (3, [.long (hn_both r1 r2 r3 r4 r5 f n0), sv]))]) (vx_runSW FX ((j_L_both l hl0 D cI cB x bx px t f g ak su gt lf rf kn q n0 sv r1 r2 r3 r4 r5) H.size) (my_cwSW FX.2.2.2.2 mh_L_both ml_RL_194 (RMok.mk)) ⟨PJ.blind (zAnd_ok (zAnd_ok zz_ok zN_ok) zF_ok), fun U hU hW => ⟨rfl, my_preJ (zAnd_ok (zAnd_ok zz_ok zN_ok) zF_ok) ⟨hz.1.1, hz.1.2.1⟩ hS hA hK hP hD [0, 1, 2, 8] rfl rfl U hU hW⟩⟩ rfl rfl hl.1 rfl (lv_room (Nat.le_of_ble_eq_true rfl)) dL_law_985 ⟨by omega, by omega⟩) hP hD hS hA [0, 1, 2, 8] rfl [3, 4, 5, 6, 7] rfl (by decide) [5, 6, 7, 0, 1, 2, 3, 4, 8] (fun _ => rfl) rfl (fun u1 H locs hp_1 hP hD hS => ?_)
  have hP : va_P D KL [(x, .inr (2, [.ref bx, .ref px, .ref t, .int (hak_both r1 r2 r3 r4 r5 f ak), .int su, .int gt, .int lf, .int rf, .int kn])), (bx, .inl (cI, 6, .inl (hf_both r1 r2 r3 r4 r5 f))), (px, .inl (cI, 2, .inl g)), (t, .inr (1, [.ref bt, .int 0, .int ml, .int cn])), (bt, .inl (cB, 16, .inl bs)), (o, .inr (4, [.int th, .ref bo, .ref po, .int ak', .int su', .int gt', .int lf', .int rf', .int kn'])), (bo, .inl (cI, 6, .inl h)), (po, .inl (cI, 2, .inl j)), (q, .inr (3, [.long (hn_both r1 r2 r3 r4 r5 f n0), sv]))] H := hP
  have hD : va_D (fun q => s.heap.size ≤ q) [(x, .inr (2, [.ref bx, .ref px, .ref t, .int (hak_both r1 r2 r3 r4 r5 f ak), .int su, .int gt, .int lf, .int rf, .int kn])), (bx, .inl (cI, 6, .inl (hf_both r1 r2 r3 r4 r5 f))), (px, .inl (cI, 2, .inl g)), (t, .inr (1, [.ref bt, .int 0, .int ml, .int cn])), (bt, .inl (cB, 16, .inl bs)), (o, .inr (4, [.int th, .ref bo, .ref po, .int ak', .int su', .int gt', .int lf', .int rf', .int kn'])), (bo, .inl (cI, 6, .inl h)), (po, .inl (cI, 2, .inl j)), (q, .inr (3, [.long (hn_both r1 r2 r3 r4 r5 f n0), sv]))] := hD
  refine W.eq (g2 := F0 m 988 ls [.int (hk_both r1 r2 r3 r4 r5)]) rfl ?_
  refine lv_istore (lv' := [(5, .int (hk_both r1 r2 r3 r4 r5)), (4, .int (nI i)), (3, .ref q), (2, .ref o), (1, .ref x), (0, .ref b)]) FX.1 FX.2.1 dL_law_988 hl (by decide) rfl (fun ls hl => ?_)
  refine lv_aload_n FX.1 FX.2.1 dL_law_990 rfl (lv_at hl 3 rfl) ?_
  refine p_rd (k := 1) (v := r1) FX hX hbl hbA hS (lv_at hl 5 rfl) (lv_at hl 1 rfl) dL_law_991 dL_law_992 dL_law_994 dL_law_995 dL_law_996 rfl hin1 ey1 ?_
  refine p_rd (k := 2) (v := r2) FX hX hbl hbA hS (lv_at hl 5 rfl) (lv_at hl 1 rfl) dL_law_997 dL_law_998 dL_law_1000 dL_law_1001 dL_law_1002 rfl hin2 ey2 ?_
  refine p_rd (k := 3) (v := r3) FX hX hbl hbA hS (lv_at hl 5 rfl) (lv_at hl 1 rfl) dL_law_1003 dL_law_1004 dL_law_1006 dL_law_1007 dL_law_1008 rfl hin3 ey3 ?_
  refine p_rd (k := 4) (v := r4) FX hX hbl hbA hS (lv_at hl 5 rfl) (lv_at hl 1 rfl) dL_law_1009 dL_law_1010 dL_law_1012 dL_law_1013 dL_law_1014 rfl hin4 ey4 ?_
  refine p_rd (k := 5) (v := r5) FX hX hbl hbA hS (lv_at hl 5 rfl) (lv_at hl 1 rfl) dL_law_1015 dL_law_1016 dL_law_1018 dL_law_1019 dL_law_1020 rfl hin5 ey5 ?_
  obtain ⟨eT, eA, hI2⟩ := st_both r1 r2 r3 r4 r5 n0 hI
  refine c_WRV (wr := [(x, .inr (2, [.ref bx, .ref px, .ref t, .int (hak_both r1 r2 r3 r4 r5 f ak), .int su, .int gt, .int lf, .int rf, .int kn])), (bx, .inl (cI, 6, .inl (hf_both r1 r2 r3 r4 r5 f))), (px, .inl (cI, 2, .inl g)), (t, .inr (1, [.ref bt, .int 0, .int ml, .int cn])), (bt, .inl (cB, 16, .inl bs)), (q, .inr (3, [.long (hn_both r1 r2 r3 r4 r5 f n0), sv]))]) (wsN := [(x, .inr (2, [.ref bx, .ref px, .ref t, .int (hak_both r1 r2 r3 r4 r5 f ak), .int su, .int gt, .int lf, .int rf, .int kn])), (bx, .inl (cI, 6, .inl (hf_both r1 r2 r3 r4 r5 f))), (px, .inl (cI, 2, .inl g)), (t, .inr (1, [.ref bt, .int 0, .int ml, .int cn])), (bt, .inl (cB, 16, .inl bs)), (o, .inr (4, [.int (wth_X2_both r1 r2 r3 r4 r5), .ref bo, .ref po, .int (wak_X2_both r1 r2 r3 r4 r5 h ak'), .int su', .int gt', .int lf', .int rf', .int kn'])), (bo, .inl (cI, 6, .inl (wf_X2_both r1 r2 r3 r4 r5 h))), (po, .inl (cI, 2, .inl j)), (q, .inr (3, [.long (hn_both r1 r2 r3 r4 r5 f n0), sv]))]) (i0 := 5) (ci := 4) FX (k_X2_both l D cI cB o bo po th h j ak' su' gt' lf' rf' kn' r1 r2 r3 r4 r5) mi_X2_both rfl ml_RL_197 (RMok.mk) hl.1 rfl (Nat.le_of_ble_eq_true rfl) dL_law_1021 ⟨by omega, by omega⟩ hK hP hD hS hA [5, 6, 7] rfl [0, 1, 2, 3, 4, 8] rfl rfl (by decide) [0, 1, 2, 3, 4, 6, 7, 8, 5] rfl rfl rfl rfl rfl (fun H locs hP hD hS => ?_)
  refine lv_istore (lv' := [(6, .int (v_X2_both r1 r2 r3 r4 r5 h)), (5, .int (hk_both r1 r2 r3 r4 r5)), (4, .int (nI i)), (3, .ref q), (2, .ref o), (1, .ref x), (0, .ref b)]) FX.1 FX.2.1 dL_law_1024 hl (by decide) rfl (fun ls hl => ?_)
  refine lv_aload_n FX.1 FX.2.1 dL_law_1026 rfl (lv_at hl 4 rfl) ?_
  refine c_RDV (i0 := 5) (ci := 4) FX (r_X2_thrown l D cI cB o bo po (wth_X2_both r1 r2 r3 r4 r5) (wf_X2_both r1 r2 r3 r4 r5 h) j (wak_X2_both r1 r2 r3 r4 r5 h ak') su' gt' lf' rf' kn') mi_X2_thrown rfl ml_RL_162 (RMok.mk) hl.1 rfl (Nat.le_of_ble_eq_true rfl) dL_law_1027 ⟨by omega, by omega⟩ hK hP [5, 6, 7] rfl rfl rfl rfl ?_
  refine lv_iload FX.1 FX.2.1 dL_law_1030 (lv_at hl 1 rfl) ?_
  refine lv_icmp_eq (tgt := 1037) FX.1 FX.2.1 dL_law_1032 (by decide) (fun c_1 => ?_) (fun c_1 => ?_)
  · refine lv_iload FX.1 FX.2.1 dL_law_1037 (lv_at hl 1 rfl) ?_
    refine lv_if_ne (tgt := 1055) FX.1 FX.2.1 dL_law_1039 (by decide) (fun c_2 => ?_) (fun c_2 => ?_)
    · refine lv_goto (tgt := 2982) FX.1 FX.2.1 dL_law_1055 (by decide) ?_
      refine W.widen (k := cc + 33) (n := ss + 321) (by omega) (by omega) ?_
      exact kk H locs (hf_both r1 r2 r3 r4 r5 f) g (hak_both r1 r2 r3 r4 r5 f ak) su gt lf rf kn ml cn bs (wth_X2_both r1 r2 r3 r4 r5) (wf_X2_both r1 r2 r3 r4 r5 h) j (wak_X2_both r1 r2 r3 r4 r5 h ak') su' gt' lf' rf' kn' (hn_both r1 r2 r3 r4 r5 f n0) sv ls hI2 hb hc hP hD hS (lv_sub hl [2, 3, 4, 5, 6] rfl)
    · refine lv_aload_n FX.1 FX.2.1 dL_law_1042 rfl (lv_at hl 3 rfl) ?_
      refine p_getN (ci := 3) (v := .long (hn_both r1 r2 r3 r4 r5 f n0)) FX inX1 hK hP 8 rfl rfl 0 (by decide) hz.1.2.1 rfl dL_law_1043 ?_
      refine lv_iload FX.1 FX.2.1 dL_law_1046 (lv_at hl 0 rfl) ?_
      refine lv_i2l (v := (v_X2_both r1 r2 r3 r4 r5 h).toInt64) FX.1 FX.2.1 dL_law_1048 rfl ?_
      refine W.eq (g2 := F0 m 1049 ls [.long ((v_X2_both r1 r2 r3 r4 r5 h).toInt64), .long ((v_X2_both r1 r2 r3 r4 r5 h).toInt64)]) (by rw [eA c_2]) ?_
      refine W.lcmp FX.1 FX.2.1 dL_law_1049 ?_
      refine W.eq (g2 := F0 m 1050 ls [.int 0]) (by rw [lg_self]) ?_
      refine lv_if_eq (tgt := 1055) FX.1 FX.2.1 dL_law_1050 (by decide) (fun c_3 => ?_) (fun c_3 => ?_)
      · refine lv_goto (tgt := 2982) FX.1 FX.2.1 dL_law_1055 (by decide) ?_
        refine W.widen (k := cc + 33) (n := ss + 321) (by omega) (by omega) ?_
        exact kk H locs (hf_both r1 r2 r3 r4 r5 f) g (hak_both r1 r2 r3 r4 r5 f ak) su gt lf rf kn ml cn bs (wth_X2_both r1 r2 r3 r4 r5) (wf_X2_both r1 r2 r3 r4 r5 h) j (wak_X2_both r1 r2 r3 r4 r5 h ak') su' gt' lf' rf' kn' (hn_both r1 r2 r3 r4 r5 f n0) sv ls hI2 hb hc hP hD hS (lv_sub hl [2, 3, 4, 5, 6] rfl)
      · exact absurd c_3 (by decide)
  · exact absurd eT c_1
set_option maxRecDepth 100000 in
set_option maxHeartbeats 4000000 in
theorem case_10 {p : Program} {l : Launch} {e : Env} {s : State} {m : MethodId} {below : List Frame} {meth : Method} {c : Code} (hl0 : l.stackTraces = false) (D : va_G) (cI cB : ClassId) (b L : Nat) (xs : Nat → Int32) (x bx px t bt o bo po q : Nat) (to tt : Nat) (go gu : Nat → Int32) (na nv : Nat) (nf : Nat → Int32) (nb nw : Nat) (nh : Nat → Int32) (ea ew : Nat) (ef : Nat → Int32) (i cc ss : Nat) (hi : i + 6 ≤ L) (hcc : cc + 33 ≤ room_1.cells) (hss : ss + 321 ≤ room_1.slots) (hL : L ≤ 6) (FX : CallFix p m c cL_law 7 s #[.ref b] bigW RL) (hK : va_K D KL (TY cI cB) s) (hX : va_X b L xs s s.heap) (hbl : b < s.heap.size) (hz : zLaw to tt go gu na nv nf nb nw nh ea ew ef (fun q => s.heap.size ≤ q) s s.heap) (hfn : sb_Fit nf) (hfe : sb_Fit ef) (hnn : TL 4 nf nh) (kk : LGo p l e s m below meth c D cI cB b x bx px t bt o bo po q i 2982 (cc + 33) (ss + 321)) : LGo p l e s m below meth c D cI cB b x bx px t bt o bo po q i 1058 cc ss := by
  intro H locs f g ak su gt lf rf kn ml cn bs th h j ak' su' gt' lf' rf' kn' n0 sv ls hI hb hc hP hD hS hl
  have hA : ∀ q : Nat, s.heap.size ≤ q → s.heap.size ≤ q := fun _ h => h
  have hbA : ¬ (fun q : Nat => s.heap.size ≤ q) b := Nat.not_le.mpr hbl
  obtain ⟨r1, ey1⟩ : ∃ y, xs (i + 1) = y := ⟨_, rfl⟩
  have hin1 : i + 1 < L ∧ L < 2 ^ 31 := ⟨by omega, by omega⟩
  have hl : lv_has ls 7 [(4, .int (nI i)), (3, .ref q), (2, .ref o), (1, .ref x), (0, .ref b)] := hl
  have hP : va_P D KL [(x, .inr (2, [.ref bx, .ref px, .ref t, .int ak, .int su, .int gt, .int lf, .int rf, .int kn])), (bx, .inl (cI, 6, .inl f)), (px, .inl (cI, 2, .inl g)), (t, .inr (1, [.ref bt, .int 0, .int ml, .int cn])), (bt, .inl (cB, 16, .inl bs)), (o, .inr (4, [.int th, .ref bo, .ref po, .int ak', .int su', .int gt', .int lf', .int rf', .int kn'])), (bo, .inl (cI, 6, .inl h)), (po, .inl (cI, 2, .inl j)), (q, .inr (3, [.long n0, sv]))] H := hP
  have hD : va_D (fun q => s.heap.size ≤ q) [(x, .inr (2, [.ref bx, .ref px, .ref t, .int ak, .int su, .int gt, .int lf, .int rf, .int kn])), (bx, .inl (cI, 6, .inl f)), (px, .inl (cI, 2, .inl g)), (t, .inr (1, [.ref bt, .int 0, .int ml, .int cn])), (bt, .inl (cB, 16, .inl bs)), (o, .inr (4, [.int th, .ref bo, .ref po, .int ak', .int su', .int gt', .int lf', .int rf', .int kn'])), (bo, .inl (cI, 6, .inl h)), (po, .inl (cI, 2, .inl j)), (q, .inr (3, [.long n0, sv]))] := hD
  refine lv_aload_n FX.1 FX.2.1 dL_law_1058 rfl (lv_at hl 3 rfl) ?_
  refine p_rd (k := 1) (v := r1) FX hX hbl hbA hS (lv_at hl 4 rfl) (lv_at hl 0 rfl) dL_law_1059 dL_law_1060 dL_law_1062 dL_law_1063 dL_law_1064 rfl hin1 ey1 ?_
  refine lv_aload_n FX.1 FX.2.1 dL_law_1065 rfl (lv_at hl 1 rfl) ?_
  refine c_J (W0 := [(x, .inr (2, [.ref bx, .ref px, .ref t, .int ak, .int su, .int gt, .int lf, .int rf, .int kn])), (bx, .inl (cI, 6, .inl f)), (px, .inl (cI, 2, .inl g)), (q, .inr (3, [.long n0, sv]))]) (wr := [(t, .inr (1, [.ref bt, .int 0, .int ml, .int cn])), (bt, .inl (cB, 16, .inl bs)), (o, .inr (4, [.int th, .ref bo, .ref po, .int ak', .int su', .int gt', .int lf', .int rf', .int kn'])), (bo, .inl (cI, 6, .inl h)), (po, .inl (cI, 2, .inl j))]) (wsN := fun _ => [(x, .inr (2, [.ref bx, .ref px, .ref t, .int (hak_take r1 f ak), .int (hsu_take r1 f su), .int (hgt_take r1 f gt), .int lf, .int rf, .int kn])), (bx, .inl (cI, 6, .inl f)), (px, .inl (cI, 2, .inl g)), (t, .inr (1, [.ref bt, .int 0, .int ml, .int cn])), (bt, .inl (cB, 16, .inl bs)), (o, .inr (4, [.int th, .ref bo, .ref po, .int ak', .int su', .int gt', .int lf', .int rf', .int kn'])), (bo, .inl (cI, 6, .inl h)), (po, .inl (cI, 2, .inl j)), (q, .inr (3, [.long (hn_take r1 f su n0), sv]))]) (vx_runSW FX ((j_L_take l hl0 D cI cB x bx px t f g ak su gt lf rf kn q n0 sv r1) H.size) (my_cwSW FX.2.2.2.2 mh_L_take ml_RL_198 (RMok.mk)) ⟨PJ.blind (zAnd_ok (zAnd_ok zz_ok zN_ok) zF_ok), fun U hU hW => ⟨rfl, my_preJ (zAnd_ok (zAnd_ok zz_ok zN_ok) zF_ok) ⟨hz.1.1, hz.1.2.1⟩ hS hA hK hP hD [0, 1, 2, 8] rfl rfl U hU hW⟩⟩ rfl rfl hl.1 rfl (lv_room (Nat.le_of_ble_eq_true rfl)) dL_law_1066 ⟨by omega, by omega⟩) hP hD hS hA [0, 1, 2, 8] rfl [3, 4, 5, 6, 7] rfl (by decide) [5, 6, 7, 0, 1, 2, 3, 4, 8] (fun _ => rfl) rfl (fun u1 H locs hp_1 hP hD hS => ?_)
  have hP : va_P D KL [(x, .inr (2, [.ref bx, .ref px, .ref t, .int (hak_take r1 f ak), .int (hsu_take r1 f su), .int (hgt_take r1 f gt), .int lf, .int rf, .int kn])), (bx, .inl (cI, 6, .inl f)), (px, .inl (cI, 2, .inl g)), (t, .inr (1, [.ref bt, .int 0, .int ml, .int cn])), (bt, .inl (cB, 16, .inl bs)), (o, .inr (4, [.int th, .ref bo, .ref po, .int ak', .int su', .int gt', .int lf', .int rf', .int kn'])), (bo, .inl (cI, 6, .inl h)), (po, .inl (cI, 2, .inl j)), (q, .inr (3, [.long (hn_take r1 f su n0), sv]))] H := hP
  have hD : va_D (fun q => s.heap.size ≤ q) [(x, .inr (2, [.ref bx, .ref px, .ref t, .int (hak_take r1 f ak), .int (hsu_take r1 f su), .int (hgt_take r1 f gt), .int lf, .int rf, .int kn])), (bx, .inl (cI, 6, .inl f)), (px, .inl (cI, 2, .inl g)), (t, .inr (1, [.ref bt, .int 0, .int ml, .int cn])), (bt, .inl (cB, 16, .inl bs)), (o, .inr (4, [.int th, .ref bo, .ref po, .int ak', .int su', .int gt', .int lf', .int rf', .int kn'])), (bo, .inl (cI, 6, .inl h)), (po, .inl (cI, 2, .inl j)), (q, .inr (3, [.long (hn_take r1 f su n0), sv]))] := hD
  refine W.eq (g2 := F0 m 1069 ls [.int (hk_take r1)]) rfl ?_
  refine lv_istore (lv' := [(5, .int (hk_take r1)), (4, .int (nI i)), (3, .ref q), (2, .ref o), (1, .ref x), (0, .ref b)]) FX.1 FX.2.1 dL_law_1069 hl (by decide) rfl (fun ls hl => ?_)
  refine lv_aload_n FX.1 FX.2.1 dL_law_1071 rfl (lv_at hl 3 rfl) ?_
  refine p_rd (k := 1) (v := r1) FX hX hbl hbA hS (lv_at hl 5 rfl) (lv_at hl 1 rfl) dL_law_1072 dL_law_1073 dL_law_1075 dL_law_1076 dL_law_1077 rfl hin1 ey1 ?_
  obtain ⟨eT, eA, hI2⟩ := st_take r1 n0 hI
  refine c_WRV (wr := [(x, .inr (2, [.ref bx, .ref px, .ref t, .int (hak_take r1 f ak), .int (hsu_take r1 f su), .int (hgt_take r1 f gt), .int lf, .int rf, .int kn])), (bx, .inl (cI, 6, .inl f)), (px, .inl (cI, 2, .inl g)), (t, .inr (1, [.ref bt, .int 0, .int ml, .int cn])), (bt, .inl (cB, 16, .inl bs)), (q, .inr (3, [.long (hn_take r1 f su n0), sv]))]) (wsN := [(x, .inr (2, [.ref bx, .ref px, .ref t, .int (hak_take r1 f ak), .int (hsu_take r1 f su), .int (hgt_take r1 f gt), .int lf, .int rf, .int kn])), (bx, .inl (cI, 6, .inl f)), (px, .inl (cI, 2, .inl g)), (t, .inr (1, [.ref bt, .int 0, .int ml, .int cn])), (bt, .inl (cB, 16, .inl bs)), (o, .inr (4, [.int (wth_X2_take r1), .ref bo, .ref po, .int (wak_X2_take r1 h ak'), .int (wsu_X2_take r1 h su'), .int (wgt_X2_take r1 h gt'), .int lf', .int rf', .int kn'])), (bo, .inl (cI, 6, .inl h)), (po, .inl (cI, 2, .inl j)), (q, .inr (3, [.long (hn_take r1 f su n0), sv]))]) (i0 := 5) (ci := 4) FX (k_X2_take l D cI cB o bo po th h j ak' su' gt' lf' rf' kn' r1) mi_X2_take rfl ml_RL_200 (RMok.mk) hl.1 rfl (Nat.le_of_ble_eq_true rfl) dL_law_1078 ⟨by omega, by omega⟩ hK hP hD hS hA [5, 6, 7] rfl [0, 1, 2, 3, 4, 8] rfl rfl (by decide) [0, 1, 2, 3, 4, 6, 7, 8, 5] rfl rfl rfl rfl rfl (fun H locs hP hD hS => ?_)
  refine lv_istore (lv' := [(6, .int (v_X2_take r1 h su')), (5, .int (hk_take r1)), (4, .int (nI i)), (3, .ref q), (2, .ref o), (1, .ref x), (0, .ref b)]) FX.1 FX.2.1 dL_law_1081 hl (by decide) rfl (fun ls hl => ?_)
  refine lv_aload_n FX.1 FX.2.1 dL_law_1083 rfl (lv_at hl 4 rfl) ?_
  refine c_RDV (i0 := 5) (ci := 4) FX (r_X2_thrown l D cI cB o bo po (wth_X2_take r1) h j (wak_X2_take r1 h ak') (wsu_X2_take r1 h su') (wgt_X2_take r1 h gt') lf' rf' kn') mi_X2_thrown rfl ml_RL_162 (RMok.mk) hl.1 rfl (Nat.le_of_ble_eq_true rfl) dL_law_1084 ⟨by omega, by omega⟩ hK hP [5, 6, 7] rfl rfl rfl rfl ?_
  refine lv_iload FX.1 FX.2.1 dL_law_1087 (lv_at hl 1 rfl) ?_
  refine lv_icmp_eq (tgt := 1094) FX.1 FX.2.1 dL_law_1089 (by decide) (fun c_1 => ?_) (fun c_1 => ?_)
  · refine lv_iload FX.1 FX.2.1 dL_law_1094 (lv_at hl 1 rfl) ?_
    refine lv_if_ne (tgt := 1112) FX.1 FX.2.1 dL_law_1096 (by decide) (fun c_2 => ?_) (fun c_2 => ?_)
    · refine lv_goto (tgt := 2982) FX.1 FX.2.1 dL_law_1112 (by decide) ?_
      refine W.widen (k := cc + 33) (n := ss + 321) (by omega) (by omega) ?_
      exact kk H locs f g (hak_take r1 f ak) (hsu_take r1 f su) (hgt_take r1 f gt) lf rf kn ml cn bs (wth_X2_take r1) h j (wak_X2_take r1 h ak') (wsu_X2_take r1 h su') (wgt_X2_take r1 h gt') lf' rf' kn' (hn_take r1 f su n0) sv ls hI2 hb hc hP hD hS (lv_sub hl [2, 3, 4, 5, 6] rfl)
    · refine lv_aload_n FX.1 FX.2.1 dL_law_1099 rfl (lv_at hl 3 rfl) ?_
      refine p_getN (ci := 3) (v := .long (hn_take r1 f su n0)) FX inX1 hK hP 8 rfl rfl 0 (by decide) hz.1.2.1 rfl dL_law_1100 ?_
      refine lv_iload FX.1 FX.2.1 dL_law_1103 (lv_at hl 0 rfl) ?_
      refine lv_i2l (v := (v_X2_take r1 h su').toInt64) FX.1 FX.2.1 dL_law_1105 rfl ?_
      refine W.eq (g2 := F0 m 1106 ls [.long ((v_X2_take r1 h su').toInt64), .long ((v_X2_take r1 h su').toInt64)]) (by rw [eA c_2]) ?_
      refine W.lcmp FX.1 FX.2.1 dL_law_1106 ?_
      refine W.eq (g2 := F0 m 1107 ls [.int 0]) (by rw [lg_self]) ?_
      refine lv_if_eq (tgt := 1112) FX.1 FX.2.1 dL_law_1107 (by decide) (fun c_3 => ?_) (fun c_3 => ?_)
      · refine lv_goto (tgt := 2982) FX.1 FX.2.1 dL_law_1112 (by decide) ?_
        refine W.widen (k := cc + 33) (n := ss + 321) (by omega) (by omega) ?_
        exact kk H locs f g (hak_take r1 f ak) (hsu_take r1 f su) (hgt_take r1 f gt) lf rf kn ml cn bs (wth_X2_take r1) h j (wak_X2_take r1 h ak') (wsu_X2_take r1 h su') (wgt_X2_take r1 h gt') lf' rf' kn' (hn_take r1 f su n0) sv ls hI2 hb hc hP hD hS (lv_sub hl [2, 3, 4, 5, 6] rfl)
      · exact absurd c_3 (by decide)
  · exact absurd eT c_1
set_option maxRecDepth 100000 in
set_option maxHeartbeats 4000000 in
theorem case_11 {p : Program} {l : Launch} {e : Env} {s : State} {m : MethodId} {below : List Frame} {meth : Method} {c : Code} (hl0 : l.stackTraces = false) (D : va_G) (cI cB : ClassId) (b L : Nat) (xs : Nat → Int32) (x bx px t bt o bo po q : Nat) (to tt : Nat) (go gu : Nat → Int32) (na nv : Nat) (nf : Nat → Int32) (nb nw : Nat) (nh : Nat → Int32) (ea ew : Nat) (ef : Nat → Int32) (i cc ss : Nat) (hi : i + 6 ≤ L) (hcc : cc + 33 ≤ room_1.cells) (hss : ss + 321 ≤ room_1.slots) (hL : L ≤ 6) (FX : CallFix p m c cL_law 7 s #[.ref b] bigW RL) (hK : va_K D KL (TY cI cB) s) (hX : va_X b L xs s s.heap) (hbl : b < s.heap.size) (hz : zLaw to tt go gu na nv nf nb nw nh ea ew ef (fun q => s.heap.size ≤ q) s s.heap) (hfn : sb_Fit nf) (hfe : sb_Fit ef) (hnn : TL 4 nf nh) (kk : LGo p l e s m below meth c D cI cB b x bx px t bt o bo po q i 2982 (cc + 33) (ss + 321)) : LGo p l e s m below meth c D cI cB b x bx px t bt o bo po q i 1115 cc ss := by
  intro H locs f g ak su gt lf rf kn ml cn bs th h j ak' su' gt' lf' rf' kn' n0 sv ls hI hb hc hP hD hS hl
  have hA : ∀ q : Nat, s.heap.size ≤ q → s.heap.size ≤ q := fun _ h => h
  have hbA : ¬ (fun q : Nat => s.heap.size ≤ q) b := Nat.not_le.mpr hbl
  obtain ⟨r1, ey1⟩ : ∃ y, xs (i + 1) = y := ⟨_, rfl⟩
  have hin1 : i + 1 < L ∧ L < 2 ^ 31 := ⟨by omega, by omega⟩
  have hl : lv_has ls 7 [(4, .int (nI i)), (3, .ref q), (2, .ref o), (1, .ref x), (0, .ref b)] := hl
  have hP : va_P D KL [(x, .inr (2, [.ref bx, .ref px, .ref t, .int ak, .int su, .int gt, .int lf, .int rf, .int kn])), (bx, .inl (cI, 6, .inl f)), (px, .inl (cI, 2, .inl g)), (t, .inr (1, [.ref bt, .int 0, .int ml, .int cn])), (bt, .inl (cB, 16, .inl bs)), (o, .inr (4, [.int th, .ref bo, .ref po, .int ak', .int su', .int gt', .int lf', .int rf', .int kn'])), (bo, .inl (cI, 6, .inl h)), (po, .inl (cI, 2, .inl j)), (q, .inr (3, [.long n0, sv]))] H := hP
  have hD : va_D (fun q => s.heap.size ≤ q) [(x, .inr (2, [.ref bx, .ref px, .ref t, .int ak, .int su, .int gt, .int lf, .int rf, .int kn])), (bx, .inl (cI, 6, .inl f)), (px, .inl (cI, 2, .inl g)), (t, .inr (1, [.ref bt, .int 0, .int ml, .int cn])), (bt, .inl (cB, 16, .inl bs)), (o, .inr (4, [.int th, .ref bo, .ref po, .int ak', .int su', .int gt', .int lf', .int rf', .int kn'])), (bo, .inl (cI, 6, .inl h)), (po, .inl (cI, 2, .inl j)), (q, .inr (3, [.long n0, sv]))] := hD
  refine lv_aload_n FX.1 FX.2.1 dL_law_1115 rfl (lv_at hl 3 rfl) ?_
  refine p_rd (k := 1) (v := r1) FX hX hbl hbA hS (lv_at hl 4 rfl) (lv_at hl 0 rfl) dL_law_1116 dL_law_1117 dL_law_1119 dL_law_1120 dL_law_1121 rfl hin1 ey1 ?_
  refine lv_aload_n FX.1 FX.2.1 dL_law_1122 rfl (lv_at hl 1 rfl) ?_
  refine c_J (W0 := [(x, .inr (2, [.ref bx, .ref px, .ref t, .int ak, .int su, .int gt, .int lf, .int rf, .int kn])), (bx, .inl (cI, 6, .inl f)), (px, .inl (cI, 2, .inl g)), (q, .inr (3, [.long n0, sv]))]) (wr := [(t, .inr (1, [.ref bt, .int 0, .int ml, .int cn])), (bt, .inl (cB, 16, .inl bs)), (o, .inr (4, [.int th, .ref bo, .ref po, .int ak', .int su', .int gt', .int lf', .int rf', .int kn'])), (bo, .inl (cI, 6, .inl h)), (po, .inl (cI, 2, .inl j))]) (wsN := fun _ => [(x, .inr (2, [.ref bx, .ref px, .ref t, .int (hak_takeOrLeave r1 f ak), .int (hsu_takeOrLeave r1 f su), .int (hgt_takeOrLeave r1 f gt), .int (hlf_takeOrLeave r1 f lf), .int rf, .int kn])), (bx, .inl (cI, 6, .inl f)), (px, .inl (cI, 2, .inl g)), (t, .inr (1, [.ref bt, .int 0, .int ml, .int cn])), (bt, .inl (cB, 16, .inl bs)), (o, .inr (4, [.int th, .ref bo, .ref po, .int ak', .int su', .int gt', .int lf', .int rf', .int kn'])), (bo, .inl (cI, 6, .inl h)), (po, .inl (cI, 2, .inl j)), (q, .inr (3, [.long (hn_takeOrLeave r1 f su n0), sv]))]) (vx_runSW FX ((j_L_takeOrLeave l hl0 D cI cB x bx px t f g ak su gt lf rf kn q n0 sv r1) H.size) (my_cwSW FX.2.2.2.2 mh_L_takeOrLeave ml_RL_201 (RMok.mk)) ⟨PJ.blind (zAnd_ok (zAnd_ok zz_ok zN_ok) zF_ok), fun U hU hW => ⟨rfl, my_preJ (zAnd_ok (zAnd_ok zz_ok zN_ok) zF_ok) ⟨hz.1.1, hz.1.2.1⟩ hS hA hK hP hD [0, 1, 2, 8] rfl rfl U hU hW⟩⟩ rfl rfl hl.1 rfl (lv_room (Nat.le_of_ble_eq_true rfl)) dL_law_1123 ⟨by omega, by omega⟩) hP hD hS hA [0, 1, 2, 8] rfl [3, 4, 5, 6, 7] rfl (by decide) [5, 6, 7, 0, 1, 2, 3, 4, 8] (fun _ => rfl) rfl (fun u1 H locs hp_1 hP hD hS => ?_)
  have hP : va_P D KL [(x, .inr (2, [.ref bx, .ref px, .ref t, .int (hak_takeOrLeave r1 f ak), .int (hsu_takeOrLeave r1 f su), .int (hgt_takeOrLeave r1 f gt), .int (hlf_takeOrLeave r1 f lf), .int rf, .int kn])), (bx, .inl (cI, 6, .inl f)), (px, .inl (cI, 2, .inl g)), (t, .inr (1, [.ref bt, .int 0, .int ml, .int cn])), (bt, .inl (cB, 16, .inl bs)), (o, .inr (4, [.int th, .ref bo, .ref po, .int ak', .int su', .int gt', .int lf', .int rf', .int kn'])), (bo, .inl (cI, 6, .inl h)), (po, .inl (cI, 2, .inl j)), (q, .inr (3, [.long (hn_takeOrLeave r1 f su n0), sv]))] H := hP
  have hD : va_D (fun q => s.heap.size ≤ q) [(x, .inr (2, [.ref bx, .ref px, .ref t, .int (hak_takeOrLeave r1 f ak), .int (hsu_takeOrLeave r1 f su), .int (hgt_takeOrLeave r1 f gt), .int (hlf_takeOrLeave r1 f lf), .int rf, .int kn])), (bx, .inl (cI, 6, .inl f)), (px, .inl (cI, 2, .inl g)), (t, .inr (1, [.ref bt, .int 0, .int ml, .int cn])), (bt, .inl (cB, 16, .inl bs)), (o, .inr (4, [.int th, .ref bo, .ref po, .int ak', .int su', .int gt', .int lf', .int rf', .int kn'])), (bo, .inl (cI, 6, .inl h)), (po, .inl (cI, 2, .inl j)), (q, .inr (3, [.long (hn_takeOrLeave r1 f su n0), sv]))] := hD
  refine W.eq (g2 := F0 m 1126 ls [.int (hk_takeOrLeave r1)]) rfl ?_
  refine lv_istore (lv' := [(5, .int (hk_takeOrLeave r1)), (4, .int (nI i)), (3, .ref q), (2, .ref o), (1, .ref x), (0, .ref b)]) FX.1 FX.2.1 dL_law_1126 hl (by decide) rfl (fun ls hl => ?_)
  refine lv_aload_n FX.1 FX.2.1 dL_law_1128 rfl (lv_at hl 3 rfl) ?_
  refine p_rd (k := 1) (v := r1) FX hX hbl hbA hS (lv_at hl 5 rfl) (lv_at hl 1 rfl) dL_law_1129 dL_law_1130 dL_law_1132 dL_law_1133 dL_law_1134 rfl hin1 ey1 ?_
  obtain ⟨eT, eA, hI2⟩ := st_takeOrLeave r1 n0 hI
  refine c_WRV (wr := [(x, .inr (2, [.ref bx, .ref px, .ref t, .int (hak_takeOrLeave r1 f ak), .int (hsu_takeOrLeave r1 f su), .int (hgt_takeOrLeave r1 f gt), .int (hlf_takeOrLeave r1 f lf), .int rf, .int kn])), (bx, .inl (cI, 6, .inl f)), (px, .inl (cI, 2, .inl g)), (t, .inr (1, [.ref bt, .int 0, .int ml, .int cn])), (bt, .inl (cB, 16, .inl bs)), (q, .inr (3, [.long (hn_takeOrLeave r1 f su n0), sv]))]) (wsN := [(x, .inr (2, [.ref bx, .ref px, .ref t, .int (hak_takeOrLeave r1 f ak), .int (hsu_takeOrLeave r1 f su), .int (hgt_takeOrLeave r1 f gt), .int (hlf_takeOrLeave r1 f lf), .int rf, .int kn])), (bx, .inl (cI, 6, .inl f)), (px, .inl (cI, 2, .inl g)), (t, .inr (1, [.ref bt, .int 0, .int ml, .int cn])), (bt, .inl (cB, 16, .inl bs)), (o, .inr (4, [.int (wth_X2_takeOrLeave r1), .ref bo, .ref po, .int (wak_X2_takeOrLeave r1 h ak'), .int (wsu_X2_takeOrLeave r1 h su'), .int (wgt_X2_takeOrLeave r1 h gt'), .int (wlf_X2_takeOrLeave r1 h lf'), .int rf', .int kn'])), (bo, .inl (cI, 6, .inl h)), (po, .inl (cI, 2, .inl j)), (q, .inr (3, [.long (hn_takeOrLeave r1 f su n0), sv]))]) (i0 := 5) (ci := 4) FX (k_X2_takeOrLeave l D cI cB o bo po th h j ak' su' gt' lf' rf' kn' r1) mi_X2_takeOrLeave rfl ml_RL_203 (RMok.mk) hl.1 rfl (Nat.le_of_ble_eq_true rfl) dL_law_1135 ⟨by omega, by omega⟩ hK hP hD hS hA [5, 6, 7] rfl [0, 1, 2, 3, 4, 8] rfl rfl (by decide) [0, 1, 2, 3, 4, 6, 7, 8, 5] rfl rfl rfl rfl rfl (fun H locs hP hD hS => ?_)
  refine lv_istore (lv' := [(6, .int (v_X2_takeOrLeave r1 h su')), (5, .int (hk_takeOrLeave r1)), (4, .int (nI i)), (3, .ref q), (2, .ref o), (1, .ref x), (0, .ref b)]) FX.1 FX.2.1 dL_law_1138 hl (by decide) rfl (fun ls hl => ?_)
  refine lv_aload_n FX.1 FX.2.1 dL_law_1140 rfl (lv_at hl 4 rfl) ?_
  refine c_RDV (i0 := 5) (ci := 4) FX (r_X2_thrown l D cI cB o bo po (wth_X2_takeOrLeave r1) h j (wak_X2_takeOrLeave r1 h ak') (wsu_X2_takeOrLeave r1 h su') (wgt_X2_takeOrLeave r1 h gt') (wlf_X2_takeOrLeave r1 h lf') rf' kn') mi_X2_thrown rfl ml_RL_162 (RMok.mk) hl.1 rfl (Nat.le_of_ble_eq_true rfl) dL_law_1141 ⟨by omega, by omega⟩ hK hP [5, 6, 7] rfl rfl rfl rfl ?_
  refine lv_iload FX.1 FX.2.1 dL_law_1144 (lv_at hl 1 rfl) ?_
  refine lv_icmp_eq (tgt := 1151) FX.1 FX.2.1 dL_law_1146 (by decide) (fun c_1 => ?_) (fun c_1 => ?_)
  · refine lv_iload FX.1 FX.2.1 dL_law_1151 (lv_at hl 1 rfl) ?_
    refine lv_if_ne (tgt := 1169) FX.1 FX.2.1 dL_law_1153 (by decide) (fun c_2 => ?_) (fun c_2 => ?_)
    · refine lv_goto (tgt := 2982) FX.1 FX.2.1 dL_law_1169 (by decide) ?_
      refine W.widen (k := cc + 33) (n := ss + 321) (by omega) (by omega) ?_
      exact kk H locs f g (hak_takeOrLeave r1 f ak) (hsu_takeOrLeave r1 f su) (hgt_takeOrLeave r1 f gt) (hlf_takeOrLeave r1 f lf) rf kn ml cn bs (wth_X2_takeOrLeave r1) h j (wak_X2_takeOrLeave r1 h ak') (wsu_X2_takeOrLeave r1 h su') (wgt_X2_takeOrLeave r1 h gt') (wlf_X2_takeOrLeave r1 h lf') rf' kn' (hn_takeOrLeave r1 f su n0) sv ls hI2 hb hc hP hD hS (lv_sub hl [2, 3, 4, 5, 6] rfl)
    · refine lv_aload_n FX.1 FX.2.1 dL_law_1156 rfl (lv_at hl 3 rfl) ?_
      refine p_getN (ci := 3) (v := .long (hn_takeOrLeave r1 f su n0)) FX inX1 hK hP 8 rfl rfl 0 (by decide) hz.1.2.1 rfl dL_law_1157 ?_
      refine lv_iload FX.1 FX.2.1 dL_law_1160 (lv_at hl 0 rfl) ?_
      refine lv_i2l (v := (v_X2_takeOrLeave r1 h su').toInt64) FX.1 FX.2.1 dL_law_1162 rfl ?_
      refine W.eq (g2 := F0 m 1163 ls [.long ((v_X2_takeOrLeave r1 h su').toInt64), .long ((v_X2_takeOrLeave r1 h su').toInt64)]) (by rw [eA c_2]) ?_
      refine W.lcmp FX.1 FX.2.1 dL_law_1163 ?_
      refine W.eq (g2 := F0 m 1164 ls [.int 0]) (by rw [lg_self]) ?_
      refine lv_if_eq (tgt := 1169) FX.1 FX.2.1 dL_law_1164 (by decide) (fun c_3 => ?_) (fun c_3 => ?_)
      · refine lv_goto (tgt := 2982) FX.1 FX.2.1 dL_law_1169 (by decide) ?_
        refine W.widen (k := cc + 33) (n := ss + 321) (by omega) (by omega) ?_
        exact kk H locs f g (hak_takeOrLeave r1 f ak) (hsu_takeOrLeave r1 f su) (hgt_takeOrLeave r1 f gt) (hlf_takeOrLeave r1 f lf) rf kn ml cn bs (wth_X2_takeOrLeave r1) h j (wak_X2_takeOrLeave r1 h ak') (wsu_X2_takeOrLeave r1 h su') (wgt_X2_takeOrLeave r1 h gt') (wlf_X2_takeOrLeave r1 h lf') rf' kn' (hn_takeOrLeave r1 f su n0) sv ls hI2 hb hc hP hD hS (lv_sub hl [2, 3, 4, 5, 6] rfl)
      · exact absurd c_3 (by decide)
  · exact absurd eT c_1
set_option maxRecDepth 100000 in
set_option maxHeartbeats 4000000 in
theorem case_12 {p : Program} {l : Launch} {e : Env} {s : State} {m : MethodId} {below : List Frame} {meth : Method} {c : Code} (hl0 : l.stackTraces = false) (D : va_G) (cI cB : ClassId) (b L : Nat) (xs : Nat → Int32) (x bx px t bt o bo po q : Nat) (to tt : Nat) (go gu : Nat → Int32) (na nv : Nat) (nf : Nat → Int32) (nb nw : Nat) (nh : Nat → Int32) (ea ew : Nat) (ef : Nat → Int32) (i cc ss : Nat) (hi : i + 6 ≤ L) (hcc : cc + 33 ≤ room_1.cells) (hss : ss + 321 ≤ room_1.slots) (hL : L ≤ 6) (FX : CallFix p m c cL_law 7 s #[.ref b] bigW RL) (hK : va_K D KL (TY cI cB) s) (hX : va_X b L xs s s.heap) (hbl : b < s.heap.size) (hz : zLaw to tt go gu na nv nf nb nw nh ea ew ef (fun q => s.heap.size ≤ q) s s.heap) (hfn : sb_Fit nf) (hfe : sb_Fit ef) (hnn : TL 4 nf nh) (kk : LGo p l e s m below meth c D cI cB b x bx px t bt o bo po q i 2982 (cc + 33) (ss + 321)) : LGo p l e s m below meth c D cI cB b x bx px t bt o bo po q i 1172 cc ss := by
  intro H locs f g ak su gt lf rf kn ml cn bs th h j ak' su' gt' lf' rf' kn' n0 sv ls hI hb hc hP hD hS hl
  have hA : ∀ q : Nat, s.heap.size ≤ q → s.heap.size ≤ q := fun _ h => h
  have hbA : ¬ (fun q : Nat => s.heap.size ≤ q) b := Nat.not_le.mpr hbl
  obtain ⟨r1, ey1⟩ : ∃ y, xs (i + 1) = y := ⟨_, rfl⟩
  have hin1 : i + 1 < L ∧ L < 2 ^ 31 := ⟨by omega, by omega⟩
  have hl : lv_has ls 7 [(4, .int (nI i)), (3, .ref q), (2, .ref o), (1, .ref x), (0, .ref b)] := hl
  have hP : va_P D KL [(x, .inr (2, [.ref bx, .ref px, .ref t, .int ak, .int su, .int gt, .int lf, .int rf, .int kn])), (bx, .inl (cI, 6, .inl f)), (px, .inl (cI, 2, .inl g)), (t, .inr (1, [.ref bt, .int 0, .int ml, .int cn])), (bt, .inl (cB, 16, .inl bs)), (o, .inr (4, [.int th, .ref bo, .ref po, .int ak', .int su', .int gt', .int lf', .int rf', .int kn'])), (bo, .inl (cI, 6, .inl h)), (po, .inl (cI, 2, .inl j)), (q, .inr (3, [.long n0, sv]))] H := hP
  have hD : va_D (fun q => s.heap.size ≤ q) [(x, .inr (2, [.ref bx, .ref px, .ref t, .int ak, .int su, .int gt, .int lf, .int rf, .int kn])), (bx, .inl (cI, 6, .inl f)), (px, .inl (cI, 2, .inl g)), (t, .inr (1, [.ref bt, .int 0, .int ml, .int cn])), (bt, .inl (cB, 16, .inl bs)), (o, .inr (4, [.int th, .ref bo, .ref po, .int ak', .int su', .int gt', .int lf', .int rf', .int kn'])), (bo, .inl (cI, 6, .inl h)), (po, .inl (cI, 2, .inl j)), (q, .inr (3, [.long n0, sv]))] := hD
  refine lv_aload_n FX.1 FX.2.1 dL_law_1172 rfl (lv_at hl 3 rfl) ?_
  refine p_rd (k := 1) (v := r1) FX hX hbl hbA hS (lv_at hl 4 rfl) (lv_at hl 0 rfl) dL_law_1173 dL_law_1174 dL_law_1176 dL_law_1177 dL_law_1178 rfl hin1 ey1 ?_
  refine lv_aload_n FX.1 FX.2.1 dL_law_1179 rfl (lv_at hl 1 rfl) ?_
  refine c_J (W0 := [(x, .inr (2, [.ref bx, .ref px, .ref t, .int ak, .int su, .int gt, .int lf, .int rf, .int kn])), (bx, .inl (cI, 6, .inl f)), (px, .inl (cI, 2, .inl g)), (q, .inr (3, [.long n0, sv]))]) (wr := [(t, .inr (1, [.ref bt, .int 0, .int ml, .int cn])), (bt, .inl (cB, 16, .inl bs)), (o, .inr (4, [.int th, .ref bo, .ref po, .int ak', .int su', .int gt', .int lf', .int rf', .int kn'])), (bo, .inl (cI, 6, .inl h)), (po, .inl (cI, 2, .inl j))]) (wsN := fun _ => [(x, .inr (2, [.ref bx, .ref px, .ref t, .int ak, .int su, .int gt, .int lf, .int (hrf_get r1 f rf), .int kn])), (bx, .inl (cI, 6, .inl f)), (px, .inl (cI, 2, .inl g)), (t, .inr (1, [.ref bt, .int 0, .int ml, .int cn])), (bt, .inl (cB, 16, .inl bs)), (o, .inr (4, [.int th, .ref bo, .ref po, .int ak', .int su', .int gt', .int lf', .int rf', .int kn'])), (bo, .inl (cI, 6, .inl h)), (po, .inl (cI, 2, .inl j)), (q, .inr (3, [.long (hn_get r1 f n0), sv]))]) (vx_runSW FX ((j_L_get l hl0 D cI cB x bx px t f g ak su gt lf rf kn q n0 sv r1) H.size) (my_cwSW FX.2.2.2.2 mh_L_get ml_RL_204 (RMok.mk)) ⟨PJ.blind (zAnd_ok (zAnd_ok zz_ok zN_ok) zF_ok), fun U hU hW => ⟨rfl, my_preJ (zAnd_ok (zAnd_ok zz_ok zN_ok) zF_ok) ⟨hz.1.1, hz.1.2.1⟩ hS hA hK hP hD [0, 1, 2, 8] rfl rfl U hU hW⟩⟩ rfl rfl hl.1 rfl (lv_room (Nat.le_of_ble_eq_true rfl)) dL_law_1180 ⟨by omega, by omega⟩) hP hD hS hA [0, 1, 2, 8] rfl [3, 4, 5, 6, 7] rfl (by decide) [5, 6, 7, 0, 1, 2, 3, 4, 8] (fun _ => rfl) rfl (fun u1 H locs hp_1 hP hD hS => ?_)
  have hP : va_P D KL [(x, .inr (2, [.ref bx, .ref px, .ref t, .int ak, .int su, .int gt, .int lf, .int (hrf_get r1 f rf), .int kn])), (bx, .inl (cI, 6, .inl f)), (px, .inl (cI, 2, .inl g)), (t, .inr (1, [.ref bt, .int 0, .int ml, .int cn])), (bt, .inl (cB, 16, .inl bs)), (o, .inr (4, [.int th, .ref bo, .ref po, .int ak', .int su', .int gt', .int lf', .int rf', .int kn'])), (bo, .inl (cI, 6, .inl h)), (po, .inl (cI, 2, .inl j)), (q, .inr (3, [.long (hn_get r1 f n0), sv]))] H := hP
  have hD : va_D (fun q => s.heap.size ≤ q) [(x, .inr (2, [.ref bx, .ref px, .ref t, .int ak, .int su, .int gt, .int lf, .int (hrf_get r1 f rf), .int kn])), (bx, .inl (cI, 6, .inl f)), (px, .inl (cI, 2, .inl g)), (t, .inr (1, [.ref bt, .int 0, .int ml, .int cn])), (bt, .inl (cB, 16, .inl bs)), (o, .inr (4, [.int th, .ref bo, .ref po, .int ak', .int su', .int gt', .int lf', .int rf', .int kn'])), (bo, .inl (cI, 6, .inl h)), (po, .inl (cI, 2, .inl j)), (q, .inr (3, [.long (hn_get r1 f n0), sv]))] := hD
  refine W.eq (g2 := F0 m 1183 ls [.int (hk_get r1)]) rfl ?_
  refine lv_istore (lv' := [(5, .int (hk_get r1)), (4, .int (nI i)), (3, .ref q), (2, .ref o), (1, .ref x), (0, .ref b)]) FX.1 FX.2.1 dL_law_1183 hl (by decide) rfl (fun ls hl => ?_)
  refine lv_aload_n FX.1 FX.2.1 dL_law_1185 rfl (lv_at hl 3 rfl) ?_
  refine p_rd (k := 1) (v := r1) FX hX hbl hbA hS (lv_at hl 5 rfl) (lv_at hl 1 rfl) dL_law_1186 dL_law_1187 dL_law_1189 dL_law_1190 dL_law_1191 rfl hin1 ey1 ?_
  obtain ⟨eT, eA, hI2⟩ := st_get r1 n0 hI
  refine c_WRV (wr := [(x, .inr (2, [.ref bx, .ref px, .ref t, .int ak, .int su, .int gt, .int lf, .int (hrf_get r1 f rf), .int kn])), (bx, .inl (cI, 6, .inl f)), (px, .inl (cI, 2, .inl g)), (t, .inr (1, [.ref bt, .int 0, .int ml, .int cn])), (bt, .inl (cB, 16, .inl bs)), (q, .inr (3, [.long (hn_get r1 f n0), sv]))]) (wsN := [(x, .inr (2, [.ref bx, .ref px, .ref t, .int ak, .int su, .int gt, .int lf, .int (hrf_get r1 f rf), .int kn])), (bx, .inl (cI, 6, .inl f)), (px, .inl (cI, 2, .inl g)), (t, .inr (1, [.ref bt, .int 0, .int ml, .int cn])), (bt, .inl (cB, 16, .inl bs)), (o, .inr (4, [.int (wth_X2_get r1), .ref bo, .ref po, .int ak', .int su', .int gt', .int lf', .int (wrf_X2_get r1 h rf'), .int kn'])), (bo, .inl (cI, 6, .inl h)), (po, .inl (cI, 2, .inl j)), (q, .inr (3, [.long (hn_get r1 f n0), sv]))]) (i0 := 5) (ci := 4) FX (k_X2_get l D cI cB o bo po th h j ak' su' gt' lf' rf' kn' r1) mi_X2_get rfl ml_RL_206 (RMok.mk) hl.1 rfl (Nat.le_of_ble_eq_true rfl) dL_law_1192 ⟨by omega, by omega⟩ hK hP hD hS hA [5, 6, 7] rfl [0, 1, 2, 3, 4, 8] rfl rfl (by decide) [0, 1, 2, 3, 4, 6, 7, 8, 5] rfl rfl rfl rfl rfl (fun H locs hP hD hS => ?_)
  refine lv_istore (lv' := [(6, .int (v_X2_get r1 h)), (5, .int (hk_get r1)), (4, .int (nI i)), (3, .ref q), (2, .ref o), (1, .ref x), (0, .ref b)]) FX.1 FX.2.1 dL_law_1195 hl (by decide) rfl (fun ls hl => ?_)
  refine lv_aload_n FX.1 FX.2.1 dL_law_1197 rfl (lv_at hl 4 rfl) ?_
  refine c_RDV (i0 := 5) (ci := 4) FX (r_X2_thrown l D cI cB o bo po (wth_X2_get r1) h j ak' su' gt' lf' (wrf_X2_get r1 h rf') kn') mi_X2_thrown rfl ml_RL_162 (RMok.mk) hl.1 rfl (Nat.le_of_ble_eq_true rfl) dL_law_1198 ⟨by omega, by omega⟩ hK hP [5, 6, 7] rfl rfl rfl rfl ?_
  refine lv_iload FX.1 FX.2.1 dL_law_1201 (lv_at hl 1 rfl) ?_
  refine lv_icmp_eq (tgt := 1208) FX.1 FX.2.1 dL_law_1203 (by decide) (fun c_1 => ?_) (fun c_1 => ?_)
  · refine lv_iload FX.1 FX.2.1 dL_law_1208 (lv_at hl 1 rfl) ?_
    refine lv_if_ne (tgt := 1226) FX.1 FX.2.1 dL_law_1210 (by decide) (fun c_2 => ?_) (fun c_2 => ?_)
    · refine lv_goto (tgt := 2982) FX.1 FX.2.1 dL_law_1226 (by decide) ?_
      refine W.widen (k := cc + 33) (n := ss + 321) (by omega) (by omega) ?_
      exact kk H locs f g ak su gt lf (hrf_get r1 f rf) kn ml cn bs (wth_X2_get r1) h j ak' su' gt' lf' (wrf_X2_get r1 h rf') kn' (hn_get r1 f n0) sv ls hI2 hb hc hP hD hS (lv_sub hl [2, 3, 4, 5, 6] rfl)
    · refine lv_aload_n FX.1 FX.2.1 dL_law_1213 rfl (lv_at hl 3 rfl) ?_
      refine p_getN (ci := 3) (v := .long (hn_get r1 f n0)) FX inX1 hK hP 8 rfl rfl 0 (by decide) hz.1.2.1 rfl dL_law_1214 ?_
      refine lv_iload FX.1 FX.2.1 dL_law_1217 (lv_at hl 0 rfl) ?_
      refine lv_i2l (v := (v_X2_get r1 h).toInt64) FX.1 FX.2.1 dL_law_1219 rfl ?_
      refine W.eq (g2 := F0 m 1220 ls [.long ((v_X2_get r1 h).toInt64), .long ((v_X2_get r1 h).toInt64)]) (by rw [eA c_2]) ?_
      refine W.lcmp FX.1 FX.2.1 dL_law_1220 ?_
      refine W.eq (g2 := F0 m 1221 ls [.int 0]) (by rw [lg_self]) ?_
      refine lv_if_eq (tgt := 1226) FX.1 FX.2.1 dL_law_1221 (by decide) (fun c_3 => ?_) (fun c_3 => ?_)
      · refine lv_goto (tgt := 2982) FX.1 FX.2.1 dL_law_1226 (by decide) ?_
        refine W.widen (k := cc + 33) (n := ss + 321) (by omega) (by omega) ?_
        exact kk H locs f g ak su gt lf (hrf_get r1 f rf) kn ml cn bs (wth_X2_get r1) h j ak' su' gt' lf' (wrf_X2_get r1 h rf') kn' (hn_get r1 f n0) sv ls hI2 hb hc hP hD hS (lv_sub hl [2, 3, 4, 5, 6] rfl)
      · exact absurd c_3 (by decide)
  · exact absurd eT c_1
set_option maxRecDepth 100000 in
set_option maxHeartbeats 4000000 in
theorem case_13 {p : Program} {l : Launch} {e : Env} {s : State} {m : MethodId} {below : List Frame} {meth : Method} {c : Code} (hl0 : l.stackTraces = false) (D : va_G) (cI cB : ClassId) (b L : Nat) (xs : Nat → Int32) (x bx px t bt o bo po q : Nat) (to tt : Nat) (go gu : Nat → Int32) (na nv : Nat) (nf : Nat → Int32) (nb nw : Nat) (nh : Nat → Int32) (ea ew : Nat) (ef : Nat → Int32) (i cc ss : Nat) (hi : i + 6 ≤ L) (hcc : cc + 33 ≤ room_1.cells) (hss : ss + 321 ≤ room_1.slots) (hL : L ≤ 6) (FX : CallFix p m c cL_law 7 s #[.ref b] bigW RL) (hK : va_K D KL (TY cI cB) s) (hX : va_X b L xs s s.heap) (hbl : b < s.heap.size) (hz : zLaw to tt go gu na nv nf nb nw nh ea ew ef (fun q => s.heap.size ≤ q) s s.heap) (hfn : sb_Fit nf) (hfe : sb_Fit ef) (hnn : TL 4 nf nh) (kk : LGo p l e s m below meth c D cI cB b x bx px t bt o bo po q i 2982 (cc + 33) (ss + 321)) : LGo p l e s m below meth c D cI cB b x bx px t bt o bo po q i 1229 cc ss := by
  intro H locs f g ak su gt lf rf kn ml cn bs th h j ak' su' gt' lf' rf' kn' n0 sv ls hI hb hc hP hD hS hl
  have hA : ∀ q : Nat, s.heap.size ≤ q → s.heap.size ≤ q := fun _ h => h
  have hbA : ¬ (fun q : Nat => s.heap.size ≤ q) b := Nat.not_le.mpr hbl
  obtain ⟨r1, ey1⟩ : ∃ y, xs (i + 1) = y := ⟨_, rfl⟩
  have hin1 : i + 1 < L ∧ L < 2 ^ 31 := ⟨by omega, by omega⟩
  obtain ⟨r2, ey2⟩ : ∃ y, xs (i + 2) = y := ⟨_, rfl⟩
  have hin2 : i + 2 < L ∧ L < 2 ^ 31 := ⟨by omega, by omega⟩
  have hl : lv_has ls 7 [(4, .int (nI i)), (3, .ref q), (2, .ref o), (1, .ref x), (0, .ref b)] := hl
  have hP : va_P D KL [(x, .inr (2, [.ref bx, .ref px, .ref t, .int ak, .int su, .int gt, .int lf, .int rf, .int kn])), (bx, .inl (cI, 6, .inl f)), (px, .inl (cI, 2, .inl g)), (t, .inr (1, [.ref bt, .int 0, .int ml, .int cn])), (bt, .inl (cB, 16, .inl bs)), (o, .inr (4, [.int th, .ref bo, .ref po, .int ak', .int su', .int gt', .int lf', .int rf', .int kn'])), (bo, .inl (cI, 6, .inl h)), (po, .inl (cI, 2, .inl j)), (q, .inr (3, [.long n0, sv]))] H := hP
  have hD : va_D (fun q => s.heap.size ≤ q) [(x, .inr (2, [.ref bx, .ref px, .ref t, .int ak, .int su, .int gt, .int lf, .int rf, .int kn])), (bx, .inl (cI, 6, .inl f)), (px, .inl (cI, 2, .inl g)), (t, .inr (1, [.ref bt, .int 0, .int ml, .int cn])), (bt, .inl (cB, 16, .inl bs)), (o, .inr (4, [.int th, .ref bo, .ref po, .int ak', .int su', .int gt', .int lf', .int rf', .int kn'])), (bo, .inl (cI, 6, .inl h)), (po, .inl (cI, 2, .inl j)), (q, .inr (3, [.long n0, sv]))] := hD
  refine lv_aload_n FX.1 FX.2.1 dL_law_1229 rfl (lv_at hl 3 rfl) ?_
  refine p_rd (k := 1) (v := r1) FX hX hbl hbA hS (lv_at hl 4 rfl) (lv_at hl 0 rfl) dL_law_1230 dL_law_1231 dL_law_1233 dL_law_1234 dL_law_1235 rfl hin1 ey1 ?_
  refine p_rd (k := 2) (v := r2) FX hX hbl hbA hS (lv_at hl 4 rfl) (lv_at hl 0 rfl) dL_law_1236 dL_law_1237 dL_law_1239 dL_law_1240 dL_law_1241 rfl hin2 ey2 ?_
  refine lv_aload_n FX.1 FX.2.1 dL_law_1242 rfl (lv_at hl 1 rfl) ?_
  refine c_J (W0 := [(x, .inr (2, [.ref bx, .ref px, .ref t, .int ak, .int su, .int gt, .int lf, .int rf, .int kn])), (bx, .inl (cI, 6, .inl f)), (px, .inl (cI, 2, .inl g)), (q, .inr (3, [.long n0, sv]))]) (wr := [(t, .inr (1, [.ref bt, .int 0, .int ml, .int cn])), (bt, .inl (cB, 16, .inl bs)), (o, .inr (4, [.int th, .ref bo, .ref po, .int ak', .int su', .int gt', .int lf', .int rf', .int kn'])), (bo, .inl (cI, 6, .inl h)), (po, .inl (cI, 2, .inl j))]) (wsN := fun _ => [(x, .inr (2, [.ref bx, .ref px, .ref t, .int ak, .int su, .int gt, .int lf, .int rf, .int kn])), (bx, .inl (cI, 6, .inl f)), (px, .inl (cI, 2, .inl g)), (t, .inr (1, [.ref bt, .int 0, .int ml, .int cn])), (bt, .inl (cB, 16, .inl bs)), (o, .inr (4, [.int th, .ref bo, .ref po, .int ak', .int su', .int gt', .int lf', .int rf', .int kn'])), (bo, .inl (cI, 6, .inl h)), (po, .inl (cI, 2, .inl j)), (q, .inr (3, [.long (hn_orElse r1 r2 f n0), sv]))]) (vx_runSW FX ((j_L_orElse l hl0 D cI cB x bx px t f g ak su gt lf rf kn q n0 sv r1 r2) H.size) (my_cwSW FX.2.2.2.2 mh_L_orElse ml_RL_207 (RMok.mk)) ⟨PJ.blind (zAnd_ok (zAnd_ok zz_ok zN_ok) zF_ok), fun U hU hW => ⟨rfl, my_preJ (zAnd_ok (zAnd_ok zz_ok zN_ok) zF_ok) ⟨hz.1.1, hz.1.2.1⟩ hS hA hK hP hD [0, 1, 2, 8] rfl rfl U hU hW⟩⟩ rfl rfl hl.1 rfl (lv_room (Nat.le_of_ble_eq_true rfl)) dL_law_1243 ⟨by omega, by omega⟩) hP hD hS hA [0, 1, 2, 8] rfl [3, 4, 5, 6, 7] rfl (by decide) [5, 6, 7, 0, 1, 2, 3, 4, 8] (fun _ => rfl) rfl (fun u1 H locs hp_1 hP hD hS => ?_)
  have hP : va_P D KL [(x, .inr (2, [.ref bx, .ref px, .ref t, .int ak, .int su, .int gt, .int lf, .int rf, .int kn])), (bx, .inl (cI, 6, .inl f)), (px, .inl (cI, 2, .inl g)), (t, .inr (1, [.ref bt, .int 0, .int ml, .int cn])), (bt, .inl (cB, 16, .inl bs)), (o, .inr (4, [.int th, .ref bo, .ref po, .int ak', .int su', .int gt', .int lf', .int rf', .int kn'])), (bo, .inl (cI, 6, .inl h)), (po, .inl (cI, 2, .inl j)), (q, .inr (3, [.long (hn_orElse r1 r2 f n0), sv]))] H := hP
  have hD : va_D (fun q => s.heap.size ≤ q) [(x, .inr (2, [.ref bx, .ref px, .ref t, .int ak, .int su, .int gt, .int lf, .int rf, .int kn])), (bx, .inl (cI, 6, .inl f)), (px, .inl (cI, 2, .inl g)), (t, .inr (1, [.ref bt, .int 0, .int ml, .int cn])), (bt, .inl (cB, 16, .inl bs)), (o, .inr (4, [.int th, .ref bo, .ref po, .int ak', .int su', .int gt', .int lf', .int rf', .int kn'])), (bo, .inl (cI, 6, .inl h)), (po, .inl (cI, 2, .inl j)), (q, .inr (3, [.long (hn_orElse r1 r2 f n0), sv]))] := hD
  refine W.eq (g2 := F0 m 1246 ls [.int (hk_orElse r1 r2)]) rfl ?_
  refine lv_istore (lv' := [(5, .int (hk_orElse r1 r2)), (4, .int (nI i)), (3, .ref q), (2, .ref o), (1, .ref x), (0, .ref b)]) FX.1 FX.2.1 dL_law_1246 hl (by decide) rfl (fun ls hl => ?_)
  refine lv_aload_n FX.1 FX.2.1 dL_law_1248 rfl (lv_at hl 3 rfl) ?_
  refine p_rd (k := 1) (v := r1) FX hX hbl hbA hS (lv_at hl 5 rfl) (lv_at hl 1 rfl) dL_law_1249 dL_law_1250 dL_law_1252 dL_law_1253 dL_law_1254 rfl hin1 ey1 ?_
  refine p_rd (k := 2) (v := r2) FX hX hbl hbA hS (lv_at hl 5 rfl) (lv_at hl 1 rfl) dL_law_1255 dL_law_1256 dL_law_1258 dL_law_1259 dL_law_1260 rfl hin2 ey2 ?_
  obtain ⟨eT, eA, hI2⟩ := st_orElse r1 r2 n0 hI
  refine c_WRV (wr := [(x, .inr (2, [.ref bx, .ref px, .ref t, .int ak, .int su, .int gt, .int lf, .int rf, .int kn])), (bx, .inl (cI, 6, .inl f)), (px, .inl (cI, 2, .inl g)), (t, .inr (1, [.ref bt, .int 0, .int ml, .int cn])), (bt, .inl (cB, 16, .inl bs)), (q, .inr (3, [.long (hn_orElse r1 r2 f n0), sv]))]) (wsN := [(x, .inr (2, [.ref bx, .ref px, .ref t, .int ak, .int su, .int gt, .int lf, .int rf, .int kn])), (bx, .inl (cI, 6, .inl f)), (px, .inl (cI, 2, .inl g)), (t, .inr (1, [.ref bt, .int 0, .int ml, .int cn])), (bt, .inl (cB, 16, .inl bs)), (o, .inr (4, [.int (wth_X2_orElse r1 r2), .ref bo, .ref po, .int ak', .int su', .int gt', .int lf', .int rf', .int kn'])), (bo, .inl (cI, 6, .inl h)), (po, .inl (cI, 2, .inl j)), (q, .inr (3, [.long (hn_orElse r1 r2 f n0), sv]))]) (i0 := 5) (ci := 4) FX (k_X2_orElse l D cI cB o bo po th h j ak' su' gt' lf' rf' kn' r1 r2) mi_X2_orElse rfl ml_RL_209 (RMok.mk) hl.1 rfl (Nat.le_of_ble_eq_true rfl) dL_law_1261 ⟨by omega, by omega⟩ hK hP hD hS hA [5, 6, 7] rfl [0, 1, 2, 3, 4, 8] rfl rfl (by decide) [0, 1, 2, 3, 4, 6, 7, 8, 5] rfl rfl rfl rfl rfl (fun H locs hP hD hS => ?_)
  refine lv_istore (lv' := [(6, .int (v_X2_orElse r1 r2 h)), (5, .int (hk_orElse r1 r2)), (4, .int (nI i)), (3, .ref q), (2, .ref o), (1, .ref x), (0, .ref b)]) FX.1 FX.2.1 dL_law_1264 hl (by decide) rfl (fun ls hl => ?_)
  refine lv_aload_n FX.1 FX.2.1 dL_law_1266 rfl (lv_at hl 4 rfl) ?_
  refine c_RDV (i0 := 5) (ci := 4) FX (r_X2_thrown l D cI cB o bo po (wth_X2_orElse r1 r2) h j ak' su' gt' lf' rf' kn') mi_X2_thrown rfl ml_RL_162 (RMok.mk) hl.1 rfl (Nat.le_of_ble_eq_true rfl) dL_law_1267 ⟨by omega, by omega⟩ hK hP [5, 6, 7] rfl rfl rfl rfl ?_
  refine lv_iload FX.1 FX.2.1 dL_law_1270 (lv_at hl 1 rfl) ?_
  refine lv_icmp_eq (tgt := 1277) FX.1 FX.2.1 dL_law_1272 (by decide) (fun c_1 => ?_) (fun c_1 => ?_)
  · refine lv_iload FX.1 FX.2.1 dL_law_1277 (lv_at hl 1 rfl) ?_
    refine lv_if_ne (tgt := 1295) FX.1 FX.2.1 dL_law_1279 (by decide) (fun c_2 => ?_) (fun c_2 => ?_)
    · refine lv_goto (tgt := 2982) FX.1 FX.2.1 dL_law_1295 (by decide) ?_
      refine W.widen (k := cc + 33) (n := ss + 321) (by omega) (by omega) ?_
      exact kk H locs f g ak su gt lf rf kn ml cn bs (wth_X2_orElse r1 r2) h j ak' su' gt' lf' rf' kn' (hn_orElse r1 r2 f n0) sv ls hI2 hb hc hP hD hS (lv_sub hl [2, 3, 4, 5, 6] rfl)
    · refine lv_aload_n FX.1 FX.2.1 dL_law_1282 rfl (lv_at hl 3 rfl) ?_
      refine p_getN (ci := 3) (v := .long (hn_orElse r1 r2 f n0)) FX inX1 hK hP 8 rfl rfl 0 (by decide) hz.1.2.1 rfl dL_law_1283 ?_
      refine lv_iload FX.1 FX.2.1 dL_law_1286 (lv_at hl 0 rfl) ?_
      refine lv_i2l (v := (v_X2_orElse r1 r2 h).toInt64) FX.1 FX.2.1 dL_law_1288 rfl ?_
      refine W.eq (g2 := F0 m 1289 ls [.long ((v_X2_orElse r1 r2 h).toInt64), .long ((v_X2_orElse r1 r2 h).toInt64)]) (by rw [eA c_2]) ?_
      refine W.lcmp FX.1 FX.2.1 dL_law_1289 ?_
      refine W.eq (g2 := F0 m 1290 ls [.int 0]) (by rw [lg_self]) ?_
      refine lv_if_eq (tgt := 1295) FX.1 FX.2.1 dL_law_1290 (by decide) (fun c_3 => ?_) (fun c_3 => ?_)
      · refine lv_goto (tgt := 2982) FX.1 FX.2.1 dL_law_1295 (by decide) ?_
        refine W.widen (k := cc + 33) (n := ss + 321) (by omega) (by omega) ?_
        exact kk H locs f g ak su gt lf rf kn ml cn bs (wth_X2_orElse r1 r2) h j ak' su' gt' lf' rf' kn' (hn_orElse r1 r2 f n0) sv ls hI2 hb hc hP hD hS (lv_sub hl [2, 3, 4, 5, 6] rfl)
      · exact absurd c_3 (by decide)
  · exact absurd eT c_1
set_option maxRecDepth 100000 in
set_option maxHeartbeats 4000000 in
theorem case_14 {p : Program} {l : Launch} {e : Env} {s : State} {m : MethodId} {below : List Frame} {meth : Method} {c : Code} (hl0 : l.stackTraces = false) (D : va_G) (cI cB : ClassId) (b L : Nat) (xs : Nat → Int32) (x bx px t bt o bo po q : Nat) (to tt : Nat) (go gu : Nat → Int32) (na nv : Nat) (nf : Nat → Int32) (nb nw : Nat) (nh : Nat → Int32) (ea ew : Nat) (ef : Nat → Int32) (i cc ss : Nat) (hi : i + 6 ≤ L) (hcc : cc + 33 ≤ room_1.cells) (hss : ss + 321 ≤ room_1.slots) (hL : L ≤ 6) (FX : CallFix p m c cL_law 7 s #[.ref b] bigW RL) (hK : va_K D KL (TY cI cB) s) (hX : va_X b L xs s s.heap) (hbl : b < s.heap.size) (hz : zLaw to tt go gu na nv nf nb nw nh ea ew ef (fun q => s.heap.size ≤ q) s s.heap) (hfn : sb_Fit nf) (hfe : sb_Fit ef) (hnn : TL 4 nf nh) (kk : LGo p l e s m below meth c D cI cB b x bx px t bt o bo po q i 2982 (cc + 33) (ss + 321)) : LGo p l e s m below meth c D cI cB b x bx px t bt o bo po q i 1298 cc ss := by
  intro H locs f g ak su gt lf rf kn ml cn bs th h j ak' su' gt' lf' rf' kn' n0 sv ls hI hb hc hP hD hS hl
  have hA : ∀ q : Nat, s.heap.size ≤ q → s.heap.size ≤ q := fun _ h => h
  have hbA : ¬ (fun q : Nat => s.heap.size ≤ q) b := Nat.not_le.mpr hbl
  obtain ⟨r1, ey1⟩ : ∃ y, xs (i + 1) = y := ⟨_, rfl⟩
  have hin1 : i + 1 < L ∧ L < 2 ^ 31 := ⟨by omega, by omega⟩
  obtain ⟨r2, ey2⟩ : ∃ y, xs (i + 2) = y := ⟨_, rfl⟩
  have hin2 : i + 2 < L ∧ L < 2 ^ 31 := ⟨by omega, by omega⟩
  have hl : lv_has ls 7 [(4, .int (nI i)), (3, .ref q), (2, .ref o), (1, .ref x), (0, .ref b)] := hl
  have hP : va_P D KL [(x, .inr (2, [.ref bx, .ref px, .ref t, .int ak, .int su, .int gt, .int lf, .int rf, .int kn])), (bx, .inl (cI, 6, .inl f)), (px, .inl (cI, 2, .inl g)), (t, .inr (1, [.ref bt, .int 0, .int ml, .int cn])), (bt, .inl (cB, 16, .inl bs)), (o, .inr (4, [.int th, .ref bo, .ref po, .int ak', .int su', .int gt', .int lf', .int rf', .int kn'])), (bo, .inl (cI, 6, .inl h)), (po, .inl (cI, 2, .inl j)), (q, .inr (3, [.long n0, sv]))] H := hP
  have hD : va_D (fun q => s.heap.size ≤ q) [(x, .inr (2, [.ref bx, .ref px, .ref t, .int ak, .int su, .int gt, .int lf, .int rf, .int kn])), (bx, .inl (cI, 6, .inl f)), (px, .inl (cI, 2, .inl g)), (t, .inr (1, [.ref bt, .int 0, .int ml, .int cn])), (bt, .inl (cB, 16, .inl bs)), (o, .inr (4, [.int th, .ref bo, .ref po, .int ak', .int su', .int gt', .int lf', .int rf', .int kn'])), (bo, .inl (cI, 6, .inl h)), (po, .inl (cI, 2, .inl j)), (q, .inr (3, [.long n0, sv]))] := hD
  refine lv_aload_n FX.1 FX.2.1 dL_law_1298 rfl (lv_at hl 3 rfl) ?_
  refine p_rd (k := 1) (v := r1) FX hX hbl hbA hS (lv_at hl 4 rfl) (lv_at hl 0 rfl) dL_law_1299 dL_law_1300 dL_law_1302 dL_law_1303 dL_law_1304 rfl hin1 ey1 ?_
  refine p_rd (k := 2) (v := r2) FX hX hbl hbA hS (lv_at hl 4 rfl) (lv_at hl 0 rfl) dL_law_1305 dL_law_1306 dL_law_1308 dL_law_1309 dL_law_1310 rfl hin2 ey2 ?_
  refine lv_aload_n FX.1 FX.2.1 dL_law_1311 rfl (lv_at hl 1 rfl) ?_
  refine c_J (W0 := [(x, .inr (2, [.ref bx, .ref px, .ref t, .int ak, .int su, .int gt, .int lf, .int rf, .int kn])), (bx, .inl (cI, 6, .inl f)), (px, .inl (cI, 2, .inl g)), (q, .inr (3, [.long n0, sv]))]) (wr := [(t, .inr (1, [.ref bt, .int 0, .int ml, .int cn])), (bt, .inl (cB, 16, .inl bs)), (o, .inr (4, [.int th, .ref bo, .ref po, .int ak', .int su', .int gt', .int lf', .int rf', .int kn'])), (bo, .inl (cI, 6, .inl h)), (po, .inl (cI, 2, .inl j))]) (wsN := fun _ => [(x, .inr (2, [.ref bx, .ref px, .ref t, .int (hak_orElseGet r1 r2 f ak), .int su, .int gt, .int lf, .int rf, .int kn])), (bx, .inl (cI, 6, .inl f)), (px, .inl (cI, 2, .inl g)), (t, .inr (1, [.ref bt, .int 0, .int ml, .int cn])), (bt, .inl (cB, 16, .inl bs)), (o, .inr (4, [.int th, .ref bo, .ref po, .int ak', .int su', .int gt', .int lf', .int rf', .int kn'])), (bo, .inl (cI, 6, .inl h)), (po, .inl (cI, 2, .inl j)), (q, .inr (3, [.long (hn_orElseGet r1 r2 f ak n0), sv]))]) (vx_runSW FX ((j_L_orElseGet l hl0 D cI cB x bx px t f g ak su gt lf rf kn q n0 sv r1 r2) H.size) (my_cwSW FX.2.2.2.2 mh_L_orElseGet ml_RL_210 (RMok.mk)) ⟨PJ.blind (zAnd_ok (zAnd_ok zz_ok zN_ok) zF_ok), fun U hU hW => ⟨rfl, my_preJ (zAnd_ok (zAnd_ok zz_ok zN_ok) zF_ok) ⟨hz.1.1, hz.1.2.1⟩ hS hA hK hP hD [0, 1, 2, 8] rfl rfl U hU hW⟩⟩ rfl rfl hl.1 rfl (lv_room (Nat.le_of_ble_eq_true rfl)) dL_law_1312 ⟨by omega, by omega⟩) hP hD hS hA [0, 1, 2, 8] rfl [3, 4, 5, 6, 7] rfl (by decide) [5, 6, 7, 0, 1, 2, 3, 4, 8] (fun _ => rfl) rfl (fun u1 H locs hp_1 hP hD hS => ?_)
  have hP : va_P D KL [(x, .inr (2, [.ref bx, .ref px, .ref t, .int (hak_orElseGet r1 r2 f ak), .int su, .int gt, .int lf, .int rf, .int kn])), (bx, .inl (cI, 6, .inl f)), (px, .inl (cI, 2, .inl g)), (t, .inr (1, [.ref bt, .int 0, .int ml, .int cn])), (bt, .inl (cB, 16, .inl bs)), (o, .inr (4, [.int th, .ref bo, .ref po, .int ak', .int su', .int gt', .int lf', .int rf', .int kn'])), (bo, .inl (cI, 6, .inl h)), (po, .inl (cI, 2, .inl j)), (q, .inr (3, [.long (hn_orElseGet r1 r2 f ak n0), sv]))] H := hP
  have hD : va_D (fun q => s.heap.size ≤ q) [(x, .inr (2, [.ref bx, .ref px, .ref t, .int (hak_orElseGet r1 r2 f ak), .int su, .int gt, .int lf, .int rf, .int kn])), (bx, .inl (cI, 6, .inl f)), (px, .inl (cI, 2, .inl g)), (t, .inr (1, [.ref bt, .int 0, .int ml, .int cn])), (bt, .inl (cB, 16, .inl bs)), (o, .inr (4, [.int th, .ref bo, .ref po, .int ak', .int su', .int gt', .int lf', .int rf', .int kn'])), (bo, .inl (cI, 6, .inl h)), (po, .inl (cI, 2, .inl j)), (q, .inr (3, [.long (hn_orElseGet r1 r2 f ak n0), sv]))] := hD
  refine W.eq (g2 := F0 m 1315 ls [.int (hk_orElseGet r1 r2)]) rfl ?_
  refine lv_istore (lv' := [(5, .int (hk_orElseGet r1 r2)), (4, .int (nI i)), (3, .ref q), (2, .ref o), (1, .ref x), (0, .ref b)]) FX.1 FX.2.1 dL_law_1315 hl (by decide) rfl (fun ls hl => ?_)
  refine lv_aload_n FX.1 FX.2.1 dL_law_1317 rfl (lv_at hl 3 rfl) ?_
  refine p_rd (k := 1) (v := r1) FX hX hbl hbA hS (lv_at hl 5 rfl) (lv_at hl 1 rfl) dL_law_1318 dL_law_1319 dL_law_1321 dL_law_1322 dL_law_1323 rfl hin1 ey1 ?_
  refine p_rd (k := 2) (v := r2) FX hX hbl hbA hS (lv_at hl 5 rfl) (lv_at hl 1 rfl) dL_law_1324 dL_law_1325 dL_law_1327 dL_law_1328 dL_law_1329 rfl hin2 ey2 ?_
  obtain ⟨eT, eA, hI2⟩ := st_orElseGet r1 r2 n0 hI
  refine c_WRV (wr := [(x, .inr (2, [.ref bx, .ref px, .ref t, .int (hak_orElseGet r1 r2 f ak), .int su, .int gt, .int lf, .int rf, .int kn])), (bx, .inl (cI, 6, .inl f)), (px, .inl (cI, 2, .inl g)), (t, .inr (1, [.ref bt, .int 0, .int ml, .int cn])), (bt, .inl (cB, 16, .inl bs)), (q, .inr (3, [.long (hn_orElseGet r1 r2 f ak n0), sv]))]) (wsN := [(x, .inr (2, [.ref bx, .ref px, .ref t, .int (hak_orElseGet r1 r2 f ak), .int su, .int gt, .int lf, .int rf, .int kn])), (bx, .inl (cI, 6, .inl f)), (px, .inl (cI, 2, .inl g)), (t, .inr (1, [.ref bt, .int 0, .int ml, .int cn])), (bt, .inl (cB, 16, .inl bs)), (o, .inr (4, [.int (wth_X2_orElseGet r1 r2), .ref bo, .ref po, .int (wak_X2_orElseGet r1 r2 h ak'), .int su', .int gt', .int lf', .int rf', .int kn'])), (bo, .inl (cI, 6, .inl h)), (po, .inl (cI, 2, .inl j)), (q, .inr (3, [.long (hn_orElseGet r1 r2 f ak n0), sv]))]) (i0 := 5) (ci := 4) FX (k_X2_orElseGet l D cI cB o bo po th h j ak' su' gt' lf' rf' kn' r1 r2) mi_X2_orElseGet rfl ml_RL_212 (RMok.mk) hl.1 rfl (Nat.le_of_ble_eq_true rfl) dL_law_1330 ⟨by omega, by omega⟩ hK hP hD hS hA [5, 6, 7] rfl [0, 1, 2, 3, 4, 8] rfl rfl (by decide) [0, 1, 2, 3, 4, 6, 7, 8, 5] rfl rfl rfl rfl rfl (fun H locs hP hD hS => ?_)
  refine lv_istore (lv' := [(6, .int (v_X2_orElseGet r1 r2 h ak')), (5, .int (hk_orElseGet r1 r2)), (4, .int (nI i)), (3, .ref q), (2, .ref o), (1, .ref x), (0, .ref b)]) FX.1 FX.2.1 dL_law_1333 hl (by decide) rfl (fun ls hl => ?_)
  refine lv_aload_n FX.1 FX.2.1 dL_law_1335 rfl (lv_at hl 4 rfl) ?_
  refine c_RDV (i0 := 5) (ci := 4) FX (r_X2_thrown l D cI cB o bo po (wth_X2_orElseGet r1 r2) h j (wak_X2_orElseGet r1 r2 h ak') su' gt' lf' rf' kn') mi_X2_thrown rfl ml_RL_162 (RMok.mk) hl.1 rfl (Nat.le_of_ble_eq_true rfl) dL_law_1336 ⟨by omega, by omega⟩ hK hP [5, 6, 7] rfl rfl rfl rfl ?_
  refine lv_iload FX.1 FX.2.1 dL_law_1339 (lv_at hl 1 rfl) ?_
  refine lv_icmp_eq (tgt := 1346) FX.1 FX.2.1 dL_law_1341 (by decide) (fun c_1 => ?_) (fun c_1 => ?_)
  · refine lv_iload FX.1 FX.2.1 dL_law_1346 (lv_at hl 1 rfl) ?_
    refine lv_if_ne (tgt := 1364) FX.1 FX.2.1 dL_law_1348 (by decide) (fun c_2 => ?_) (fun c_2 => ?_)
    · refine lv_goto (tgt := 2982) FX.1 FX.2.1 dL_law_1364 (by decide) ?_
      refine W.widen (k := cc + 33) (n := ss + 321) (by omega) (by omega) ?_
      exact kk H locs f g (hak_orElseGet r1 r2 f ak) su gt lf rf kn ml cn bs (wth_X2_orElseGet r1 r2) h j (wak_X2_orElseGet r1 r2 h ak') su' gt' lf' rf' kn' (hn_orElseGet r1 r2 f ak n0) sv ls hI2 hb hc hP hD hS (lv_sub hl [2, 3, 4, 5, 6] rfl)
    · refine lv_aload_n FX.1 FX.2.1 dL_law_1351 rfl (lv_at hl 3 rfl) ?_
      refine p_getN (ci := 3) (v := .long (hn_orElseGet r1 r2 f ak n0)) FX inX1 hK hP 8 rfl rfl 0 (by decide) hz.1.2.1 rfl dL_law_1352 ?_
      refine lv_iload FX.1 FX.2.1 dL_law_1355 (lv_at hl 0 rfl) ?_
      refine lv_i2l (v := (v_X2_orElseGet r1 r2 h ak').toInt64) FX.1 FX.2.1 dL_law_1357 rfl ?_
      refine W.eq (g2 := F0 m 1358 ls [.long ((v_X2_orElseGet r1 r2 h ak').toInt64), .long ((v_X2_orElseGet r1 r2 h ak').toInt64)]) (by rw [eA c_2]) ?_
      refine W.lcmp FX.1 FX.2.1 dL_law_1358 ?_
      refine W.eq (g2 := F0 m 1359 ls [.int 0]) (by rw [lg_self]) ?_
      refine lv_if_eq (tgt := 1364) FX.1 FX.2.1 dL_law_1359 (by decide) (fun c_3 => ?_) (fun c_3 => ?_)
      · refine lv_goto (tgt := 2982) FX.1 FX.2.1 dL_law_1364 (by decide) ?_
        refine W.widen (k := cc + 33) (n := ss + 321) (by omega) (by omega) ?_
        exact kk H locs f g (hak_orElseGet r1 r2 f ak) su gt lf rf kn ml cn bs (wth_X2_orElseGet r1 r2) h j (wak_X2_orElseGet r1 r2 h ak') su' gt' lf' rf' kn' (hn_orElseGet r1 r2 f ak n0) sv ls hI2 hb hc hP hD hS (lv_sub hl [2, 3, 4, 5, 6] rfl)
      · exact absurd c_3 (by decide)
  · exact absurd eT c_1
set_option maxRecDepth 100000 in
set_option maxHeartbeats 4000000 in
theorem case_15 {p : Program} {l : Launch} {e : Env} {s : State} {m : MethodId} {below : List Frame} {meth : Method} {c : Code} (hl0 : l.stackTraces = false) (D : va_G) (cI cB : ClassId) (b L : Nat) (xs : Nat → Int32) (x bx px t bt o bo po q : Nat) (to tt : Nat) (go gu : Nat → Int32) (na nv : Nat) (nf : Nat → Int32) (nb nw : Nat) (nh : Nat → Int32) (ea ew : Nat) (ef : Nat → Int32) (i cc ss : Nat) (hi : i + 6 ≤ L) (hcc : cc + 33 ≤ room_1.cells) (hss : ss + 321 ≤ room_1.slots) (hL : L ≤ 6) (FX : CallFix p m c cL_law 7 s #[.ref b] bigW RL) (hK : va_K D KL (TY cI cB) s) (hX : va_X b L xs s s.heap) (hbl : b < s.heap.size) (hz : zLaw to tt go gu na nv nf nb nw nh ea ew ef (fun q => s.heap.size ≤ q) s s.heap) (hfn : sb_Fit nf) (hfe : sb_Fit ef) (hnn : TL 4 nf nh) (kk : LGo p l e s m below meth c D cI cB b x bx px t bt o bo po q i 2982 (cc + 33) (ss + 321)) : LGo p l e s m below meth c D cI cB b x bx px t bt o bo po q i 1367 cc ss := by
  intro H locs f g ak su gt lf rf kn ml cn bs th h j ak' su' gt' lf' rf' kn' n0 sv ls hI hb hc hP hD hS hl
  have hA : ∀ q : Nat, s.heap.size ≤ q → s.heap.size ≤ q := fun _ h => h
  have hbA : ¬ (fun q : Nat => s.heap.size ≤ q) b := Nat.not_le.mpr hbl
  obtain ⟨r1, ey1⟩ : ∃ y, xs (i + 1) = y := ⟨_, rfl⟩
  have hin1 : i + 1 < L ∧ L < 2 ^ 31 := ⟨by omega, by omega⟩
  have hl : lv_has ls 7 [(4, .int (nI i)), (3, .ref q), (2, .ref o), (1, .ref x), (0, .ref b)] := hl
  have hP : va_P D KL [(x, .inr (2, [.ref bx, .ref px, .ref t, .int ak, .int su, .int gt, .int lf, .int rf, .int kn])), (bx, .inl (cI, 6, .inl f)), (px, .inl (cI, 2, .inl g)), (t, .inr (1, [.ref bt, .int 0, .int ml, .int cn])), (bt, .inl (cB, 16, .inl bs)), (o, .inr (4, [.int th, .ref bo, .ref po, .int ak', .int su', .int gt', .int lf', .int rf', .int kn'])), (bo, .inl (cI, 6, .inl h)), (po, .inl (cI, 2, .inl j)), (q, .inr (3, [.long n0, sv]))] H := hP
  have hD : va_D (fun q => s.heap.size ≤ q) [(x, .inr (2, [.ref bx, .ref px, .ref t, .int ak, .int su, .int gt, .int lf, .int rf, .int kn])), (bx, .inl (cI, 6, .inl f)), (px, .inl (cI, 2, .inl g)), (t, .inr (1, [.ref bt, .int 0, .int ml, .int cn])), (bt, .inl (cB, 16, .inl bs)), (o, .inr (4, [.int th, .ref bo, .ref po, .int ak', .int su', .int gt', .int lf', .int rf', .int kn'])), (bo, .inl (cI, 6, .inl h)), (po, .inl (cI, 2, .inl j)), (q, .inr (3, [.long n0, sv]))] := hD
  refine lv_aload_n FX.1 FX.2.1 dL_law_1367 rfl (lv_at hl 3 rfl) ?_
  refine p_rd (k := 1) (v := r1) FX hX hbl hbA hS (lv_at hl 4 rfl) (lv_at hl 0 rfl) dL_law_1368 dL_law_1369 dL_law_1371 dL_law_1372 dL_law_1373 rfl hin1 ey1 ?_
  refine lv_aload_n FX.1 FX.2.1 dL_law_1374 rfl (lv_at hl 1 rfl) ?_
  refine c_J (W0 := [(x, .inr (2, [.ref bx, .ref px, .ref t, .int ak, .int su, .int gt, .int lf, .int rf, .int kn])), (bx, .inl (cI, 6, .inl f)), (px, .inl (cI, 2, .inl g)), (q, .inr (3, [.long n0, sv]))]) (wr := [(t, .inr (1, [.ref bt, .int 0, .int ml, .int cn])), (bt, .inl (cB, 16, .inl bs)), (o, .inr (4, [.int th, .ref bo, .ref po, .int ak', .int su', .int gt', .int lf', .int rf', .int kn'])), (bo, .inl (cI, 6, .inl h)), (po, .inl (cI, 2, .inl j))]) (wsN := fun _ => [(x, .inr (2, [.ref bx, .ref px, .ref t, .int ak, .int su, .int gt, .int lf, .int rf, .int kn])), (bx, .inl (cI, 6, .inl f)), (px, .inl (cI, 2, .inl g)), (t, .inr (1, [.ref bt, .int 0, .int ml, .int cn])), (bt, .inl (cB, 16, .inl bs)), (o, .inr (4, [.int th, .ref bo, .ref po, .int ak', .int su', .int gt', .int lf', .int rf', .int kn'])), (bo, .inl (cI, 6, .inl h)), (po, .inl (cI, 2, .inl j)), (q, .inr (3, [.long (hn_orElseThrow r1 f n0), sv]))]) (vx_runSW FX ((j_L_orElseThrow l hl0 D cI cB x bx px t f g ak su gt lf rf kn q n0 sv r1) H.size) (my_cwSW FX.2.2.2.2 mh_L_orElseThrow ml_RL_213 (RMok.mk)) ⟨PJ.blind (zAnd_ok (zAnd_ok zz_ok zN_ok) zF_ok), fun U hU hW => ⟨rfl, my_preJ (zAnd_ok (zAnd_ok zz_ok zN_ok) zF_ok) ⟨hz.1.1, hz.1.2.1⟩ hS hA hK hP hD [0, 1, 2, 8] rfl rfl U hU hW⟩⟩ rfl rfl hl.1 rfl (lv_room (Nat.le_of_ble_eq_true rfl)) dL_law_1375 ⟨by omega, by omega⟩) hP hD hS hA [0, 1, 2, 8] rfl [3, 4, 5, 6, 7] rfl (by decide) [5, 6, 7, 0, 1, 2, 3, 4, 8] (fun _ => rfl) rfl (fun u1 H locs hp_1 hP hD hS => ?_)
  have hP : va_P D KL [(x, .inr (2, [.ref bx, .ref px, .ref t, .int ak, .int su, .int gt, .int lf, .int rf, .int kn])), (bx, .inl (cI, 6, .inl f)), (px, .inl (cI, 2, .inl g)), (t, .inr (1, [.ref bt, .int 0, .int ml, .int cn])), (bt, .inl (cB, 16, .inl bs)), (o, .inr (4, [.int th, .ref bo, .ref po, .int ak', .int su', .int gt', .int lf', .int rf', .int kn'])), (bo, .inl (cI, 6, .inl h)), (po, .inl (cI, 2, .inl j)), (q, .inr (3, [.long (hn_orElseThrow r1 f n0), sv]))] H := hP
  have hD : va_D (fun q => s.heap.size ≤ q) [(x, .inr (2, [.ref bx, .ref px, .ref t, .int ak, .int su, .int gt, .int lf, .int rf, .int kn])), (bx, .inl (cI, 6, .inl f)), (px, .inl (cI, 2, .inl g)), (t, .inr (1, [.ref bt, .int 0, .int ml, .int cn])), (bt, .inl (cB, 16, .inl bs)), (o, .inr (4, [.int th, .ref bo, .ref po, .int ak', .int su', .int gt', .int lf', .int rf', .int kn'])), (bo, .inl (cI, 6, .inl h)), (po, .inl (cI, 2, .inl j)), (q, .inr (3, [.long (hn_orElseThrow r1 f n0), sv]))] := hD
  refine W.eq (g2 := F0 m 1378 ls [.int (hk_orElseThrow r1 f)]) rfl ?_
  refine lv_istore (lv' := [(5, .int (hk_orElseThrow r1 f)), (4, .int (nI i)), (3, .ref q), (2, .ref o), (1, .ref x), (0, .ref b)]) FX.1 FX.2.1 dL_law_1378 hl (by decide) rfl (fun ls hl => ?_)
  refine lv_aload_n FX.1 FX.2.1 dL_law_1380 rfl (lv_at hl 3 rfl) ?_
  refine p_rd (k := 1) (v := r1) FX hX hbl hbA hS (lv_at hl 5 rfl) (lv_at hl 1 rfl) dL_law_1381 dL_law_1382 dL_law_1384 dL_law_1385 dL_law_1386 rfl hin1 ey1 ?_
  obtain ⟨eT, eA, hI2⟩ := st_orElseThrow r1 n0 hI
  refine c_WRV (wr := [(x, .inr (2, [.ref bx, .ref px, .ref t, .int ak, .int su, .int gt, .int lf, .int rf, .int kn])), (bx, .inl (cI, 6, .inl f)), (px, .inl (cI, 2, .inl g)), (t, .inr (1, [.ref bt, .int 0, .int ml, .int cn])), (bt, .inl (cB, 16, .inl bs)), (q, .inr (3, [.long (hn_orElseThrow r1 f n0), sv]))]) (wsN := [(x, .inr (2, [.ref bx, .ref px, .ref t, .int ak, .int su, .int gt, .int lf, .int rf, .int kn])), (bx, .inl (cI, 6, .inl f)), (px, .inl (cI, 2, .inl g)), (t, .inr (1, [.ref bt, .int 0, .int ml, .int cn])), (bt, .inl (cB, 16, .inl bs)), (o, .inr (4, [.int (wth_X2_orElseThrow r1 h), .ref bo, .ref po, .int ak', .int su', .int gt', .int lf', .int rf', .int kn'])), (bo, .inl (cI, 6, .inl h)), (po, .inl (cI, 2, .inl j)), (q, .inr (3, [.long (hn_orElseThrow r1 f n0), sv]))]) (i0 := 5) (ci := 4) FX (k_X2_orElseThrow l D cI cB o bo po th h j ak' su' gt' lf' rf' kn' r1) mi_X2_orElseThrow rfl ml_RL_215 (RMok.mk) hl.1 rfl (Nat.le_of_ble_eq_true rfl) dL_law_1387 ⟨by omega, by omega⟩ hK hP hD hS hA [5, 6, 7] rfl [0, 1, 2, 3, 4, 8] rfl rfl (by decide) [0, 1, 2, 3, 4, 6, 7, 8, 5] rfl rfl rfl rfl rfl (fun H locs hP hD hS => ?_)
  refine lv_istore (lv' := [(6, .int (v_X2_orElseThrow r1 h)), (5, .int (hk_orElseThrow r1 f)), (4, .int (nI i)), (3, .ref q), (2, .ref o), (1, .ref x), (0, .ref b)]) FX.1 FX.2.1 dL_law_1390 hl (by decide) rfl (fun ls hl => ?_)
  refine lv_aload_n FX.1 FX.2.1 dL_law_1392 rfl (lv_at hl 4 rfl) ?_
  refine c_RDV (i0 := 5) (ci := 4) FX (r_X2_thrown l D cI cB o bo po (wth_X2_orElseThrow r1 h) h j ak' su' gt' lf' rf' kn') mi_X2_thrown rfl ml_RL_162 (RMok.mk) hl.1 rfl (Nat.le_of_ble_eq_true rfl) dL_law_1393 ⟨by omega, by omega⟩ hK hP [5, 6, 7] rfl rfl rfl rfl ?_
  refine lv_iload FX.1 FX.2.1 dL_law_1396 (lv_at hl 1 rfl) ?_
  refine lv_icmp_eq (tgt := 1403) FX.1 FX.2.1 dL_law_1398 (by decide) (fun c_1 => ?_) (fun c_1 => ?_)
  · refine lv_iload FX.1 FX.2.1 dL_law_1403 (lv_at hl 1 rfl) ?_
    refine lv_if_ne (tgt := 1421) FX.1 FX.2.1 dL_law_1405 (by decide) (fun c_2 => ?_) (fun c_2 => ?_)
    · refine lv_goto (tgt := 2982) FX.1 FX.2.1 dL_law_1421 (by decide) ?_
      refine W.widen (k := cc + 33) (n := ss + 321) (by omega) (by omega) ?_
      exact kk H locs f g ak su gt lf rf kn ml cn bs (wth_X2_orElseThrow r1 h) h j ak' su' gt' lf' rf' kn' (hn_orElseThrow r1 f n0) sv ls hI2 hb hc hP hD hS (lv_sub hl [2, 3, 4, 5, 6] rfl)
    · refine lv_aload_n FX.1 FX.2.1 dL_law_1408 rfl (lv_at hl 3 rfl) ?_
      refine p_getN (ci := 3) (v := .long (hn_orElseThrow r1 f n0)) FX inX1 hK hP 8 rfl rfl 0 (by decide) hz.1.2.1 rfl dL_law_1409 ?_
      refine lv_iload FX.1 FX.2.1 dL_law_1412 (lv_at hl 0 rfl) ?_
      refine lv_i2l (v := (v_X2_orElseThrow r1 h).toInt64) FX.1 FX.2.1 dL_law_1414 rfl ?_
      refine W.eq (g2 := F0 m 1415 ls [.long ((v_X2_orElseThrow r1 h).toInt64), .long ((v_X2_orElseThrow r1 h).toInt64)]) (by rw [eA c_2]) ?_
      refine W.lcmp FX.1 FX.2.1 dL_law_1415 ?_
      refine W.eq (g2 := F0 m 1416 ls [.int 0]) (by rw [lg_self]) ?_
      refine lv_if_eq (tgt := 1421) FX.1 FX.2.1 dL_law_1416 (by decide) (fun c_3 => ?_) (fun c_3 => ?_)
      · refine lv_goto (tgt := 2982) FX.1 FX.2.1 dL_law_1421 (by decide) ?_
        refine W.widen (k := cc + 33) (n := ss + 321) (by omega) (by omega) ?_
        exact kk H locs f g ak su gt lf rf kn ml cn bs (wth_X2_orElseThrow r1 h) h j ak' su' gt' lf' rf' kn' (hn_orElseThrow r1 f n0) sv ls hI2 hb hc hP hD hS (lv_sub hl [2, 3, 4, 5, 6] rfl)
      · exact absurd c_3 (by decide)
  · exact absurd eT c_1
set_option maxRecDepth 100000 in
set_option maxHeartbeats 4000000 in
theorem case_16 {p : Program} {l : Launch} {e : Env} {s : State} {m : MethodId} {below : List Frame} {meth : Method} {c : Code} (hl0 : l.stackTraces = false) (D : va_G) (cI cB : ClassId) (b L : Nat) (xs : Nat → Int32) (x bx px t bt o bo po q : Nat) (to tt : Nat) (go gu : Nat → Int32) (na nv : Nat) (nf : Nat → Int32) (nb nw : Nat) (nh : Nat → Int32) (ea ew : Nat) (ef : Nat → Int32) (i cc ss : Nat) (hi : i + 6 ≤ L) (hcc : cc + 33 ≤ room_1.cells) (hss : ss + 321 ≤ room_1.slots) (hL : L ≤ 6) (FX : CallFix p m c cL_law 7 s #[.ref b] bigW RL) (hK : va_K D KL (TY cI cB) s) (hX : va_X b L xs s s.heap) (hbl : b < s.heap.size) (hz : zLaw to tt go gu na nv nf nb nw nh ea ew ef (fun q => s.heap.size ≤ q) s s.heap) (hfn : sb_Fit nf) (hfe : sb_Fit ef) (hnn : TL 4 nf nh) (kk : LGo p l e s m below meth c D cI cB b x bx px t bt o bo po q i 2982 (cc + 33) (ss + 321)) : LGo p l e s m below meth c D cI cB b x bx px t bt o bo po q i 1424 cc ss := by
  intro H locs f g ak su gt lf rf kn ml cn bs th h j ak' su' gt' lf' rf' kn' n0 sv ls hI hb hc hP hD hS hl
  have hA : ∀ q : Nat, s.heap.size ≤ q → s.heap.size ≤ q := fun _ h => h
  have hbA : ¬ (fun q : Nat => s.heap.size ≤ q) b := Nat.not_le.mpr hbl
  obtain ⟨r1, ey1⟩ : ∃ y, xs (i + 1) = y := ⟨_, rfl⟩
  have hin1 : i + 1 < L ∧ L < 2 ^ 31 := ⟨by omega, by omega⟩
  have hl : lv_has ls 7 [(4, .int (nI i)), (3, .ref q), (2, .ref o), (1, .ref x), (0, .ref b)] := hl
  have hP : va_P D KL [(x, .inr (2, [.ref bx, .ref px, .ref t, .int ak, .int su, .int gt, .int lf, .int rf, .int kn])), (bx, .inl (cI, 6, .inl f)), (px, .inl (cI, 2, .inl g)), (t, .inr (1, [.ref bt, .int 0, .int ml, .int cn])), (bt, .inl (cB, 16, .inl bs)), (o, .inr (4, [.int th, .ref bo, .ref po, .int ak', .int su', .int gt', .int lf', .int rf', .int kn'])), (bo, .inl (cI, 6, .inl h)), (po, .inl (cI, 2, .inl j)), (q, .inr (3, [.long n0, sv]))] H := hP
  have hD : va_D (fun q => s.heap.size ≤ q) [(x, .inr (2, [.ref bx, .ref px, .ref t, .int ak, .int su, .int gt, .int lf, .int rf, .int kn])), (bx, .inl (cI, 6, .inl f)), (px, .inl (cI, 2, .inl g)), (t, .inr (1, [.ref bt, .int 0, .int ml, .int cn])), (bt, .inl (cB, 16, .inl bs)), (o, .inr (4, [.int th, .ref bo, .ref po, .int ak', .int su', .int gt', .int lf', .int rf', .int kn'])), (bo, .inl (cI, 6, .inl h)), (po, .inl (cI, 2, .inl j)), (q, .inr (3, [.long n0, sv]))] := hD
  refine lv_aload_n FX.1 FX.2.1 dL_law_1424 rfl (lv_at hl 3 rfl) ?_
  refine p_rd (k := 1) (v := r1) FX hX hbl hbA hS (lv_at hl 4 rfl) (lv_at hl 0 rfl) dL_law_1425 dL_law_1426 dL_law_1428 dL_law_1429 dL_law_1430 rfl hin1 ey1 ?_
  refine lv_aload_n FX.1 FX.2.1 dL_law_1431 rfl (lv_at hl 1 rfl) ?_
  refine c_J (W0 := [(x, .inr (2, [.ref bx, .ref px, .ref t, .int ak, .int su, .int gt, .int lf, .int rf, .int kn])), (bx, .inl (cI, 6, .inl f)), (px, .inl (cI, 2, .inl g)), (q, .inr (3, [.long n0, sv]))]) (wr := [(t, .inr (1, [.ref bt, .int 0, .int ml, .int cn])), (bt, .inl (cB, 16, .inl bs)), (o, .inr (4, [.int th, .ref bo, .ref po, .int ak', .int su', .int gt', .int lf', .int rf', .int kn'])), (bo, .inl (cI, 6, .inl h)), (po, .inl (cI, 2, .inl j))]) (wsN := fun _ => [(x, .inr (2, [.ref bx, .ref px, .ref t, .int ak, .int su, .int gt, .int lf, .int rf, .int kn])), (bx, .inl (cI, 6, .inl f)), (px, .inl (cI, 2, .inl g)), (t, .inr (1, [.ref bt, .int 0, .int ml, .int cn])), (bt, .inl (cB, 16, .inl bs)), (o, .inr (4, [.int th, .ref bo, .ref po, .int ak', .int su', .int gt', .int lf', .int rf', .int kn'])), (bo, .inl (cI, 6, .inl h)), (po, .inl (cI, 2, .inl j)), (q, .inr (3, [.long (hn_isFull r1 f n0), sv]))]) (vx_runSW FX ((j_L_isFull l hl0 D cI cB x bx px t f g ak su gt lf rf kn q n0 sv r1) H.size) (my_cwSW FX.2.2.2.2 mh_L_isFull ml_RL_216 (RMok.mk)) ⟨PJ.blind (zAnd_ok (zAnd_ok zz_ok zN_ok) zF_ok), fun U hU hW => ⟨rfl, my_preJ (zAnd_ok (zAnd_ok zz_ok zN_ok) zF_ok) ⟨hz.1.1, hz.1.2.1⟩ hS hA hK hP hD [0, 1, 2, 8] rfl rfl U hU hW⟩⟩ rfl rfl hl.1 rfl (lv_room (Nat.le_of_ble_eq_true rfl)) dL_law_1432 ⟨by omega, by omega⟩) hP hD hS hA [0, 1, 2, 8] rfl [3, 4, 5, 6, 7] rfl (by decide) [5, 6, 7, 0, 1, 2, 3, 4, 8] (fun _ => rfl) rfl (fun u1 H locs hp_1 hP hD hS => ?_)
  have hP : va_P D KL [(x, .inr (2, [.ref bx, .ref px, .ref t, .int ak, .int su, .int gt, .int lf, .int rf, .int kn])), (bx, .inl (cI, 6, .inl f)), (px, .inl (cI, 2, .inl g)), (t, .inr (1, [.ref bt, .int 0, .int ml, .int cn])), (bt, .inl (cB, 16, .inl bs)), (o, .inr (4, [.int th, .ref bo, .ref po, .int ak', .int su', .int gt', .int lf', .int rf', .int kn'])), (bo, .inl (cI, 6, .inl h)), (po, .inl (cI, 2, .inl j)), (q, .inr (3, [.long (hn_isFull r1 f n0), sv]))] H := hP
  have hD : va_D (fun q => s.heap.size ≤ q) [(x, .inr (2, [.ref bx, .ref px, .ref t, .int ak, .int su, .int gt, .int lf, .int rf, .int kn])), (bx, .inl (cI, 6, .inl f)), (px, .inl (cI, 2, .inl g)), (t, .inr (1, [.ref bt, .int 0, .int ml, .int cn])), (bt, .inl (cB, 16, .inl bs)), (o, .inr (4, [.int th, .ref bo, .ref po, .int ak', .int su', .int gt', .int lf', .int rf', .int kn'])), (bo, .inl (cI, 6, .inl h)), (po, .inl (cI, 2, .inl j)), (q, .inr (3, [.long (hn_isFull r1 f n0), sv]))] := hD
  refine W.eq (g2 := F0 m 1435 ls [.int (hk_isFull r1)]) rfl ?_
  refine lv_istore (lv' := [(5, .int (hk_isFull r1)), (4, .int (nI i)), (3, .ref q), (2, .ref o), (1, .ref x), (0, .ref b)]) FX.1 FX.2.1 dL_law_1435 hl (by decide) rfl (fun ls hl => ?_)
  refine lv_aload_n FX.1 FX.2.1 dL_law_1437 rfl (lv_at hl 3 rfl) ?_
  refine p_rd (k := 1) (v := r1) FX hX hbl hbA hS (lv_at hl 5 rfl) (lv_at hl 1 rfl) dL_law_1438 dL_law_1439 dL_law_1441 dL_law_1442 dL_law_1443 rfl hin1 ey1 ?_
  obtain ⟨eT, eA, hI2⟩ := st_isFull r1 n0 hI
  refine c_WRV (wr := [(x, .inr (2, [.ref bx, .ref px, .ref t, .int ak, .int su, .int gt, .int lf, .int rf, .int kn])), (bx, .inl (cI, 6, .inl f)), (px, .inl (cI, 2, .inl g)), (t, .inr (1, [.ref bt, .int 0, .int ml, .int cn])), (bt, .inl (cB, 16, .inl bs)), (q, .inr (3, [.long (hn_isFull r1 f n0), sv]))]) (wsN := [(x, .inr (2, [.ref bx, .ref px, .ref t, .int ak, .int su, .int gt, .int lf, .int rf, .int kn])), (bx, .inl (cI, 6, .inl f)), (px, .inl (cI, 2, .inl g)), (t, .inr (1, [.ref bt, .int 0, .int ml, .int cn])), (bt, .inl (cB, 16, .inl bs)), (o, .inr (4, [.int (wth_X2_isFull r1), .ref bo, .ref po, .int ak', .int su', .int gt', .int lf', .int rf', .int kn'])), (bo, .inl (cI, 6, .inl h)), (po, .inl (cI, 2, .inl j)), (q, .inr (3, [.long (hn_isFull r1 f n0), sv]))]) (i0 := 5) (ci := 4) FX (k_X2_isFull l D cI cB o bo po th h j ak' su' gt' lf' rf' kn' r1) mi_X2_isFull rfl ml_RL_218 (RMok.mk) hl.1 rfl (Nat.le_of_ble_eq_true rfl) dL_law_1444 ⟨by omega, by omega⟩ hK hP hD hS hA [5, 6, 7] rfl [0, 1, 2, 3, 4, 8] rfl rfl (by decide) [0, 1, 2, 3, 4, 6, 7, 8, 5] rfl rfl rfl rfl rfl (fun H locs hP hD hS => ?_)
  refine lv_istore (lv' := [(6, .int (v_X2_isFull r1 h)), (5, .int (hk_isFull r1)), (4, .int (nI i)), (3, .ref q), (2, .ref o), (1, .ref x), (0, .ref b)]) FX.1 FX.2.1 dL_law_1447 hl (by decide) rfl (fun ls hl => ?_)
  refine lv_aload_n FX.1 FX.2.1 dL_law_1449 rfl (lv_at hl 4 rfl) ?_
  refine c_RDV (i0 := 5) (ci := 4) FX (r_X2_thrown l D cI cB o bo po (wth_X2_isFull r1) h j ak' su' gt' lf' rf' kn') mi_X2_thrown rfl ml_RL_162 (RMok.mk) hl.1 rfl (Nat.le_of_ble_eq_true rfl) dL_law_1450 ⟨by omega, by omega⟩ hK hP [5, 6, 7] rfl rfl rfl rfl ?_
  refine lv_iload FX.1 FX.2.1 dL_law_1453 (lv_at hl 1 rfl) ?_
  refine lv_icmp_eq (tgt := 1460) FX.1 FX.2.1 dL_law_1455 (by decide) (fun c_1 => ?_) (fun c_1 => ?_)
  · refine lv_iload FX.1 FX.2.1 dL_law_1460 (lv_at hl 1 rfl) ?_
    refine lv_if_ne (tgt := 1485) FX.1 FX.2.1 dL_law_1462 (by decide) (fun c_2 => ?_) (fun c_2 => ?_)
    · refine lv_goto (tgt := 2982) FX.1 FX.2.1 dL_law_1485 (by decide) ?_
      refine W.widen (k := cc + 33) (n := ss + 321) (by omega) (by omega) ?_
      exact kk H locs f g ak su gt lf rf kn ml cn bs (wth_X2_isFull r1) h j ak' su' gt' lf' rf' kn' (hn_isFull r1 f n0) sv ls hI2 hb hc hP hD hS (lv_sub hl [2, 3, 4, 5, 6] rfl)
    · refine lv_aload_n FX.1 FX.2.1 dL_law_1465 rfl (lv_at hl 3 rfl) ?_
      refine p_getN (ci := 3) (v := .long (hn_isFull r1 f n0)) FX inX1 hK hP 8 rfl rfl 0 (by decide) hz.1.2.1 rfl dL_law_1466 ?_
      refine lv_iload FX.1 FX.2.1 dL_law_1469 (lv_at hl 0 rfl) ?_
      refine lv_if_eq (tgt := 1478) FX.1 FX.2.1 dL_law_1471 (by decide) (fun c_3 => ?_) (fun c_3 => ?_)
      · refine lv_lconst (v := 0) FX.1 FX.2.1 dL_law_1478 (by decide) ?_
        refine W.eq (g2 := F0 m 1479 ls [.long 0, .long 0]) (by rw [eA c_2, if_pos c_3]) ?_
        refine W.lcmp FX.1 FX.2.1 dL_law_1479 ?_
        refine W.eq (g2 := F0 m 1480 ls [.int 0]) (by rw [lg_self]) ?_
        refine lv_if_eq (tgt := 1485) FX.1 FX.2.1 dL_law_1480 (by decide) (fun c_4 => ?_) (fun c_4 => ?_)
        · refine lv_goto (tgt := 2982) FX.1 FX.2.1 dL_law_1485 (by decide) ?_
          refine W.widen (k := cc + 33) (n := ss + 321) (by omega) (by omega) ?_
          exact kk H locs f g ak su gt lf rf kn ml cn bs (wth_X2_isFull r1) h j ak' su' gt' lf' rf' kn' (hn_isFull r1 f n0) sv ls hI2 hb hc hP hD hS (lv_sub hl [2, 3, 4, 5, 6] rfl)
        · exact absurd c_4 (by decide)
      · refine lv_lconst (v := 1) FX.1 FX.2.1 dL_law_1474 (by decide) ?_
        refine lv_goto (tgt := 1479) FX.1 FX.2.1 dL_law_1475 (by decide) ?_
        refine W.eq (g2 := F0 m 1479 ls [.long 1, .long 1]) (by rw [eA c_2, if_neg c_3]) ?_
        refine W.lcmp FX.1 FX.2.1 dL_law_1479 ?_
        refine W.eq (g2 := F0 m 1480 ls [.int 0]) (by rw [lg_self]) ?_
        refine lv_if_eq (tgt := 1485) FX.1 FX.2.1 dL_law_1480 (by decide) (fun c_5 => ?_) (fun c_5 => ?_)
        · refine lv_goto (tgt := 2982) FX.1 FX.2.1 dL_law_1485 (by decide) ?_
          refine W.widen (k := cc + 33) (n := ss + 321) (by omega) (by omega) ?_
          exact kk H locs f g ak su gt lf rf kn ml cn bs (wth_X2_isFull r1) h j ak' su' gt' lf' rf' kn' (hn_isFull r1 f n0) sv ls hI2 hb hc hP hD hS (lv_sub hl [2, 3, 4, 5, 6] rfl)
        · exact absurd c_5 (by decide)
  · exact absurd eT c_1
set_option maxRecDepth 100000 in
set_option maxHeartbeats 4000000 in
theorem case_17 {p : Program} {l : Launch} {e : Env} {s : State} {m : MethodId} {below : List Frame} {meth : Method} {c : Code} (hl0 : l.stackTraces = false) (D : va_G) (cI cB : ClassId) (b L : Nat) (xs : Nat → Int32) (x bx px t bt o bo po q : Nat) (to tt : Nat) (go gu : Nat → Int32) (na nv : Nat) (nf : Nat → Int32) (nb nw : Nat) (nh : Nat → Int32) (ea ew : Nat) (ef : Nat → Int32) (i cc ss : Nat) (hi : i + 6 ≤ L) (hcc : cc + 33 ≤ room_1.cells) (hss : ss + 321 ≤ room_1.slots) (hL : L ≤ 6) (FX : CallFix p m c cL_law 7 s #[.ref b] bigW RL) (hK : va_K D KL (TY cI cB) s) (hX : va_X b L xs s s.heap) (hbl : b < s.heap.size) (hz : zLaw to tt go gu na nv nf nb nw nh ea ew ef (fun q => s.heap.size ≤ q) s s.heap) (hfn : sb_Fit nf) (hfe : sb_Fit ef) (hnn : TL 4 nf nh) (kk : LGo p l e s m below meth c D cI cB b x bx px t bt o bo po q i 2982 (cc + 33) (ss + 321)) : LGo p l e s m below meth c D cI cB b x bx px t bt o bo po q i 1488 cc ss := by
  intro H locs f g ak su gt lf rf kn ml cn bs th h j ak' su' gt' lf' rf' kn' n0 sv ls hI hb hc hP hD hS hl
  have hA : ∀ q : Nat, s.heap.size ≤ q → s.heap.size ≤ q := fun _ h => h
  have hbA : ¬ (fun q : Nat => s.heap.size ≤ q) b := Nat.not_le.mpr hbl
  obtain ⟨r1, ey1⟩ : ∃ y, xs (i + 1) = y := ⟨_, rfl⟩
  have hin1 : i + 1 < L ∧ L < 2 ^ 31 := ⟨by omega, by omega⟩
  have hl : lv_has ls 7 [(4, .int (nI i)), (3, .ref q), (2, .ref o), (1, .ref x), (0, .ref b)] := hl
  have hP : va_P D KL [(x, .inr (2, [.ref bx, .ref px, .ref t, .int ak, .int su, .int gt, .int lf, .int rf, .int kn])), (bx, .inl (cI, 6, .inl f)), (px, .inl (cI, 2, .inl g)), (t, .inr (1, [.ref bt, .int 0, .int ml, .int cn])), (bt, .inl (cB, 16, .inl bs)), (o, .inr (4, [.int th, .ref bo, .ref po, .int ak', .int su', .int gt', .int lf', .int rf', .int kn'])), (bo, .inl (cI, 6, .inl h)), (po, .inl (cI, 2, .inl j)), (q, .inr (3, [.long n0, sv]))] H := hP
  have hD : va_D (fun q => s.heap.size ≤ q) [(x, .inr (2, [.ref bx, .ref px, .ref t, .int ak, .int su, .int gt, .int lf, .int rf, .int kn])), (bx, .inl (cI, 6, .inl f)), (px, .inl (cI, 2, .inl g)), (t, .inr (1, [.ref bt, .int 0, .int ml, .int cn])), (bt, .inl (cB, 16, .inl bs)), (o, .inr (4, [.int th, .ref bo, .ref po, .int ak', .int su', .int gt', .int lf', .int rf', .int kn'])), (bo, .inl (cI, 6, .inl h)), (po, .inl (cI, 2, .inl j)), (q, .inr (3, [.long n0, sv]))] := hD
  refine lv_aload_n FX.1 FX.2.1 dL_law_1488 rfl (lv_at hl 3 rfl) ?_
  refine p_rd (k := 1) (v := r1) FX hX hbl hbA hS (lv_at hl 4 rfl) (lv_at hl 0 rfl) dL_law_1489 dL_law_1490 dL_law_1492 dL_law_1493 dL_law_1494 rfl hin1 ey1 ?_
  refine lv_aload_n FX.1 FX.2.1 dL_law_1495 rfl (lv_at hl 1 rfl) ?_
  refine c_J (W0 := [(x, .inr (2, [.ref bx, .ref px, .ref t, .int ak, .int su, .int gt, .int lf, .int rf, .int kn])), (bx, .inl (cI, 6, .inl f)), (px, .inl (cI, 2, .inl g)), (q, .inr (3, [.long n0, sv]))]) (wr := [(t, .inr (1, [.ref bt, .int 0, .int ml, .int cn])), (bt, .inl (cB, 16, .inl bs)), (o, .inr (4, [.int th, .ref bo, .ref po, .int ak', .int su', .int gt', .int lf', .int rf', .int kn'])), (bo, .inl (cI, 6, .inl h)), (po, .inl (cI, 2, .inl j))]) (wsN := fun _ => [(x, .inr (2, [.ref bx, .ref px, .ref t, .int ak, .int su, .int gt, .int lf, .int rf, .int kn])), (bx, .inl (cI, 6, .inl f)), (px, .inl (cI, 2, .inl g)), (t, .inr (1, [.ref bt, .int 0, .int ml, .int cn])), (bt, .inl (cB, 16, .inl bs)), (o, .inr (4, [.int th, .ref bo, .ref po, .int ak', .int su', .int gt', .int lf', .int rf', .int kn'])), (bo, .inl (cI, 6, .inl h)), (po, .inl (cI, 2, .inl j)), (q, .inr (3, [.long (hn_isEmpty r1 f n0), sv]))]) (vx_runSW FX ((j_L_isEmpty l hl0 D cI cB x bx px t f g ak su gt lf rf kn q n0 sv r1) H.size) (my_cwSW FX.2.2.2.2 mh_L_isEmpty ml_RL_219 (RMok.mk)) ⟨PJ.blind (zAnd_ok (zAnd_ok zz_ok zN_ok) zF_ok), fun U hU hW => ⟨rfl, my_preJ (zAnd_ok (zAnd_ok zz_ok zN_ok) zF_ok) ⟨hz.1.1, hz.1.2.1⟩ hS hA hK hP hD [0, 1, 2, 8] rfl rfl U hU hW⟩⟩ rfl rfl hl.1 rfl (lv_room (Nat.le_of_ble_eq_true rfl)) dL_law_1496 ⟨by omega, by omega⟩) hP hD hS hA [0, 1, 2, 8] rfl [3, 4, 5, 6, 7] rfl (by decide) [5, 6, 7, 0, 1, 2, 3, 4, 8] (fun _ => rfl) rfl (fun u1 H locs hp_1 hP hD hS => ?_)
  have hP : va_P D KL [(x, .inr (2, [.ref bx, .ref px, .ref t, .int ak, .int su, .int gt, .int lf, .int rf, .int kn])), (bx, .inl (cI, 6, .inl f)), (px, .inl (cI, 2, .inl g)), (t, .inr (1, [.ref bt, .int 0, .int ml, .int cn])), (bt, .inl (cB, 16, .inl bs)), (o, .inr (4, [.int th, .ref bo, .ref po, .int ak', .int su', .int gt', .int lf', .int rf', .int kn'])), (bo, .inl (cI, 6, .inl h)), (po, .inl (cI, 2, .inl j)), (q, .inr (3, [.long (hn_isEmpty r1 f n0), sv]))] H := hP
  have hD : va_D (fun q => s.heap.size ≤ q) [(x, .inr (2, [.ref bx, .ref px, .ref t, .int ak, .int su, .int gt, .int lf, .int rf, .int kn])), (bx, .inl (cI, 6, .inl f)), (px, .inl (cI, 2, .inl g)), (t, .inr (1, [.ref bt, .int 0, .int ml, .int cn])), (bt, .inl (cB, 16, .inl bs)), (o, .inr (4, [.int th, .ref bo, .ref po, .int ak', .int su', .int gt', .int lf', .int rf', .int kn'])), (bo, .inl (cI, 6, .inl h)), (po, .inl (cI, 2, .inl j)), (q, .inr (3, [.long (hn_isEmpty r1 f n0), sv]))] := hD
  refine W.eq (g2 := F0 m 1499 ls [.int (hk_isEmpty r1)]) rfl ?_
  refine lv_istore (lv' := [(5, .int (hk_isEmpty r1)), (4, .int (nI i)), (3, .ref q), (2, .ref o), (1, .ref x), (0, .ref b)]) FX.1 FX.2.1 dL_law_1499 hl (by decide) rfl (fun ls hl => ?_)
  refine lv_aload_n FX.1 FX.2.1 dL_law_1501 rfl (lv_at hl 3 rfl) ?_
  refine p_rd (k := 1) (v := r1) FX hX hbl hbA hS (lv_at hl 5 rfl) (lv_at hl 1 rfl) dL_law_1502 dL_law_1503 dL_law_1505 dL_law_1506 dL_law_1507 rfl hin1 ey1 ?_
  obtain ⟨eT, eA, hI2⟩ := st_isEmpty r1 n0 hI
  refine c_WRV (wr := [(x, .inr (2, [.ref bx, .ref px, .ref t, .int ak, .int su, .int gt, .int lf, .int rf, .int kn])), (bx, .inl (cI, 6, .inl f)), (px, .inl (cI, 2, .inl g)), (t, .inr (1, [.ref bt, .int 0, .int ml, .int cn])), (bt, .inl (cB, 16, .inl bs)), (q, .inr (3, [.long (hn_isEmpty r1 f n0), sv]))]) (wsN := [(x, .inr (2, [.ref bx, .ref px, .ref t, .int ak, .int su, .int gt, .int lf, .int rf, .int kn])), (bx, .inl (cI, 6, .inl f)), (px, .inl (cI, 2, .inl g)), (t, .inr (1, [.ref bt, .int 0, .int ml, .int cn])), (bt, .inl (cB, 16, .inl bs)), (o, .inr (4, [.int (wth_X2_isEmpty r1), .ref bo, .ref po, .int ak', .int su', .int gt', .int lf', .int rf', .int kn'])), (bo, .inl (cI, 6, .inl h)), (po, .inl (cI, 2, .inl j)), (q, .inr (3, [.long (hn_isEmpty r1 f n0), sv]))]) (i0 := 5) (ci := 4) FX (k_X2_isEmpty l D cI cB o bo po th h j ak' su' gt' lf' rf' kn' r1) mi_X2_isEmpty rfl ml_RL_221 (RMok.mk) hl.1 rfl (Nat.le_of_ble_eq_true rfl) dL_law_1508 ⟨by omega, by omega⟩ hK hP hD hS hA [5, 6, 7] rfl [0, 1, 2, 3, 4, 8] rfl rfl (by decide) [0, 1, 2, 3, 4, 6, 7, 8, 5] rfl rfl rfl rfl rfl (fun H locs hP hD hS => ?_)
  refine lv_istore (lv' := [(6, .int (v_X2_isEmpty r1 h)), (5, .int (hk_isEmpty r1)), (4, .int (nI i)), (3, .ref q), (2, .ref o), (1, .ref x), (0, .ref b)]) FX.1 FX.2.1 dL_law_1511 hl (by decide) rfl (fun ls hl => ?_)
  refine lv_aload_n FX.1 FX.2.1 dL_law_1513 rfl (lv_at hl 4 rfl) ?_
  refine c_RDV (i0 := 5) (ci := 4) FX (r_X2_thrown l D cI cB o bo po (wth_X2_isEmpty r1) h j ak' su' gt' lf' rf' kn') mi_X2_thrown rfl ml_RL_162 (RMok.mk) hl.1 rfl (Nat.le_of_ble_eq_true rfl) dL_law_1514 ⟨by omega, by omega⟩ hK hP [5, 6, 7] rfl rfl rfl rfl ?_
  refine lv_iload FX.1 FX.2.1 dL_law_1517 (lv_at hl 1 rfl) ?_
  refine lv_icmp_eq (tgt := 1524) FX.1 FX.2.1 dL_law_1519 (by decide) (fun c_1 => ?_) (fun c_1 => ?_)
  · refine lv_iload FX.1 FX.2.1 dL_law_1524 (lv_at hl 1 rfl) ?_
    refine lv_if_ne (tgt := 1549) FX.1 FX.2.1 dL_law_1526 (by decide) (fun c_2 => ?_) (fun c_2 => ?_)
    · refine lv_goto (tgt := 2982) FX.1 FX.2.1 dL_law_1549 (by decide) ?_
      refine W.widen (k := cc + 33) (n := ss + 321) (by omega) (by omega) ?_
      exact kk H locs f g ak su gt lf rf kn ml cn bs (wth_X2_isEmpty r1) h j ak' su' gt' lf' rf' kn' (hn_isEmpty r1 f n0) sv ls hI2 hb hc hP hD hS (lv_sub hl [2, 3, 4, 5, 6] rfl)
    · refine lv_aload_n FX.1 FX.2.1 dL_law_1529 rfl (lv_at hl 3 rfl) ?_
      refine p_getN (ci := 3) (v := .long (hn_isEmpty r1 f n0)) FX inX1 hK hP 8 rfl rfl 0 (by decide) hz.1.2.1 rfl dL_law_1530 ?_
      refine lv_iload FX.1 FX.2.1 dL_law_1533 (lv_at hl 0 rfl) ?_
      refine lv_if_eq (tgt := 1542) FX.1 FX.2.1 dL_law_1535 (by decide) (fun c_3 => ?_) (fun c_3 => ?_)
      · refine lv_lconst (v := 0) FX.1 FX.2.1 dL_law_1542 (by decide) ?_
        refine W.eq (g2 := F0 m 1543 ls [.long 0, .long 0]) (by rw [eA c_2, if_pos c_3]) ?_
        refine W.lcmp FX.1 FX.2.1 dL_law_1543 ?_
        refine W.eq (g2 := F0 m 1544 ls [.int 0]) (by rw [lg_self]) ?_
        refine lv_if_eq (tgt := 1549) FX.1 FX.2.1 dL_law_1544 (by decide) (fun c_4 => ?_) (fun c_4 => ?_)
        · refine lv_goto (tgt := 2982) FX.1 FX.2.1 dL_law_1549 (by decide) ?_
          refine W.widen (k := cc + 33) (n := ss + 321) (by omega) (by omega) ?_
          exact kk H locs f g ak su gt lf rf kn ml cn bs (wth_X2_isEmpty r1) h j ak' su' gt' lf' rf' kn' (hn_isEmpty r1 f n0) sv ls hI2 hb hc hP hD hS (lv_sub hl [2, 3, 4, 5, 6] rfl)
        · exact absurd c_4 (by decide)
      · refine lv_lconst (v := 1) FX.1 FX.2.1 dL_law_1538 (by decide) ?_
        refine lv_goto (tgt := 1543) FX.1 FX.2.1 dL_law_1539 (by decide) ?_
        refine W.eq (g2 := F0 m 1543 ls [.long 1, .long 1]) (by rw [eA c_2, if_neg c_3]) ?_
        refine W.lcmp FX.1 FX.2.1 dL_law_1543 ?_
        refine W.eq (g2 := F0 m 1544 ls [.int 0]) (by rw [lg_self]) ?_
        refine lv_if_eq (tgt := 1549) FX.1 FX.2.1 dL_law_1544 (by decide) (fun c_5 => ?_) (fun c_5 => ?_)
        · refine lv_goto (tgt := 2982) FX.1 FX.2.1 dL_law_1549 (by decide) ?_
          refine W.widen (k := cc + 33) (n := ss + 321) (by omega) (by omega) ?_
          exact kk H locs f g ak su gt lf rf kn ml cn bs (wth_X2_isEmpty r1) h j ak' su' gt' lf' rf' kn' (hn_isEmpty r1 f n0) sv ls hI2 hb hc hP hD hS (lv_sub hl [2, 3, 4, 5, 6] rfl)
        · exact absurd c_5 (by decide)
  · exact absurd eT c_1
set_option maxRecDepth 100000 in
set_option maxHeartbeats 4000000 in
theorem case_18 {p : Program} {l : Launch} {e : Env} {s : State} {m : MethodId} {below : List Frame} {meth : Method} {c : Code} (hl0 : l.stackTraces = false) (D : va_G) (cI cB : ClassId) (b L : Nat) (xs : Nat → Int32) (x bx px t bt o bo po q : Nat) (to tt : Nat) (go gu : Nat → Int32) (na nv : Nat) (nf : Nat → Int32) (nb nw : Nat) (nh : Nat → Int32) (ea ew : Nat) (ef : Nat → Int32) (i cc ss : Nat) (hi : i + 6 ≤ L) (hcc : cc + 33 ≤ room_1.cells) (hss : ss + 321 ≤ room_1.slots) (hL : L ≤ 6) (FX : CallFix p m c cL_law 7 s #[.ref b] bigW RL) (hK : va_K D KL (TY cI cB) s) (hX : va_X b L xs s s.heap) (hbl : b < s.heap.size) (hz : zLaw to tt go gu na nv nf nb nw nh ea ew ef (fun q => s.heap.size ≤ q) s s.heap) (hfn : sb_Fit nf) (hfe : sb_Fit ef) (hnn : TL 4 nf nh) (kk : LGo p l e s m below meth c D cI cB b x bx px t bt o bo po q i 2982 (cc + 33) (ss + 321)) : LGo p l e s m below meth c D cI cB b x bx px t bt o bo po q i 1552 cc ss := by
  intro H locs f g ak su gt lf rf kn ml cn bs th h j ak' su' gt' lf' rf' kn' n0 sv ls hI hb hc hP hD hS hl
  have hA : ∀ q : Nat, s.heap.size ≤ q → s.heap.size ≤ q := fun _ h => h
  have hbA : ¬ (fun q : Nat => s.heap.size ≤ q) b := Nat.not_le.mpr hbl
  obtain ⟨r1, ey1⟩ : ∃ y, xs (i + 1) = y := ⟨_, rfl⟩
  have hin1 : i + 1 < L ∧ L < 2 ^ 31 := ⟨by omega, by omega⟩
  obtain ⟨r2, ey2⟩ : ∃ y, xs (i + 2) = y := ⟨_, rfl⟩
  have hin2 : i + 2 < L ∧ L < 2 ^ 31 := ⟨by omega, by omega⟩
  have hl : lv_has ls 7 [(4, .int (nI i)), (3, .ref q), (2, .ref o), (1, .ref x), (0, .ref b)] := hl
  have hP : va_P D KL [(x, .inr (2, [.ref bx, .ref px, .ref t, .int ak, .int su, .int gt, .int lf, .int rf, .int kn])), (bx, .inl (cI, 6, .inl f)), (px, .inl (cI, 2, .inl g)), (t, .inr (1, [.ref bt, .int 0, .int ml, .int cn])), (bt, .inl (cB, 16, .inl bs)), (o, .inr (4, [.int th, .ref bo, .ref po, .int ak', .int su', .int gt', .int lf', .int rf', .int kn'])), (bo, .inl (cI, 6, .inl h)), (po, .inl (cI, 2, .inl j)), (q, .inr (3, [.long n0, sv]))] H := hP
  have hD : va_D (fun q => s.heap.size ≤ q) [(x, .inr (2, [.ref bx, .ref px, .ref t, .int ak, .int su, .int gt, .int lf, .int rf, .int kn])), (bx, .inl (cI, 6, .inl f)), (px, .inl (cI, 2, .inl g)), (t, .inr (1, [.ref bt, .int 0, .int ml, .int cn])), (bt, .inl (cB, 16, .inl bs)), (o, .inr (4, [.int th, .ref bo, .ref po, .int ak', .int su', .int gt', .int lf', .int rf', .int kn'])), (bo, .inl (cI, 6, .inl h)), (po, .inl (cI, 2, .inl j)), (q, .inr (3, [.long n0, sv]))] := hD
  refine lv_aload_n FX.1 FX.2.1 dL_law_1552 rfl (lv_at hl 3 rfl) ?_
  refine p_rd (k := 1) (v := r1) FX hX hbl hbA hS (lv_at hl 4 rfl) (lv_at hl 0 rfl) dL_law_1553 dL_law_1554 dL_law_1556 dL_law_1557 dL_law_1558 rfl hin1 ey1 ?_
  refine p_rd (k := 2) (v := r2) FX hX hbl hbA hS (lv_at hl 4 rfl) (lv_at hl 0 rfl) dL_law_1559 dL_law_1560 dL_law_1562 dL_law_1563 dL_law_1564 rfl hin2 ey2 ?_
  refine lv_aload_n FX.1 FX.2.1 dL_law_1565 rfl (lv_at hl 1 rfl) ?_
  refine c_J (W0 := [(x, .inr (2, [.ref bx, .ref px, .ref t, .int ak, .int su, .int gt, .int lf, .int rf, .int kn])), (bx, .inl (cI, 6, .inl f)), (px, .inl (cI, 2, .inl g)), (q, .inr (3, [.long n0, sv]))]) (wr := [(t, .inr (1, [.ref bt, .int 0, .int ml, .int cn])), (bt, .inl (cB, 16, .inl bs)), (o, .inr (4, [.int th, .ref bo, .ref po, .int ak', .int su', .int gt', .int lf', .int rf', .int kn'])), (bo, .inl (cI, 6, .inl h)), (po, .inl (cI, 2, .inl j))]) (wsN := fun _ => [(x, .inr (2, [.ref bx, .ref px, .ref t, .int ak, .int su, .int gt, .int lf, .int rf, .int kn])), (bx, .inl (cI, 6, .inl f)), (px, .inl (cI, 2, .inl g)), (t, .inr (1, [.ref bt, .int 0, .int ml, .int cn])), (bt, .inl (cB, 16, .inl bs)), (o, .inr (4, [.int th, .ref bo, .ref po, .int ak', .int su', .int gt', .int lf', .int rf', .int kn'])), (bo, .inl (cI, 6, .inl h)), (po, .inl (cI, 2, .inl j)), (q, .inr (3, [.long (hn_isLike r1 r2 f n0), sv]))]) (vx_runSW FX ((j_L_isLike l hl0 D cI cB x bx px t f g ak su gt lf rf kn q n0 sv r1 r2) H.size) (my_cwSW FX.2.2.2.2 mh_L_isLike ml_RL_222 (RMok.mk)) ⟨PJ.blind (zAnd_ok (zAnd_ok zz_ok zN_ok) zF_ok), fun U hU hW => ⟨rfl, my_preJ (zAnd_ok (zAnd_ok zz_ok zN_ok) zF_ok) ⟨hz.1.1, hz.1.2.1⟩ hS hA hK hP hD [0, 1, 2, 8] rfl rfl U hU hW⟩⟩ rfl rfl hl.1 rfl (lv_room (Nat.le_of_ble_eq_true rfl)) dL_law_1566 ⟨by omega, by omega⟩) hP hD hS hA [0, 1, 2, 8] rfl [3, 4, 5, 6, 7] rfl (by decide) [5, 6, 7, 0, 1, 2, 3, 4, 8] (fun _ => rfl) rfl (fun u1 H locs hp_1 hP hD hS => ?_)
  have hP : va_P D KL [(x, .inr (2, [.ref bx, .ref px, .ref t, .int ak, .int su, .int gt, .int lf, .int rf, .int kn])), (bx, .inl (cI, 6, .inl f)), (px, .inl (cI, 2, .inl g)), (t, .inr (1, [.ref bt, .int 0, .int ml, .int cn])), (bt, .inl (cB, 16, .inl bs)), (o, .inr (4, [.int th, .ref bo, .ref po, .int ak', .int su', .int gt', .int lf', .int rf', .int kn'])), (bo, .inl (cI, 6, .inl h)), (po, .inl (cI, 2, .inl j)), (q, .inr (3, [.long (hn_isLike r1 r2 f n0), sv]))] H := hP
  have hD : va_D (fun q => s.heap.size ≤ q) [(x, .inr (2, [.ref bx, .ref px, .ref t, .int ak, .int su, .int gt, .int lf, .int rf, .int kn])), (bx, .inl (cI, 6, .inl f)), (px, .inl (cI, 2, .inl g)), (t, .inr (1, [.ref bt, .int 0, .int ml, .int cn])), (bt, .inl (cB, 16, .inl bs)), (o, .inr (4, [.int th, .ref bo, .ref po, .int ak', .int su', .int gt', .int lf', .int rf', .int kn'])), (bo, .inl (cI, 6, .inl h)), (po, .inl (cI, 2, .inl j)), (q, .inr (3, [.long (hn_isLike r1 r2 f n0), sv]))] := hD
  refine W.eq (g2 := F0 m 1569 ls [.int (hk_isLike r1 r2)]) rfl ?_
  refine lv_istore (lv' := [(5, .int (hk_isLike r1 r2)), (4, .int (nI i)), (3, .ref q), (2, .ref o), (1, .ref x), (0, .ref b)]) FX.1 FX.2.1 dL_law_1569 hl (by decide) rfl (fun ls hl => ?_)
  refine lv_aload_n FX.1 FX.2.1 dL_law_1571 rfl (lv_at hl 3 rfl) ?_
  refine p_rd (k := 1) (v := r1) FX hX hbl hbA hS (lv_at hl 5 rfl) (lv_at hl 1 rfl) dL_law_1572 dL_law_1573 dL_law_1575 dL_law_1576 dL_law_1577 rfl hin1 ey1 ?_
  refine p_rd (k := 2) (v := r2) FX hX hbl hbA hS (lv_at hl 5 rfl) (lv_at hl 1 rfl) dL_law_1578 dL_law_1579 dL_law_1581 dL_law_1582 dL_law_1583 rfl hin2 ey2 ?_
  obtain ⟨eT, eA, hI2⟩ := st_isLike r1 r2 n0 hI
  refine c_WRV (wr := [(x, .inr (2, [.ref bx, .ref px, .ref t, .int ak, .int su, .int gt, .int lf, .int rf, .int kn])), (bx, .inl (cI, 6, .inl f)), (px, .inl (cI, 2, .inl g)), (t, .inr (1, [.ref bt, .int 0, .int ml, .int cn])), (bt, .inl (cB, 16, .inl bs)), (q, .inr (3, [.long (hn_isLike r1 r2 f n0), sv]))]) (wsN := [(x, .inr (2, [.ref bx, .ref px, .ref t, .int ak, .int su, .int gt, .int lf, .int rf, .int kn])), (bx, .inl (cI, 6, .inl f)), (px, .inl (cI, 2, .inl g)), (t, .inr (1, [.ref bt, .int 0, .int ml, .int cn])), (bt, .inl (cB, 16, .inl bs)), (o, .inr (4, [.int (wth_X2_isLike r1 r2), .ref bo, .ref po, .int ak', .int su', .int gt', .int lf', .int rf', .int kn'])), (bo, .inl (cI, 6, .inl h)), (po, .inl (cI, 2, .inl j)), (q, .inr (3, [.long (hn_isLike r1 r2 f n0), sv]))]) (i0 := 5) (ci := 4) FX (k_X2_isLike l D cI cB o bo po th h j ak' su' gt' lf' rf' kn' r1 r2) mi_X2_isLike rfl ml_RL_224 (RMok.mk) hl.1 rfl (Nat.le_of_ble_eq_true rfl) dL_law_1584 ⟨by omega, by omega⟩ hK hP hD hS hA [5, 6, 7] rfl [0, 1, 2, 3, 4, 8] rfl rfl (by decide) [0, 1, 2, 3, 4, 6, 7, 8, 5] rfl rfl rfl rfl rfl (fun H locs hP hD hS => ?_)
  refine lv_istore (lv' := [(6, .int (v_X2_isLike r1 r2 h)), (5, .int (hk_isLike r1 r2)), (4, .int (nI i)), (3, .ref q), (2, .ref o), (1, .ref x), (0, .ref b)]) FX.1 FX.2.1 dL_law_1587 hl (by decide) rfl (fun ls hl => ?_)
  refine lv_aload_n FX.1 FX.2.1 dL_law_1589 rfl (lv_at hl 4 rfl) ?_
  refine c_RDV (i0 := 5) (ci := 4) FX (r_X2_thrown l D cI cB o bo po (wth_X2_isLike r1 r2) h j ak' su' gt' lf' rf' kn') mi_X2_thrown rfl ml_RL_162 (RMok.mk) hl.1 rfl (Nat.le_of_ble_eq_true rfl) dL_law_1590 ⟨by omega, by omega⟩ hK hP [5, 6, 7] rfl rfl rfl rfl ?_
  refine lv_iload FX.1 FX.2.1 dL_law_1593 (lv_at hl 1 rfl) ?_
  refine lv_icmp_eq (tgt := 1600) FX.1 FX.2.1 dL_law_1595 (by decide) (fun c_1 => ?_) (fun c_1 => ?_)
  · refine lv_iload FX.1 FX.2.1 dL_law_1600 (lv_at hl 1 rfl) ?_
    refine lv_if_ne (tgt := 1625) FX.1 FX.2.1 dL_law_1602 (by decide) (fun c_2 => ?_) (fun c_2 => ?_)
    · refine lv_goto (tgt := 2982) FX.1 FX.2.1 dL_law_1625 (by decide) ?_
      refine W.widen (k := cc + 33) (n := ss + 321) (by omega) (by omega) ?_
      exact kk H locs f g ak su gt lf rf kn ml cn bs (wth_X2_isLike r1 r2) h j ak' su' gt' lf' rf' kn' (hn_isLike r1 r2 f n0) sv ls hI2 hb hc hP hD hS (lv_sub hl [2, 3, 4, 5, 6] rfl)
    · refine lv_aload_n FX.1 FX.2.1 dL_law_1605 rfl (lv_at hl 3 rfl) ?_
      refine p_getN (ci := 3) (v := .long (hn_isLike r1 r2 f n0)) FX inX1 hK hP 8 rfl rfl 0 (by decide) hz.1.2.1 rfl dL_law_1606 ?_
      refine lv_iload FX.1 FX.2.1 dL_law_1609 (lv_at hl 0 rfl) ?_
      refine lv_if_eq (tgt := 1618) FX.1 FX.2.1 dL_law_1611 (by decide) (fun c_3 => ?_) (fun c_3 => ?_)
      · refine lv_lconst (v := 0) FX.1 FX.2.1 dL_law_1618 (by decide) ?_
        refine W.eq (g2 := F0 m 1619 ls [.long 0, .long 0]) (by rw [eA c_2, if_pos c_3]) ?_
        refine W.lcmp FX.1 FX.2.1 dL_law_1619 ?_
        refine W.eq (g2 := F0 m 1620 ls [.int 0]) (by rw [lg_self]) ?_
        refine lv_if_eq (tgt := 1625) FX.1 FX.2.1 dL_law_1620 (by decide) (fun c_4 => ?_) (fun c_4 => ?_)
        · refine lv_goto (tgt := 2982) FX.1 FX.2.1 dL_law_1625 (by decide) ?_
          refine W.widen (k := cc + 33) (n := ss + 321) (by omega) (by omega) ?_
          exact kk H locs f g ak su gt lf rf kn ml cn bs (wth_X2_isLike r1 r2) h j ak' su' gt' lf' rf' kn' (hn_isLike r1 r2 f n0) sv ls hI2 hb hc hP hD hS (lv_sub hl [2, 3, 4, 5, 6] rfl)
        · exact absurd c_4 (by decide)
      · refine lv_lconst (v := 1) FX.1 FX.2.1 dL_law_1614 (by decide) ?_
        refine lv_goto (tgt := 1619) FX.1 FX.2.1 dL_law_1615 (by decide) ?_
        refine W.eq (g2 := F0 m 1619 ls [.long 1, .long 1]) (by rw [eA c_2, if_neg c_3]) ?_
        refine W.lcmp FX.1 FX.2.1 dL_law_1619 ?_
        refine W.eq (g2 := F0 m 1620 ls [.int 0]) (by rw [lg_self]) ?_
        refine lv_if_eq (tgt := 1625) FX.1 FX.2.1 dL_law_1620 (by decide) (fun c_5 => ?_) (fun c_5 => ?_)
        · refine lv_goto (tgt := 2982) FX.1 FX.2.1 dL_law_1625 (by decide) ?_
          refine W.widen (k := cc + 33) (n := ss + 321) (by omega) (by omega) ?_
          exact kk H locs f g ak su gt lf rf kn ml cn bs (wth_X2_isLike r1 r2) h j ak' su' gt' lf' rf' kn' (hn_isLike r1 r2 f n0) sv ls hI2 hb hc hP hD hS (lv_sub hl [2, 3, 4, 5, 6] rfl)
        · exact absurd c_5 (by decide)
  · exact absurd eT c_1
set_option maxRecDepth 100000 in
set_option maxHeartbeats 4000000 in
theorem case_19 {p : Program} {l : Launch} {e : Env} {s : State} {m : MethodId} {below : List Frame} {meth : Method} {c : Code} (hl0 : l.stackTraces = false) (D : va_G) (cI cB : ClassId) (b L : Nat) (xs : Nat → Int32) (x bx px t bt o bo po q : Nat) (to tt : Nat) (go gu : Nat → Int32) (na nv : Nat) (nf : Nat → Int32) (nb nw : Nat) (nh : Nat → Int32) (ea ew : Nat) (ef : Nat → Int32) (i cc ss : Nat) (hi : i + 6 ≤ L) (hcc : cc + 33 ≤ room_1.cells) (hss : ss + 321 ≤ room_1.slots) (hL : L ≤ 6) (FX : CallFix p m c cL_law 7 s #[.ref b] bigW RL) (hK : va_K D KL (TY cI cB) s) (hX : va_X b L xs s s.heap) (hbl : b < s.heap.size) (hz : zLaw to tt go gu na nv nf nb nw nh ea ew ef (fun q => s.heap.size ≤ q) s s.heap) (hfn : sb_Fit nf) (hfe : sb_Fit ef) (hnn : TL 4 nf nh) (kk : LGo p l e s m below meth c D cI cB b x bx px t bt o bo po q i 2982 (cc + 33) (ss + 321)) : LGo p l e s m below meth c D cI cB b x bx px t bt o bo po q i 1628 cc ss := by
  intro H locs f g ak su gt lf rf kn ml cn bs th h j ak' su' gt' lf' rf' kn' n0 sv ls hI hb hc hP hD hS hl
  have hA : ∀ q : Nat, s.heap.size ≤ q → s.heap.size ≤ q := fun _ h => h
  have hbA : ¬ (fun q : Nat => s.heap.size ≤ q) b := Nat.not_le.mpr hbl
  obtain ⟨r1, ey1⟩ : ∃ y, xs (i + 1) = y := ⟨_, rfl⟩
  have hin1 : i + 1 < L ∧ L < 2 ^ 31 := ⟨by omega, by omega⟩
  have hl : lv_has ls 7 [(4, .int (nI i)), (3, .ref q), (2, .ref o), (1, .ref x), (0, .ref b)] := hl
  have hP : va_P D KL [(x, .inr (2, [.ref bx, .ref px, .ref t, .int ak, .int su, .int gt, .int lf, .int rf, .int kn])), (bx, .inl (cI, 6, .inl f)), (px, .inl (cI, 2, .inl g)), (t, .inr (1, [.ref bt, .int 0, .int ml, .int cn])), (bt, .inl (cB, 16, .inl bs)), (o, .inr (4, [.int th, .ref bo, .ref po, .int ak', .int su', .int gt', .int lf', .int rf', .int kn'])), (bo, .inl (cI, 6, .inl h)), (po, .inl (cI, 2, .inl j)), (q, .inr (3, [.long n0, sv]))] H := hP
  have hD : va_D (fun q => s.heap.size ≤ q) [(x, .inr (2, [.ref bx, .ref px, .ref t, .int ak, .int su, .int gt, .int lf, .int rf, .int kn])), (bx, .inl (cI, 6, .inl f)), (px, .inl (cI, 2, .inl g)), (t, .inr (1, [.ref bt, .int 0, .int ml, .int cn])), (bt, .inl (cB, 16, .inl bs)), (o, .inr (4, [.int th, .ref bo, .ref po, .int ak', .int su', .int gt', .int lf', .int rf', .int kn'])), (bo, .inl (cI, 6, .inl h)), (po, .inl (cI, 2, .inl j)), (q, .inr (3, [.long n0, sv]))] := hD
  refine lv_aload_n FX.1 FX.2.1 dL_law_1628 rfl (lv_at hl 3 rfl) ?_
  refine p_rd (k := 1) (v := r1) FX hX hbl hbA hS (lv_at hl 4 rfl) (lv_at hl 0 rfl) dL_law_1629 dL_law_1630 dL_law_1632 dL_law_1633 dL_law_1634 rfl hin1 ey1 ?_
  refine lv_aload_n FX.1 FX.2.1 dL_law_1635 rfl (lv_at hl 1 rfl) ?_
  refine c_J (W0 := [(x, .inr (2, [.ref bx, .ref px, .ref t, .int ak, .int su, .int gt, .int lf, .int rf, .int kn])), (bx, .inl (cI, 6, .inl f)), (px, .inl (cI, 2, .inl g)), (q, .inr (3, [.long n0, sv]))]) (wr := [(t, .inr (1, [.ref bt, .int 0, .int ml, .int cn])), (bt, .inl (cB, 16, .inl bs)), (o, .inr (4, [.int th, .ref bo, .ref po, .int ak', .int su', .int gt', .int lf', .int rf', .int kn'])), (bo, .inl (cI, 6, .inl h)), (po, .inl (cI, 2, .inl j))]) (wsN := fun _ => [(x, .inr (2, [.ref bx, .ref px, .ref t, .int ak, .int su, .int gt, .int lf, .int rf, .int kn])), (bx, .inl (cI, 6, .inl f)), (px, .inl (cI, 2, .inl g)), (t, .inr (1, [.ref bt, .int 0, .int ml, .int cn])), (bt, .inl (cB, 16, .inl bs)), (o, .inr (4, [.int th, .ref bo, .ref po, .int ak', .int su', .int gt', .int lf', .int rf', .int kn'])), (bo, .inl (cI, 6, .inl h)), (po, .inl (cI, 2, .inl j)), (q, .inr (3, [.long (hn_code r1 f n0), sv]))]) (vx_runSW FX ((j_L_code l hl0 D cI cB x bx px t f g ak su gt lf rf kn q n0 sv r1) H.size) (my_cwSW FX.2.2.2.2 mh_L_code ml_RL_225 (RMok.mk)) ⟨PJ.blind (zAnd_ok (zAnd_ok zz_ok zN_ok) zF_ok), fun U hU hW => ⟨rfl, my_preJ (zAnd_ok (zAnd_ok zz_ok zN_ok) zF_ok) ⟨hz.1.1, hz.1.2.1⟩ hS hA hK hP hD [0, 1, 2, 8] rfl rfl U hU hW⟩⟩ rfl rfl hl.1 rfl (lv_room (Nat.le_of_ble_eq_true rfl)) dL_law_1636 ⟨by omega, by omega⟩) hP hD hS hA [0, 1, 2, 8] rfl [3, 4, 5, 6, 7] rfl (by decide) [5, 6, 7, 0, 1, 2, 3, 4, 8] (fun _ => rfl) rfl (fun u1 H locs hp_1 hP hD hS => ?_)
  have hP : va_P D KL [(x, .inr (2, [.ref bx, .ref px, .ref t, .int ak, .int su, .int gt, .int lf, .int rf, .int kn])), (bx, .inl (cI, 6, .inl f)), (px, .inl (cI, 2, .inl g)), (t, .inr (1, [.ref bt, .int 0, .int ml, .int cn])), (bt, .inl (cB, 16, .inl bs)), (o, .inr (4, [.int th, .ref bo, .ref po, .int ak', .int su', .int gt', .int lf', .int rf', .int kn'])), (bo, .inl (cI, 6, .inl h)), (po, .inl (cI, 2, .inl j)), (q, .inr (3, [.long (hn_code r1 f n0), sv]))] H := hP
  have hD : va_D (fun q => s.heap.size ≤ q) [(x, .inr (2, [.ref bx, .ref px, .ref t, .int ak, .int su, .int gt, .int lf, .int rf, .int kn])), (bx, .inl (cI, 6, .inl f)), (px, .inl (cI, 2, .inl g)), (t, .inr (1, [.ref bt, .int 0, .int ml, .int cn])), (bt, .inl (cB, 16, .inl bs)), (o, .inr (4, [.int th, .ref bo, .ref po, .int ak', .int su', .int gt', .int lf', .int rf', .int kn'])), (bo, .inl (cI, 6, .inl h)), (po, .inl (cI, 2, .inl j)), (q, .inr (3, [.long (hn_code r1 f n0), sv]))] := hD
  refine W.eq (g2 := F0 m 1639 ls [.int (hk_code r1)]) rfl ?_
  refine lv_istore (lv' := [(5, .int (hk_code r1)), (4, .int (nI i)), (3, .ref q), (2, .ref o), (1, .ref x), (0, .ref b)]) FX.1 FX.2.1 dL_law_1639 hl (by decide) rfl (fun ls hl => ?_)
  refine lv_aload_n FX.1 FX.2.1 dL_law_1641 rfl (lv_at hl 3 rfl) ?_
  refine p_rd (k := 1) (v := r1) FX hX hbl hbA hS (lv_at hl 5 rfl) (lv_at hl 1 rfl) dL_law_1642 dL_law_1643 dL_law_1645 dL_law_1646 dL_law_1647 rfl hin1 ey1 ?_
  obtain ⟨eT, eA, hI2⟩ := st_code r1 n0 hI
  refine c_WRV (wr := [(x, .inr (2, [.ref bx, .ref px, .ref t, .int ak, .int su, .int gt, .int lf, .int rf, .int kn])), (bx, .inl (cI, 6, .inl f)), (px, .inl (cI, 2, .inl g)), (t, .inr (1, [.ref bt, .int 0, .int ml, .int cn])), (bt, .inl (cB, 16, .inl bs)), (q, .inr (3, [.long (hn_code r1 f n0), sv]))]) (wsN := [(x, .inr (2, [.ref bx, .ref px, .ref t, .int ak, .int su, .int gt, .int lf, .int rf, .int kn])), (bx, .inl (cI, 6, .inl f)), (px, .inl (cI, 2, .inl g)), (t, .inr (1, [.ref bt, .int 0, .int ml, .int cn])), (bt, .inl (cB, 16, .inl bs)), (o, .inr (4, [.int (wth_X2_code r1), .ref bo, .ref po, .int ak', .int su', .int gt', .int lf', .int rf', .int kn'])), (bo, .inl (cI, 6, .inl h)), (po, .inl (cI, 2, .inl j)), (q, .inr (3, [.long (hn_code r1 f n0), sv]))]) (i0 := 5) (ci := 4) FX (k_X2_code l D cI cB o bo po th h j ak' su' gt' lf' rf' kn' r1) mi_X2_code rfl ml_RL_227 (RMok.mk) hl.1 rfl (Nat.le_of_ble_eq_true rfl) dL_law_1648 ⟨by omega, by omega⟩ hK hP hD hS hA [5, 6, 7] rfl [0, 1, 2, 3, 4, 8] rfl rfl (by decide) [0, 1, 2, 3, 4, 6, 7, 8, 5] rfl rfl rfl rfl rfl (fun H locs hP hD hS => ?_)
  refine lv_istore (lv' := [(6, .int (v_X2_code r1 h)), (5, .int (hk_code r1)), (4, .int (nI i)), (3, .ref q), (2, .ref o), (1, .ref x), (0, .ref b)]) FX.1 FX.2.1 dL_law_1651 hl (by decide) rfl (fun ls hl => ?_)
  refine lv_aload_n FX.1 FX.2.1 dL_law_1653 rfl (lv_at hl 4 rfl) ?_
  refine c_RDV (i0 := 5) (ci := 4) FX (r_X2_thrown l D cI cB o bo po (wth_X2_code r1) h j ak' su' gt' lf' rf' kn') mi_X2_thrown rfl ml_RL_162 (RMok.mk) hl.1 rfl (Nat.le_of_ble_eq_true rfl) dL_law_1654 ⟨by omega, by omega⟩ hK hP [5, 6, 7] rfl rfl rfl rfl ?_
  refine lv_iload FX.1 FX.2.1 dL_law_1657 (lv_at hl 1 rfl) ?_
  refine lv_icmp_eq (tgt := 1664) FX.1 FX.2.1 dL_law_1659 (by decide) (fun c_1 => ?_) (fun c_1 => ?_)
  · refine lv_iload FX.1 FX.2.1 dL_law_1664 (lv_at hl 1 rfl) ?_
    refine lv_if_ne (tgt := 1682) FX.1 FX.2.1 dL_law_1666 (by decide) (fun c_2 => ?_) (fun c_2 => ?_)
    · refine lv_goto (tgt := 2982) FX.1 FX.2.1 dL_law_1682 (by decide) ?_
      refine W.widen (k := cc + 33) (n := ss + 321) (by omega) (by omega) ?_
      exact kk H locs f g ak su gt lf rf kn ml cn bs (wth_X2_code r1) h j ak' su' gt' lf' rf' kn' (hn_code r1 f n0) sv ls hI2 hb hc hP hD hS (lv_sub hl [2, 3, 4, 5, 6] rfl)
    · refine lv_aload_n FX.1 FX.2.1 dL_law_1669 rfl (lv_at hl 3 rfl) ?_
      refine p_getN (ci := 3) (v := .long (hn_code r1 f n0)) FX inX1 hK hP 8 rfl rfl 0 (by decide) hz.1.2.1 rfl dL_law_1670 ?_
      refine lv_iload FX.1 FX.2.1 dL_law_1673 (lv_at hl 0 rfl) ?_
      refine lv_i2l (v := (v_X2_code r1 h).toInt64) FX.1 FX.2.1 dL_law_1675 rfl ?_
      refine W.eq (g2 := F0 m 1676 ls [.long ((v_X2_code r1 h).toInt64), .long ((v_X2_code r1 h).toInt64)]) (by rw [eA c_2]) ?_
      refine W.lcmp FX.1 FX.2.1 dL_law_1676 ?_
      refine W.eq (g2 := F0 m 1677 ls [.int 0]) (by rw [lg_self]) ?_
      refine lv_if_eq (tgt := 1682) FX.1 FX.2.1 dL_law_1677 (by decide) (fun c_3 => ?_) (fun c_3 => ?_)
      · refine lv_goto (tgt := 2982) FX.1 FX.2.1 dL_law_1682 (by decide) ?_
        refine W.widen (k := cc + 33) (n := ss + 321) (by omega) (by omega) ?_
        exact kk H locs f g ak su gt lf rf kn ml cn bs (wth_X2_code r1) h j ak' su' gt' lf' rf' kn' (hn_code r1 f n0) sv ls hI2 hb hc hP hD hS (lv_sub hl [2, 3, 4, 5, 6] rfl)
      · exact absurd c_3 (by decide)
  · exact absurd eT c_1
set_option maxRecDepth 100000 in
set_option maxHeartbeats 4000000 in
theorem case_20 {p : Program} {l : Launch} {e : Env} {s : State} {m : MethodId} {below : List Frame} {meth : Method} {c : Code} (hl0 : l.stackTraces = false) (D : va_G) (cI cB : ClassId) (b L : Nat) (xs : Nat → Int32) (x bx px t bt o bo po q : Nat) (to tt : Nat) (go gu : Nat → Int32) (na nv : Nat) (nf : Nat → Int32) (nb nw : Nat) (nh : Nat → Int32) (ea ew : Nat) (ef : Nat → Int32) (i cc ss : Nat) (hi : i + 6 ≤ L) (hcc : cc + 33 ≤ room_1.cells) (hss : ss + 321 ≤ room_1.slots) (hL : L ≤ 6) (FX : CallFix p m c cL_law 7 s #[.ref b] bigW RL) (hK : va_K D KL (TY cI cB) s) (hX : va_X b L xs s s.heap) (hbl : b < s.heap.size) (hz : zLaw to tt go gu na nv nf nb nw nh ea ew ef (fun q => s.heap.size ≤ q) s s.heap) (hfn : sb_Fit nf) (hfe : sb_Fit ef) (hnn : TL 4 nf nh) (kk : LGo p l e s m below meth c D cI cB b x bx px t bt o bo po q i 2982 (cc + 33) (ss + 321)) : LGo p l e s m below meth c D cI cB b x bx px t bt o bo po q i 1685 cc ss := by
  intro H locs f g ak su gt lf rf kn ml cn bs th h j ak' su' gt' lf' rf' kn' n0 sv ls hI hb hc hP hD hS hl
  have hA : ∀ q : Nat, s.heap.size ≤ q → s.heap.size ≤ q := fun _ h => h
  have hbA : ¬ (fun q : Nat => s.heap.size ≤ q) b := Nat.not_le.mpr hbl
  obtain ⟨r1, ey1⟩ : ∃ y, xs (i + 1) = y := ⟨_, rfl⟩
  have hin1 : i + 1 < L ∧ L < 2 ^ 31 := ⟨by omega, by omega⟩
  obtain ⟨r2, ey2⟩ : ∃ y, xs (i + 2) = y := ⟨_, rfl⟩
  have hin2 : i + 2 < L ∧ L < 2 ^ 31 := ⟨by omega, by omega⟩
  have hl : lv_has ls 7 [(4, .int (nI i)), (3, .ref q), (2, .ref o), (1, .ref x), (0, .ref b)] := hl
  have hP : va_P D KL [(x, .inr (2, [.ref bx, .ref px, .ref t, .int ak, .int su, .int gt, .int lf, .int rf, .int kn])), (bx, .inl (cI, 6, .inl f)), (px, .inl (cI, 2, .inl g)), (t, .inr (1, [.ref bt, .int 0, .int ml, .int cn])), (bt, .inl (cB, 16, .inl bs)), (o, .inr (4, [.int th, .ref bo, .ref po, .int ak', .int su', .int gt', .int lf', .int rf', .int kn'])), (bo, .inl (cI, 6, .inl h)), (po, .inl (cI, 2, .inl j)), (q, .inr (3, [.long n0, sv]))] H := hP
  have hD : va_D (fun q => s.heap.size ≤ q) [(x, .inr (2, [.ref bx, .ref px, .ref t, .int ak, .int su, .int gt, .int lf, .int rf, .int kn])), (bx, .inl (cI, 6, .inl f)), (px, .inl (cI, 2, .inl g)), (t, .inr (1, [.ref bt, .int 0, .int ml, .int cn])), (bt, .inl (cB, 16, .inl bs)), (o, .inr (4, [.int th, .ref bo, .ref po, .int ak', .int su', .int gt', .int lf', .int rf', .int kn'])), (bo, .inl (cI, 6, .inl h)), (po, .inl (cI, 2, .inl j)), (q, .inr (3, [.long n0, sv]))] := hD
  refine lv_aload_n FX.1 FX.2.1 dL_law_1685 rfl (lv_at hl 3 rfl) ?_
  refine p_rd (k := 1) (v := r1) FX hX hbl hbA hS (lv_at hl 4 rfl) (lv_at hl 0 rfl) dL_law_1686 dL_law_1687 dL_law_1689 dL_law_1690 dL_law_1691 rfl hin1 ey1 ?_
  refine p_rd (k := 2) (v := r2) FX hX hbl hbA hS (lv_at hl 4 rfl) (lv_at hl 0 rfl) dL_law_1692 dL_law_1693 dL_law_1695 dL_law_1696 dL_law_1697 rfl hin2 ey2 ?_
  refine lv_aload_n FX.1 FX.2.1 dL_law_1698 rfl (lv_at hl 1 rfl) ?_
  refine c_J (W0 := [(x, .inr (2, [.ref bx, .ref px, .ref t, .int ak, .int su, .int gt, .int lf, .int rf, .int kn])), (bx, .inl (cI, 6, .inl f)), (px, .inl (cI, 2, .inl g)), (q, .inr (3, [.long n0, sv]))]) (wr := [(t, .inr (1, [.ref bt, .int 0, .int ml, .int cn])), (bt, .inl (cB, 16, .inl bs)), (o, .inr (4, [.int th, .ref bo, .ref po, .int ak', .int su', .int gt', .int lf', .int rf', .int kn'])), (bo, .inl (cI, 6, .inl h)), (po, .inl (cI, 2, .inl j))]) (wsN := fun _ => [(x, .inr (2, [.ref bx, .ref px, .ref t, .int ak, .int su, .int gt, .int lf, .int rf, .int kn])), (bx, .inl (cI, 6, .inl f)), (px, .inl (cI, 2, .inl (hg_fillPlain r1 r2 g))), (t, .inr (1, [.ref bt, .int 0, .int ml, .int cn])), (bt, .inl (cB, 16, .inl bs)), (o, .inr (4, [.int th, .ref bo, .ref po, .int ak', .int su', .int gt', .int lf', .int rf', .int kn'])), (bo, .inl (cI, 6, .inl h)), (po, .inl (cI, 2, .inl j)), (q, .inr (3, [.long (hn_fillPlain r1 r2 g n0), sv]))]) (vx_runSW FX ((j_L_fillPlain l hl0 D cI cB x bx px t f g ak su gt lf rf kn q n0 sv r1 r2) H.size) (my_cwSW FX.2.2.2.2 mh_L_fillPlain ml_RL_228 (RMok.mk)) ⟨PJ.blind (zAnd_ok (zAnd_ok zz_ok zN_ok) zF_ok), fun U hU hW => ⟨rfl, my_preJ (zAnd_ok (zAnd_ok zz_ok zN_ok) zF_ok) ⟨hz.1.1, hz.1.2.1⟩ hS hA hK hP hD [0, 1, 2, 8] rfl rfl U hU hW⟩⟩ rfl rfl hl.1 rfl (lv_room (Nat.le_of_ble_eq_true rfl)) dL_law_1699 ⟨by omega, by omega⟩) hP hD hS hA [0, 1, 2, 8] rfl [3, 4, 5, 6, 7] rfl (by decide) [5, 6, 7, 0, 1, 2, 3, 4, 8] (fun _ => rfl) rfl (fun u1 H locs hp_1 hP hD hS => ?_)
  have hP : va_P D KL [(x, .inr (2, [.ref bx, .ref px, .ref t, .int ak, .int su, .int gt, .int lf, .int rf, .int kn])), (bx, .inl (cI, 6, .inl f)), (px, .inl (cI, 2, .inl (hg_fillPlain r1 r2 g))), (t, .inr (1, [.ref bt, .int 0, .int ml, .int cn])), (bt, .inl (cB, 16, .inl bs)), (o, .inr (4, [.int th, .ref bo, .ref po, .int ak', .int su', .int gt', .int lf', .int rf', .int kn'])), (bo, .inl (cI, 6, .inl h)), (po, .inl (cI, 2, .inl j)), (q, .inr (3, [.long (hn_fillPlain r1 r2 g n0), sv]))] H := hP
  have hD : va_D (fun q => s.heap.size ≤ q) [(x, .inr (2, [.ref bx, .ref px, .ref t, .int ak, .int su, .int gt, .int lf, .int rf, .int kn])), (bx, .inl (cI, 6, .inl f)), (px, .inl (cI, 2, .inl (hg_fillPlain r1 r2 g))), (t, .inr (1, [.ref bt, .int 0, .int ml, .int cn])), (bt, .inl (cB, 16, .inl bs)), (o, .inr (4, [.int th, .ref bo, .ref po, .int ak', .int su', .int gt', .int lf', .int rf', .int kn'])), (bo, .inl (cI, 6, .inl h)), (po, .inl (cI, 2, .inl j)), (q, .inr (3, [.long (hn_fillPlain r1 r2 g n0), sv]))] := hD
  refine W.eq (g2 := F0 m 1702 ls [.int (hk_fillPlain r1 r2)]) rfl ?_
  refine lv_istore (lv' := [(5, .int (hk_fillPlain r1 r2)), (4, .int (nI i)), (3, .ref q), (2, .ref o), (1, .ref x), (0, .ref b)]) FX.1 FX.2.1 dL_law_1702 hl (by decide) rfl (fun ls hl => ?_)
  refine lv_aload_n FX.1 FX.2.1 dL_law_1704 rfl (lv_at hl 3 rfl) ?_
  refine p_rd (k := 1) (v := r1) FX hX hbl hbA hS (lv_at hl 5 rfl) (lv_at hl 1 rfl) dL_law_1705 dL_law_1706 dL_law_1708 dL_law_1709 dL_law_1710 rfl hin1 ey1 ?_
  refine p_rd (k := 2) (v := r2) FX hX hbl hbA hS (lv_at hl 5 rfl) (lv_at hl 1 rfl) dL_law_1711 dL_law_1712 dL_law_1714 dL_law_1715 dL_law_1716 rfl hin2 ey2 ?_
  obtain ⟨eT, eA, hI2⟩ := st_fillPlain r1 r2 n0 hI
  refine c_WRV (wr := [(x, .inr (2, [.ref bx, .ref px, .ref t, .int ak, .int su, .int gt, .int lf, .int rf, .int kn])), (bx, .inl (cI, 6, .inl f)), (px, .inl (cI, 2, .inl (hg_fillPlain r1 r2 g))), (t, .inr (1, [.ref bt, .int 0, .int ml, .int cn])), (bt, .inl (cB, 16, .inl bs)), (q, .inr (3, [.long (hn_fillPlain r1 r2 g n0), sv]))]) (wsN := [(x, .inr (2, [.ref bx, .ref px, .ref t, .int ak, .int su, .int gt, .int lf, .int rf, .int kn])), (bx, .inl (cI, 6, .inl f)), (px, .inl (cI, 2, .inl (hg_fillPlain r1 r2 g))), (t, .inr (1, [.ref bt, .int 0, .int ml, .int cn])), (bt, .inl (cB, 16, .inl bs)), (o, .inr (4, [.int (wth_X2_fillPlain r1 r2), .ref bo, .ref po, .int ak', .int su', .int gt', .int lf', .int rf', .int kn'])), (bo, .inl (cI, 6, .inl h)), (po, .inl (cI, 2, .inl (wg_X2_fillPlain r1 r2 j))), (q, .inr (3, [.long (hn_fillPlain r1 r2 g n0), sv]))]) (i0 := 5) (ci := 4) FX (k_X2_fillPlain l D cI cB o bo po th h j ak' su' gt' lf' rf' kn' r1 r2) mi_X2_fillPlain rfl ml_RL_230 (RMok.mk) hl.1 rfl (Nat.le_of_ble_eq_true rfl) dL_law_1717 ⟨by omega, by omega⟩ hK hP hD hS hA [5, 6, 7] rfl [0, 1, 2, 3, 4, 8] rfl rfl (by decide) [0, 1, 2, 3, 4, 6, 7, 8, 5] rfl rfl rfl rfl rfl (fun H locs hP hD hS => ?_)
  refine lv_istore (lv' := [(6, .int (v_X2_fillPlain r1 r2 j)), (5, .int (hk_fillPlain r1 r2)), (4, .int (nI i)), (3, .ref q), (2, .ref o), (1, .ref x), (0, .ref b)]) FX.1 FX.2.1 dL_law_1720 hl (by decide) rfl (fun ls hl => ?_)
  refine lv_aload_n FX.1 FX.2.1 dL_law_1722 rfl (lv_at hl 4 rfl) ?_
  refine c_RDV (i0 := 5) (ci := 4) FX (r_X2_thrown l D cI cB o bo po (wth_X2_fillPlain r1 r2) h (wg_X2_fillPlain r1 r2 j) ak' su' gt' lf' rf' kn') mi_X2_thrown rfl ml_RL_162 (RMok.mk) hl.1 rfl (Nat.le_of_ble_eq_true rfl) dL_law_1723 ⟨by omega, by omega⟩ hK hP [5, 6, 7] rfl rfl rfl rfl ?_
  refine lv_iload FX.1 FX.2.1 dL_law_1726 (lv_at hl 1 rfl) ?_
  refine lv_icmp_eq (tgt := 1733) FX.1 FX.2.1 dL_law_1728 (by decide) (fun c_1 => ?_) (fun c_1 => ?_)
  · refine lv_iload FX.1 FX.2.1 dL_law_1733 (lv_at hl 1 rfl) ?_
    refine lv_if_ne (tgt := 1751) FX.1 FX.2.1 dL_law_1735 (by decide) (fun c_2 => ?_) (fun c_2 => ?_)
    · refine lv_goto (tgt := 2982) FX.1 FX.2.1 dL_law_1751 (by decide) ?_
      refine W.widen (k := cc + 33) (n := ss + 321) (by omega) (by omega) ?_
      exact kk H locs f (hg_fillPlain r1 r2 g) ak su gt lf rf kn ml cn bs (wth_X2_fillPlain r1 r2) h (wg_X2_fillPlain r1 r2 j) ak' su' gt' lf' rf' kn' (hn_fillPlain r1 r2 g n0) sv ls hI2 hb hc hP hD hS (lv_sub hl [2, 3, 4, 5, 6] rfl)
    · refine lv_aload_n FX.1 FX.2.1 dL_law_1738 rfl (lv_at hl 3 rfl) ?_
      refine p_getN (ci := 3) (v := .long (hn_fillPlain r1 r2 g n0)) FX inX1 hK hP 8 rfl rfl 0 (by decide) hz.1.2.1 rfl dL_law_1739 ?_
      refine lv_iload FX.1 FX.2.1 dL_law_1742 (lv_at hl 0 rfl) ?_
      refine lv_i2l (v := (v_X2_fillPlain r1 r2 j).toInt64) FX.1 FX.2.1 dL_law_1744 rfl ?_
      refine W.eq (g2 := F0 m 1745 ls [.long ((v_X2_fillPlain r1 r2 j).toInt64), .long ((v_X2_fillPlain r1 r2 j).toInt64)]) (by rw [eA c_2]) ?_
      refine W.lcmp FX.1 FX.2.1 dL_law_1745 ?_
      refine W.eq (g2 := F0 m 1746 ls [.int 0]) (by rw [lg_self]) ?_
      refine lv_if_eq (tgt := 1751) FX.1 FX.2.1 dL_law_1746 (by decide) (fun c_3 => ?_) (fun c_3 => ?_)
      · refine lv_goto (tgt := 2982) FX.1 FX.2.1 dL_law_1751 (by decide) ?_
        refine W.widen (k := cc + 33) (n := ss + 321) (by omega) (by omega) ?_
        exact kk H locs f (hg_fillPlain r1 r2 g) ak su gt lf rf kn ml cn bs (wth_X2_fillPlain r1 r2) h (wg_X2_fillPlain r1 r2 j) ak' su' gt' lf' rf' kn' (hn_fillPlain r1 r2 g n0) sv ls hI2 hb hc hP hD hS (lv_sub hl [2, 3, 4, 5, 6] rfl)
      · exact absurd c_3 (by decide)
  · exact absurd eT c_1
set_option maxRecDepth 100000 in
set_option maxHeartbeats 4000000 in
theorem case_21 {p : Program} {l : Launch} {e : Env} {s : State} {m : MethodId} {below : List Frame} {meth : Method} {c : Code} (hl0 : l.stackTraces = false) (D : va_G) (cI cB : ClassId) (b L : Nat) (xs : Nat → Int32) (x bx px t bt o bo po q : Nat) (to tt : Nat) (go gu : Nat → Int32) (na nv : Nat) (nf : Nat → Int32) (nb nw : Nat) (nh : Nat → Int32) (ea ew : Nat) (ef : Nat → Int32) (i cc ss : Nat) (hi : i + 6 ≤ L) (hcc : cc + 33 ≤ room_1.cells) (hss : ss + 321 ≤ room_1.slots) (hL : L ≤ 6) (FX : CallFix p m c cL_law 7 s #[.ref b] bigW RL) (hK : va_K D KL (TY cI cB) s) (hX : va_X b L xs s s.heap) (hbl : b < s.heap.size) (hz : zLaw to tt go gu na nv nf nb nw nh ea ew ef (fun q => s.heap.size ≤ q) s s.heap) (hfn : sb_Fit nf) (hfe : sb_Fit ef) (hnn : TL 4 nf nh) (kk : LGo p l e s m below meth c D cI cB b x bx px t bt o bo po q i 2982 (cc + 33) (ss + 321)) : LGo p l e s m below meth c D cI cB b x bx px t bt o bo po q i 1754 cc ss := by
  intro H locs f g ak su gt lf rf kn ml cn bs th h j ak' su' gt' lf' rf' kn' n0 sv ls hI hb hc hP hD hS hl
  have hA : ∀ q : Nat, s.heap.size ≤ q → s.heap.size ≤ q := fun _ h => h
  have hbA : ¬ (fun q : Nat => s.heap.size ≤ q) b := Nat.not_le.mpr hbl
  obtain ⟨r1, ey1⟩ : ∃ y, xs (i + 1) = y := ⟨_, rfl⟩
  have hin1 : i + 1 < L ∧ L < 2 ^ 31 := ⟨by omega, by omega⟩
  have hl : lv_has ls 7 [(4, .int (nI i)), (3, .ref q), (2, .ref o), (1, .ref x), (0, .ref b)] := hl
  have hP : va_P D KL [(x, .inr (2, [.ref bx, .ref px, .ref t, .int ak, .int su, .int gt, .int lf, .int rf, .int kn])), (bx, .inl (cI, 6, .inl f)), (px, .inl (cI, 2, .inl g)), (t, .inr (1, [.ref bt, .int 0, .int ml, .int cn])), (bt, .inl (cB, 16, .inl bs)), (o, .inr (4, [.int th, .ref bo, .ref po, .int ak', .int su', .int gt', .int lf', .int rf', .int kn'])), (bo, .inl (cI, 6, .inl h)), (po, .inl (cI, 2, .inl j)), (q, .inr (3, [.long n0, sv]))] H := hP
  have hD : va_D (fun q => s.heap.size ≤ q) [(x, .inr (2, [.ref bx, .ref px, .ref t, .int ak, .int su, .int gt, .int lf, .int rf, .int kn])), (bx, .inl (cI, 6, .inl f)), (px, .inl (cI, 2, .inl g)), (t, .inr (1, [.ref bt, .int 0, .int ml, .int cn])), (bt, .inl (cB, 16, .inl bs)), (o, .inr (4, [.int th, .ref bo, .ref po, .int ak', .int su', .int gt', .int lf', .int rf', .int kn'])), (bo, .inl (cI, 6, .inl h)), (po, .inl (cI, 2, .inl j)), (q, .inr (3, [.long n0, sv]))] := hD
  refine lv_aload_n FX.1 FX.2.1 dL_law_1754 rfl (lv_at hl 3 rfl) ?_
  refine p_rd (k := 1) (v := r1) FX hX hbl hbA hS (lv_at hl 4 rfl) (lv_at hl 0 rfl) dL_law_1755 dL_law_1756 dL_law_1758 dL_law_1759 dL_law_1760 rfl hin1 ey1 ?_
  refine lv_aload_n FX.1 FX.2.1 dL_law_1761 rfl (lv_at hl 1 rfl) ?_
  refine c_J (W0 := [(x, .inr (2, [.ref bx, .ref px, .ref t, .int ak, .int su, .int gt, .int lf, .int rf, .int kn])), (bx, .inl (cI, 6, .inl f)), (px, .inl (cI, 2, .inl g)), (q, .inr (3, [.long n0, sv]))]) (wr := [(t, .inr (1, [.ref bt, .int 0, .int ml, .int cn])), (bt, .inl (cB, 16, .inl bs)), (o, .inr (4, [.int th, .ref bo, .ref po, .int ak', .int su', .int gt', .int lf', .int rf', .int kn'])), (bo, .inl (cI, 6, .inl h)), (po, .inl (cI, 2, .inl j))]) (wsN := fun _ => [(x, .inr (2, [.ref bx, .ref px, .ref t, .int ak, .int su, .int gt, .int lf, .int rf, .int kn])), (bx, .inl (cI, 6, .inl f)), (px, .inl (cI, 2, .inl (hg_emptyPlain r1 g))), (t, .inr (1, [.ref bt, .int 0, .int ml, .int cn])), (bt, .inl (cB, 16, .inl bs)), (o, .inr (4, [.int th, .ref bo, .ref po, .int ak', .int su', .int gt', .int lf', .int rf', .int kn'])), (bo, .inl (cI, 6, .inl h)), (po, .inl (cI, 2, .inl j)), (q, .inr (3, [.long (hn_emptyPlain r1 g n0), sv]))]) (vx_runSW FX ((j_L_emptyPlain l hl0 D cI cB x bx px t f g ak su gt lf rf kn q n0 sv r1) H.size) (my_cwSW FX.2.2.2.2 mh_L_emptyPlain ml_RL_231 (RMok.mk)) ⟨PJ.blind (zAnd_ok (zAnd_ok zz_ok zN_ok) zF_ok), fun U hU hW => ⟨rfl, my_preJ (zAnd_ok (zAnd_ok zz_ok zN_ok) zF_ok) ⟨hz.1.1, hz.1.2.1⟩ hS hA hK hP hD [0, 1, 2, 8] rfl rfl U hU hW⟩⟩ rfl rfl hl.1 rfl (lv_room (Nat.le_of_ble_eq_true rfl)) dL_law_1762 ⟨by omega, by omega⟩) hP hD hS hA [0, 1, 2, 8] rfl [3, 4, 5, 6, 7] rfl (by decide) [5, 6, 7, 0, 1, 2, 3, 4, 8] (fun _ => rfl) rfl (fun u1 H locs hp_1 hP hD hS => ?_)
  have hP : va_P D KL [(x, .inr (2, [.ref bx, .ref px, .ref t, .int ak, .int su, .int gt, .int lf, .int rf, .int kn])), (bx, .inl (cI, 6, .inl f)), (px, .inl (cI, 2, .inl (hg_emptyPlain r1 g))), (t, .inr (1, [.ref bt, .int 0, .int ml, .int cn])), (bt, .inl (cB, 16, .inl bs)), (o, .inr (4, [.int th, .ref bo, .ref po, .int ak', .int su', .int gt', .int lf', .int rf', .int kn'])), (bo, .inl (cI, 6, .inl h)), (po, .inl (cI, 2, .inl j)), (q, .inr (3, [.long (hn_emptyPlain r1 g n0), sv]))] H := hP
  have hD : va_D (fun q => s.heap.size ≤ q) [(x, .inr (2, [.ref bx, .ref px, .ref t, .int ak, .int su, .int gt, .int lf, .int rf, .int kn])), (bx, .inl (cI, 6, .inl f)), (px, .inl (cI, 2, .inl (hg_emptyPlain r1 g))), (t, .inr (1, [.ref bt, .int 0, .int ml, .int cn])), (bt, .inl (cB, 16, .inl bs)), (o, .inr (4, [.int th, .ref bo, .ref po, .int ak', .int su', .int gt', .int lf', .int rf', .int kn'])), (bo, .inl (cI, 6, .inl h)), (po, .inl (cI, 2, .inl j)), (q, .inr (3, [.long (hn_emptyPlain r1 g n0), sv]))] := hD
  refine W.eq (g2 := F0 m 1765 ls [.int (hk_emptyPlain r1)]) rfl ?_
  refine lv_istore (lv' := [(5, .int (hk_emptyPlain r1)), (4, .int (nI i)), (3, .ref q), (2, .ref o), (1, .ref x), (0, .ref b)]) FX.1 FX.2.1 dL_law_1765 hl (by decide) rfl (fun ls hl => ?_)
  refine lv_aload_n FX.1 FX.2.1 dL_law_1767 rfl (lv_at hl 3 rfl) ?_
  refine p_rd (k := 1) (v := r1) FX hX hbl hbA hS (lv_at hl 5 rfl) (lv_at hl 1 rfl) dL_law_1768 dL_law_1769 dL_law_1771 dL_law_1772 dL_law_1773 rfl hin1 ey1 ?_
  obtain ⟨eT, eA, hI2⟩ := st_emptyPlain r1 n0 hI
  refine c_WRV (wr := [(x, .inr (2, [.ref bx, .ref px, .ref t, .int ak, .int su, .int gt, .int lf, .int rf, .int kn])), (bx, .inl (cI, 6, .inl f)), (px, .inl (cI, 2, .inl (hg_emptyPlain r1 g))), (t, .inr (1, [.ref bt, .int 0, .int ml, .int cn])), (bt, .inl (cB, 16, .inl bs)), (q, .inr (3, [.long (hn_emptyPlain r1 g n0), sv]))]) (wsN := [(x, .inr (2, [.ref bx, .ref px, .ref t, .int ak, .int su, .int gt, .int lf, .int rf, .int kn])), (bx, .inl (cI, 6, .inl f)), (px, .inl (cI, 2, .inl (hg_emptyPlain r1 g))), (t, .inr (1, [.ref bt, .int 0, .int ml, .int cn])), (bt, .inl (cB, 16, .inl bs)), (o, .inr (4, [.int (wth_X2_emptyPlain r1), .ref bo, .ref po, .int ak', .int su', .int gt', .int lf', .int rf', .int kn'])), (bo, .inl (cI, 6, .inl h)), (po, .inl (cI, 2, .inl (wg_X2_emptyPlain r1 j))), (q, .inr (3, [.long (hn_emptyPlain r1 g n0), sv]))]) (i0 := 5) (ci := 4) FX (k_X2_emptyPlain l D cI cB o bo po th h j ak' su' gt' lf' rf' kn' r1) mi_X2_emptyPlain rfl ml_RL_233 (RMok.mk) hl.1 rfl (Nat.le_of_ble_eq_true rfl) dL_law_1774 ⟨by omega, by omega⟩ hK hP hD hS hA [5, 6, 7] rfl [0, 1, 2, 3, 4, 8] rfl rfl (by decide) [0, 1, 2, 3, 4, 6, 7, 8, 5] rfl rfl rfl rfl rfl (fun H locs hP hD hS => ?_)
  refine lv_istore (lv' := [(6, .int (v_X2_emptyPlain r1 j)), (5, .int (hk_emptyPlain r1)), (4, .int (nI i)), (3, .ref q), (2, .ref o), (1, .ref x), (0, .ref b)]) FX.1 FX.2.1 dL_law_1777 hl (by decide) rfl (fun ls hl => ?_)
  refine lv_aload_n FX.1 FX.2.1 dL_law_1779 rfl (lv_at hl 4 rfl) ?_
  refine c_RDV (i0 := 5) (ci := 4) FX (r_X2_thrown l D cI cB o bo po (wth_X2_emptyPlain r1) h (wg_X2_emptyPlain r1 j) ak' su' gt' lf' rf' kn') mi_X2_thrown rfl ml_RL_162 (RMok.mk) hl.1 rfl (Nat.le_of_ble_eq_true rfl) dL_law_1780 ⟨by omega, by omega⟩ hK hP [5, 6, 7] rfl rfl rfl rfl ?_
  refine lv_iload FX.1 FX.2.1 dL_law_1783 (lv_at hl 1 rfl) ?_
  refine lv_icmp_eq (tgt := 1790) FX.1 FX.2.1 dL_law_1785 (by decide) (fun c_1 => ?_) (fun c_1 => ?_)
  · refine lv_iload FX.1 FX.2.1 dL_law_1790 (lv_at hl 1 rfl) ?_
    refine lv_if_ne (tgt := 1808) FX.1 FX.2.1 dL_law_1792 (by decide) (fun c_2 => ?_) (fun c_2 => ?_)
    · refine lv_goto (tgt := 2982) FX.1 FX.2.1 dL_law_1808 (by decide) ?_
      refine W.widen (k := cc + 33) (n := ss + 321) (by omega) (by omega) ?_
      exact kk H locs f (hg_emptyPlain r1 g) ak su gt lf rf kn ml cn bs (wth_X2_emptyPlain r1) h (wg_X2_emptyPlain r1 j) ak' su' gt' lf' rf' kn' (hn_emptyPlain r1 g n0) sv ls hI2 hb hc hP hD hS (lv_sub hl [2, 3, 4, 5, 6] rfl)
    · refine lv_aload_n FX.1 FX.2.1 dL_law_1795 rfl (lv_at hl 3 rfl) ?_
      refine p_getN (ci := 3) (v := .long (hn_emptyPlain r1 g n0)) FX inX1 hK hP 8 rfl rfl 0 (by decide) hz.1.2.1 rfl dL_law_1796 ?_
      refine lv_iload FX.1 FX.2.1 dL_law_1799 (lv_at hl 0 rfl) ?_
      refine lv_i2l (v := (v_X2_emptyPlain r1 j).toInt64) FX.1 FX.2.1 dL_law_1801 rfl ?_
      refine W.eq (g2 := F0 m 1802 ls [.long ((v_X2_emptyPlain r1 j).toInt64), .long ((v_X2_emptyPlain r1 j).toInt64)]) (by rw [eA c_2]) ?_
      refine W.lcmp FX.1 FX.2.1 dL_law_1802 ?_
      refine W.eq (g2 := F0 m 1803 ls [.int 0]) (by rw [lg_self]) ?_
      refine lv_if_eq (tgt := 1808) FX.1 FX.2.1 dL_law_1803 (by decide) (fun c_3 => ?_) (fun c_3 => ?_)
      · refine lv_goto (tgt := 2982) FX.1 FX.2.1 dL_law_1808 (by decide) ?_
        refine W.widen (k := cc + 33) (n := ss + 321) (by omega) (by omega) ?_
        exact kk H locs f (hg_emptyPlain r1 g) ak su gt lf rf kn ml cn bs (wth_X2_emptyPlain r1) h (wg_X2_emptyPlain r1 j) ak' su' gt' lf' rf' kn' (hn_emptyPlain r1 g n0) sv ls hI2 hb hc hP hD hS (lv_sub hl [2, 3, 4, 5, 6] rfl)
      · exact absurd c_3 (by decide)
  · exact absurd eT c_1
set_option maxRecDepth 100000 in
set_option maxHeartbeats 4000000 in
theorem case_22 {p : Program} {l : Launch} {e : Env} {s : State} {m : MethodId} {below : List Frame} {meth : Method} {c : Code} (hl0 : l.stackTraces = false) (D : va_G) (cI cB : ClassId) (b L : Nat) (xs : Nat → Int32) (x bx px t bt o bo po q : Nat) (to tt : Nat) (go gu : Nat → Int32) (na nv : Nat) (nf : Nat → Int32) (nb nw : Nat) (nh : Nat → Int32) (ea ew : Nat) (ef : Nat → Int32) (i cc ss : Nat) (hi : i + 6 ≤ L) (hcc : cc + 33 ≤ room_1.cells) (hss : ss + 321 ≤ room_1.slots) (hL : L ≤ 6) (FX : CallFix p m c cL_law 7 s #[.ref b] bigW RL) (hK : va_K D KL (TY cI cB) s) (hX : va_X b L xs s s.heap) (hbl : b < s.heap.size) (hz : zLaw to tt go gu na nv nf nb nw nh ea ew ef (fun q => s.heap.size ≤ q) s s.heap) (hfn : sb_Fit nf) (hfe : sb_Fit ef) (hnn : TL 4 nf nh) (kk : LGo p l e s m below meth c D cI cB b x bx px t bt o bo po q i 2982 (cc + 33) (ss + 321)) : LGo p l e s m below meth c D cI cB b x bx px t bt o bo po q i 1811 cc ss := by
  intro H locs f g ak su gt lf rf kn ml cn bs th h j ak' su' gt' lf' rf' kn' n0 sv ls hI hb hc hP hD hS hl
  have hA : ∀ q : Nat, s.heap.size ≤ q → s.heap.size ≤ q := fun _ h => h
  have hbA : ¬ (fun q : Nat => s.heap.size ≤ q) b := Nat.not_le.mpr hbl
  obtain ⟨r1, ey1⟩ : ∃ y, xs (i + 1) = y := ⟨_, rfl⟩
  have hin1 : i + 1 < L ∧ L < 2 ^ 31 := ⟨by omega, by omega⟩
  have hl : lv_has ls 7 [(4, .int (nI i)), (3, .ref q), (2, .ref o), (1, .ref x), (0, .ref b)] := hl
  have hP : va_P D KL [(x, .inr (2, [.ref bx, .ref px, .ref t, .int ak, .int su, .int gt, .int lf, .int rf, .int kn])), (bx, .inl (cI, 6, .inl f)), (px, .inl (cI, 2, .inl g)), (t, .inr (1, [.ref bt, .int 0, .int ml, .int cn])), (bt, .inl (cB, 16, .inl bs)), (o, .inr (4, [.int th, .ref bo, .ref po, .int ak', .int su', .int gt', .int lf', .int rf', .int kn'])), (bo, .inl (cI, 6, .inl h)), (po, .inl (cI, 2, .inl j)), (q, .inr (3, [.long n0, sv]))] H := hP
  have hD : va_D (fun q => s.heap.size ≤ q) [(x, .inr (2, [.ref bx, .ref px, .ref t, .int ak, .int su, .int gt, .int lf, .int rf, .int kn])), (bx, .inl (cI, 6, .inl f)), (px, .inl (cI, 2, .inl g)), (t, .inr (1, [.ref bt, .int 0, .int ml, .int cn])), (bt, .inl (cB, 16, .inl bs)), (o, .inr (4, [.int th, .ref bo, .ref po, .int ak', .int su', .int gt', .int lf', .int rf', .int kn'])), (bo, .inl (cI, 6, .inl h)), (po, .inl (cI, 2, .inl j)), (q, .inr (3, [.long n0, sv]))] := hD
  refine lv_aload_n FX.1 FX.2.1 dL_law_1811 rfl (lv_at hl 3 rfl) ?_
  refine p_rd (k := 1) (v := r1) FX hX hbl hbA hS (lv_at hl 4 rfl) (lv_at hl 0 rfl) dL_law_1812 dL_law_1813 dL_law_1815 dL_law_1816 dL_law_1817 rfl hin1 ey1 ?_
  refine lv_aload_n FX.1 FX.2.1 dL_law_1818 rfl (lv_at hl 1 rfl) ?_
  refine c_J (W0 := [(x, .inr (2, [.ref bx, .ref px, .ref t, .int ak, .int su, .int gt, .int lf, .int rf, .int kn])), (bx, .inl (cI, 6, .inl f)), (px, .inl (cI, 2, .inl g)), (q, .inr (3, [.long n0, sv]))]) (wr := [(t, .inr (1, [.ref bt, .int 0, .int ml, .int cn])), (bt, .inl (cB, 16, .inl bs)), (o, .inr (4, [.int th, .ref bo, .ref po, .int ak', .int su', .int gt', .int lf', .int rf', .int kn'])), (bo, .inl (cI, 6, .inl h)), (po, .inl (cI, 2, .inl j))]) (wsN := fun _ => [(x, .inr (2, [.ref bx, .ref px, .ref t, .int ak, .int su, .int gt, .int lf, .int (hrf_getPlain r1 g rf), .int kn])), (bx, .inl (cI, 6, .inl f)), (px, .inl (cI, 2, .inl g)), (t, .inr (1, [.ref bt, .int 0, .int ml, .int cn])), (bt, .inl (cB, 16, .inl bs)), (o, .inr (4, [.int th, .ref bo, .ref po, .int ak', .int su', .int gt', .int lf', .int rf', .int kn'])), (bo, .inl (cI, 6, .inl h)), (po, .inl (cI, 2, .inl j)), (q, .inr (3, [.long (hn_getPlain r1 g n0), sv]))]) (vx_runSW FX ((j_L_getPlain l hl0 D cI cB x bx px t f g ak su gt lf rf kn q n0 sv r1) H.size) (my_cwSW FX.2.2.2.2 mh_L_getPlain ml_RL_234 (RMok.mk)) ⟨PJ.blind (zAnd_ok (zAnd_ok zz_ok zN_ok) zF_ok), fun U hU hW => ⟨rfl, my_preJ (zAnd_ok (zAnd_ok zz_ok zN_ok) zF_ok) ⟨hz.1.1, hz.1.2.1⟩ hS hA hK hP hD [0, 1, 2, 8] rfl rfl U hU hW⟩⟩ rfl rfl hl.1 rfl (lv_room (Nat.le_of_ble_eq_true rfl)) dL_law_1819 ⟨by omega, by omega⟩) hP hD hS hA [0, 1, 2, 8] rfl [3, 4, 5, 6, 7] rfl (by decide) [5, 6, 7, 0, 1, 2, 3, 4, 8] (fun _ => rfl) rfl (fun u1 H locs hp_1 hP hD hS => ?_)
  have hP : va_P D KL [(x, .inr (2, [.ref bx, .ref px, .ref t, .int ak, .int su, .int gt, .int lf, .int (hrf_getPlain r1 g rf), .int kn])), (bx, .inl (cI, 6, .inl f)), (px, .inl (cI, 2, .inl g)), (t, .inr (1, [.ref bt, .int 0, .int ml, .int cn])), (bt, .inl (cB, 16, .inl bs)), (o, .inr (4, [.int th, .ref bo, .ref po, .int ak', .int su', .int gt', .int lf', .int rf', .int kn'])), (bo, .inl (cI, 6, .inl h)), (po, .inl (cI, 2, .inl j)), (q, .inr (3, [.long (hn_getPlain r1 g n0), sv]))] H := hP
  have hD : va_D (fun q => s.heap.size ≤ q) [(x, .inr (2, [.ref bx, .ref px, .ref t, .int ak, .int su, .int gt, .int lf, .int (hrf_getPlain r1 g rf), .int kn])), (bx, .inl (cI, 6, .inl f)), (px, .inl (cI, 2, .inl g)), (t, .inr (1, [.ref bt, .int 0, .int ml, .int cn])), (bt, .inl (cB, 16, .inl bs)), (o, .inr (4, [.int th, .ref bo, .ref po, .int ak', .int su', .int gt', .int lf', .int rf', .int kn'])), (bo, .inl (cI, 6, .inl h)), (po, .inl (cI, 2, .inl j)), (q, .inr (3, [.long (hn_getPlain r1 g n0), sv]))] := hD
  refine W.eq (g2 := F0 m 1822 ls [.int (hk_getPlain r1)]) rfl ?_
  refine lv_istore (lv' := [(5, .int (hk_getPlain r1)), (4, .int (nI i)), (3, .ref q), (2, .ref o), (1, .ref x), (0, .ref b)]) FX.1 FX.2.1 dL_law_1822 hl (by decide) rfl (fun ls hl => ?_)
  refine lv_aload_n FX.1 FX.2.1 dL_law_1824 rfl (lv_at hl 3 rfl) ?_
  refine p_rd (k := 1) (v := r1) FX hX hbl hbA hS (lv_at hl 5 rfl) (lv_at hl 1 rfl) dL_law_1825 dL_law_1826 dL_law_1828 dL_law_1829 dL_law_1830 rfl hin1 ey1 ?_
  obtain ⟨eT, eA, hI2⟩ := st_getPlain r1 n0 hI
  refine c_WRV (wr := [(x, .inr (2, [.ref bx, .ref px, .ref t, .int ak, .int su, .int gt, .int lf, .int (hrf_getPlain r1 g rf), .int kn])), (bx, .inl (cI, 6, .inl f)), (px, .inl (cI, 2, .inl g)), (t, .inr (1, [.ref bt, .int 0, .int ml, .int cn])), (bt, .inl (cB, 16, .inl bs)), (q, .inr (3, [.long (hn_getPlain r1 g n0), sv]))]) (wsN := [(x, .inr (2, [.ref bx, .ref px, .ref t, .int ak, .int su, .int gt, .int lf, .int (hrf_getPlain r1 g rf), .int kn])), (bx, .inl (cI, 6, .inl f)), (px, .inl (cI, 2, .inl g)), (t, .inr (1, [.ref bt, .int 0, .int ml, .int cn])), (bt, .inl (cB, 16, .inl bs)), (o, .inr (4, [.int (wth_X2_getPlain r1), .ref bo, .ref po, .int ak', .int su', .int gt', .int lf', .int (wrf_X2_getPlain r1 j rf'), .int kn'])), (bo, .inl (cI, 6, .inl h)), (po, .inl (cI, 2, .inl j)), (q, .inr (3, [.long (hn_getPlain r1 g n0), sv]))]) (i0 := 5) (ci := 4) FX (k_X2_getPlain l D cI cB o bo po th h j ak' su' gt' lf' rf' kn' r1) mi_X2_getPlain rfl ml_RL_236 (RMok.mk) hl.1 rfl (Nat.le_of_ble_eq_true rfl) dL_law_1831 ⟨by omega, by omega⟩ hK hP hD hS hA [5, 6, 7] rfl [0, 1, 2, 3, 4, 8] rfl rfl (by decide) [0, 1, 2, 3, 4, 6, 7, 8, 5] rfl rfl rfl rfl rfl (fun H locs hP hD hS => ?_)
  refine lv_istore (lv' := [(6, .int (v_X2_getPlain r1 j)), (5, .int (hk_getPlain r1)), (4, .int (nI i)), (3, .ref q), (2, .ref o), (1, .ref x), (0, .ref b)]) FX.1 FX.2.1 dL_law_1834 hl (by decide) rfl (fun ls hl => ?_)
  refine lv_aload_n FX.1 FX.2.1 dL_law_1836 rfl (lv_at hl 4 rfl) ?_
  refine c_RDV (i0 := 5) (ci := 4) FX (r_X2_thrown l D cI cB o bo po (wth_X2_getPlain r1) h j ak' su' gt' lf' (wrf_X2_getPlain r1 j rf') kn') mi_X2_thrown rfl ml_RL_162 (RMok.mk) hl.1 rfl (Nat.le_of_ble_eq_true rfl) dL_law_1837 ⟨by omega, by omega⟩ hK hP [5, 6, 7] rfl rfl rfl rfl ?_
  refine lv_iload FX.1 FX.2.1 dL_law_1840 (lv_at hl 1 rfl) ?_
  refine lv_icmp_eq (tgt := 1847) FX.1 FX.2.1 dL_law_1842 (by decide) (fun c_1 => ?_) (fun c_1 => ?_)
  · refine lv_iload FX.1 FX.2.1 dL_law_1847 (lv_at hl 1 rfl) ?_
    refine lv_if_ne (tgt := 1865) FX.1 FX.2.1 dL_law_1849 (by decide) (fun c_2 => ?_) (fun c_2 => ?_)
    · refine lv_goto (tgt := 2982) FX.1 FX.2.1 dL_law_1865 (by decide) ?_
      refine W.widen (k := cc + 33) (n := ss + 321) (by omega) (by omega) ?_
      exact kk H locs f g ak su gt lf (hrf_getPlain r1 g rf) kn ml cn bs (wth_X2_getPlain r1) h j ak' su' gt' lf' (wrf_X2_getPlain r1 j rf') kn' (hn_getPlain r1 g n0) sv ls hI2 hb hc hP hD hS (lv_sub hl [2, 3, 4, 5, 6] rfl)
    · refine lv_aload_n FX.1 FX.2.1 dL_law_1852 rfl (lv_at hl 3 rfl) ?_
      refine p_getN (ci := 3) (v := .long (hn_getPlain r1 g n0)) FX inX1 hK hP 8 rfl rfl 0 (by decide) hz.1.2.1 rfl dL_law_1853 ?_
      refine lv_iload FX.1 FX.2.1 dL_law_1856 (lv_at hl 0 rfl) ?_
      refine lv_i2l (v := (v_X2_getPlain r1 j).toInt64) FX.1 FX.2.1 dL_law_1858 rfl ?_
      refine W.eq (g2 := F0 m 1859 ls [.long ((v_X2_getPlain r1 j).toInt64), .long ((v_X2_getPlain r1 j).toInt64)]) (by rw [eA c_2]) ?_
      refine W.lcmp FX.1 FX.2.1 dL_law_1859 ?_
      refine W.eq (g2 := F0 m 1860 ls [.int 0]) (by rw [lg_self]) ?_
      refine lv_if_eq (tgt := 1865) FX.1 FX.2.1 dL_law_1860 (by decide) (fun c_3 => ?_) (fun c_3 => ?_)
      · refine lv_goto (tgt := 2982) FX.1 FX.2.1 dL_law_1865 (by decide) ?_
        refine W.widen (k := cc + 33) (n := ss + 321) (by omega) (by omega) ?_
        exact kk H locs f g ak su gt lf (hrf_getPlain r1 g rf) kn ml cn bs (wth_X2_getPlain r1) h j ak' su' gt' lf' (wrf_X2_getPlain r1 j rf') kn' (hn_getPlain r1 g n0) sv ls hI2 hb hc hP hD hS (lv_sub hl [2, 3, 4, 5, 6] rfl)
      · exact absurd c_3 (by decide)
  · exact absurd eT c_1
set_option maxRecDepth 100000 in
set_option maxHeartbeats 4000000 in
theorem case_23 {p : Program} {l : Launch} {e : Env} {s : State} {m : MethodId} {below : List Frame} {meth : Method} {c : Code} (hl0 : l.stackTraces = false) (D : va_G) (cI cB : ClassId) (b L : Nat) (xs : Nat → Int32) (x bx px t bt o bo po q : Nat) (to tt : Nat) (go gu : Nat → Int32) (na nv : Nat) (nf : Nat → Int32) (nb nw : Nat) (nh : Nat → Int32) (ea ew : Nat) (ef : Nat → Int32) (i cc ss : Nat) (hi : i + 6 ≤ L) (hcc : cc + 33 ≤ room_1.cells) (hss : ss + 321 ≤ room_1.slots) (hL : L ≤ 6) (FX : CallFix p m c cL_law 7 s #[.ref b] bigW RL) (hK : va_K D KL (TY cI cB) s) (hX : va_X b L xs s s.heap) (hbl : b < s.heap.size) (hz : zLaw to tt go gu na nv nf nb nw nh ea ew ef (fun q => s.heap.size ≤ q) s s.heap) (hfn : sb_Fit nf) (hfe : sb_Fit ef) (hnn : TL 4 nf nh) (kk : LGo p l e s m below meth c D cI cB b x bx px t bt o bo po q i 2982 (cc + 33) (ss + 321)) : LGo p l e s m below meth c D cI cB b x bx px t bt o bo po q i 1868 cc ss := by
  intro H locs f g ak su gt lf rf kn ml cn bs th h j ak' su' gt' lf' rf' kn' n0 sv ls hI hb hc hP hD hS hl
  have hA : ∀ q : Nat, s.heap.size ≤ q → s.heap.size ≤ q := fun _ h => h
  have hbA : ¬ (fun q : Nat => s.heap.size ≤ q) b := Nat.not_le.mpr hbl
  obtain ⟨r1, ey1⟩ : ∃ y, xs (i + 1) = y := ⟨_, rfl⟩
  have hin1 : i + 1 < L ∧ L < 2 ^ 31 := ⟨by omega, by omega⟩
  obtain ⟨r2, ey2⟩ : ∃ y, xs (i + 2) = y := ⟨_, rfl⟩
  have hin2 : i + 2 < L ∧ L < 2 ^ 31 := ⟨by omega, by omega⟩
  have hl : lv_has ls 7 [(4, .int (nI i)), (3, .ref q), (2, .ref o), (1, .ref x), (0, .ref b)] := hl
  have hP : va_P D KL [(x, .inr (2, [.ref bx, .ref px, .ref t, .int ak, .int su, .int gt, .int lf, .int rf, .int kn])), (bx, .inl (cI, 6, .inl f)), (px, .inl (cI, 2, .inl g)), (t, .inr (1, [.ref bt, .int 0, .int ml, .int cn])), (bt, .inl (cB, 16, .inl bs)), (o, .inr (4, [.int th, .ref bo, .ref po, .int ak', .int su', .int gt', .int lf', .int rf', .int kn'])), (bo, .inl (cI, 6, .inl h)), (po, .inl (cI, 2, .inl j)), (q, .inr (3, [.long n0, sv]))] H := hP
  have hD : va_D (fun q => s.heap.size ≤ q) [(x, .inr (2, [.ref bx, .ref px, .ref t, .int ak, .int su, .int gt, .int lf, .int rf, .int kn])), (bx, .inl (cI, 6, .inl f)), (px, .inl (cI, 2, .inl g)), (t, .inr (1, [.ref bt, .int 0, .int ml, .int cn])), (bt, .inl (cB, 16, .inl bs)), (o, .inr (4, [.int th, .ref bo, .ref po, .int ak', .int su', .int gt', .int lf', .int rf', .int kn'])), (bo, .inl (cI, 6, .inl h)), (po, .inl (cI, 2, .inl j)), (q, .inr (3, [.long n0, sv]))] := hD
  refine lv_aload_n FX.1 FX.2.1 dL_law_1868 rfl (lv_at hl 3 rfl) ?_
  refine p_rd (k := 1) (v := r1) FX hX hbl hbA hS (lv_at hl 4 rfl) (lv_at hl 0 rfl) dL_law_1869 dL_law_1870 dL_law_1872 dL_law_1873 dL_law_1874 rfl hin1 ey1 ?_
  refine p_rd (k := 2) (v := r2) FX hX hbl hbA hS (lv_at hl 4 rfl) (lv_at hl 0 rfl) dL_law_1875 dL_law_1876 dL_law_1878 dL_law_1879 dL_law_1880 rfl hin2 ey2 ?_
  refine lv_aload_n FX.1 FX.2.1 dL_law_1881 rfl (lv_at hl 1 rfl) ?_
  refine c_J (W0 := [(x, .inr (2, [.ref bx, .ref px, .ref t, .int ak, .int su, .int gt, .int lf, .int rf, .int kn])), (bx, .inl (cI, 6, .inl f)), (px, .inl (cI, 2, .inl g)), (q, .inr (3, [.long n0, sv]))]) (wr := [(t, .inr (1, [.ref bt, .int 0, .int ml, .int cn])), (bt, .inl (cB, 16, .inl bs)), (o, .inr (4, [.int th, .ref bo, .ref po, .int ak', .int su', .int gt', .int lf', .int rf', .int kn'])), (bo, .inl (cI, 6, .inl h)), (po, .inl (cI, 2, .inl j))]) (wsN := fun _ => [(x, .inr (2, [.ref bx, .ref px, .ref t, .int ak, .int su, .int gt, .int lf, .int rf, .int kn])), (bx, .inl (cI, 6, .inl f)), (px, .inl (cI, 2, .inl g)), (t, .inr (1, [.ref bt, .int 0, .int ml, .int cn])), (bt, .inl (cB, 16, .inl bs)), (o, .inr (4, [.int th, .ref bo, .ref po, .int ak', .int su', .int gt', .int lf', .int rf', .int kn'])), (bo, .inl (cI, 6, .inl h)), (po, .inl (cI, 2, .inl j)), (q, .inr (3, [.long (hn_orElsePlain r1 r2 g n0), sv]))]) (vx_runSW FX ((j_L_orElsePlain l hl0 D cI cB x bx px t f g ak su gt lf rf kn q n0 sv r1 r2) H.size) (my_cwSW FX.2.2.2.2 mh_L_orElsePlain ml_RL_237 (RMok.mk)) ⟨PJ.blind (zAnd_ok (zAnd_ok zz_ok zN_ok) zF_ok), fun U hU hW => ⟨rfl, my_preJ (zAnd_ok (zAnd_ok zz_ok zN_ok) zF_ok) ⟨hz.1.1, hz.1.2.1⟩ hS hA hK hP hD [0, 1, 2, 8] rfl rfl U hU hW⟩⟩ rfl rfl hl.1 rfl (lv_room (Nat.le_of_ble_eq_true rfl)) dL_law_1882 ⟨by omega, by omega⟩) hP hD hS hA [0, 1, 2, 8] rfl [3, 4, 5, 6, 7] rfl (by decide) [5, 6, 7, 0, 1, 2, 3, 4, 8] (fun _ => rfl) rfl (fun u1 H locs hp_1 hP hD hS => ?_)
  have hP : va_P D KL [(x, .inr (2, [.ref bx, .ref px, .ref t, .int ak, .int su, .int gt, .int lf, .int rf, .int kn])), (bx, .inl (cI, 6, .inl f)), (px, .inl (cI, 2, .inl g)), (t, .inr (1, [.ref bt, .int 0, .int ml, .int cn])), (bt, .inl (cB, 16, .inl bs)), (o, .inr (4, [.int th, .ref bo, .ref po, .int ak', .int su', .int gt', .int lf', .int rf', .int kn'])), (bo, .inl (cI, 6, .inl h)), (po, .inl (cI, 2, .inl j)), (q, .inr (3, [.long (hn_orElsePlain r1 r2 g n0), sv]))] H := hP
  have hD : va_D (fun q => s.heap.size ≤ q) [(x, .inr (2, [.ref bx, .ref px, .ref t, .int ak, .int su, .int gt, .int lf, .int rf, .int kn])), (bx, .inl (cI, 6, .inl f)), (px, .inl (cI, 2, .inl g)), (t, .inr (1, [.ref bt, .int 0, .int ml, .int cn])), (bt, .inl (cB, 16, .inl bs)), (o, .inr (4, [.int th, .ref bo, .ref po, .int ak', .int su', .int gt', .int lf', .int rf', .int kn'])), (bo, .inl (cI, 6, .inl h)), (po, .inl (cI, 2, .inl j)), (q, .inr (3, [.long (hn_orElsePlain r1 r2 g n0), sv]))] := hD
  refine W.eq (g2 := F0 m 1885 ls [.int (hk_orElsePlain r1 r2)]) rfl ?_
  refine lv_istore (lv' := [(5, .int (hk_orElsePlain r1 r2)), (4, .int (nI i)), (3, .ref q), (2, .ref o), (1, .ref x), (0, .ref b)]) FX.1 FX.2.1 dL_law_1885 hl (by decide) rfl (fun ls hl => ?_)
  refine lv_aload_n FX.1 FX.2.1 dL_law_1887 rfl (lv_at hl 3 rfl) ?_
  refine p_rd (k := 1) (v := r1) FX hX hbl hbA hS (lv_at hl 5 rfl) (lv_at hl 1 rfl) dL_law_1888 dL_law_1889 dL_law_1891 dL_law_1892 dL_law_1893 rfl hin1 ey1 ?_
  refine p_rd (k := 2) (v := r2) FX hX hbl hbA hS (lv_at hl 5 rfl) (lv_at hl 1 rfl) dL_law_1894 dL_law_1895 dL_law_1897 dL_law_1898 dL_law_1899 rfl hin2 ey2 ?_
  obtain ⟨eT, eA, hI2⟩ := st_orElsePlain r1 r2 n0 hI
  refine c_WRV (wr := [(x, .inr (2, [.ref bx, .ref px, .ref t, .int ak, .int su, .int gt, .int lf, .int rf, .int kn])), (bx, .inl (cI, 6, .inl f)), (px, .inl (cI, 2, .inl g)), (t, .inr (1, [.ref bt, .int 0, .int ml, .int cn])), (bt, .inl (cB, 16, .inl bs)), (q, .inr (3, [.long (hn_orElsePlain r1 r2 g n0), sv]))]) (wsN := [(x, .inr (2, [.ref bx, .ref px, .ref t, .int ak, .int su, .int gt, .int lf, .int rf, .int kn])), (bx, .inl (cI, 6, .inl f)), (px, .inl (cI, 2, .inl g)), (t, .inr (1, [.ref bt, .int 0, .int ml, .int cn])), (bt, .inl (cB, 16, .inl bs)), (o, .inr (4, [.int (wth_X2_orElsePlain r1 r2), .ref bo, .ref po, .int ak', .int su', .int gt', .int lf', .int rf', .int kn'])), (bo, .inl (cI, 6, .inl h)), (po, .inl (cI, 2, .inl j)), (q, .inr (3, [.long (hn_orElsePlain r1 r2 g n0), sv]))]) (i0 := 5) (ci := 4) FX (k_X2_orElsePlain l D cI cB o bo po th h j ak' su' gt' lf' rf' kn' r1 r2) mi_X2_orElsePlain rfl ml_RL_239 (RMok.mk) hl.1 rfl (Nat.le_of_ble_eq_true rfl) dL_law_1900 ⟨by omega, by omega⟩ hK hP hD hS hA [5, 6, 7] rfl [0, 1, 2, 3, 4, 8] rfl rfl (by decide) [0, 1, 2, 3, 4, 6, 7, 8, 5] rfl rfl rfl rfl rfl (fun H locs hP hD hS => ?_)
  refine lv_istore (lv' := [(6, .int (v_X2_orElsePlain r1 r2 j)), (5, .int (hk_orElsePlain r1 r2)), (4, .int (nI i)), (3, .ref q), (2, .ref o), (1, .ref x), (0, .ref b)]) FX.1 FX.2.1 dL_law_1903 hl (by decide) rfl (fun ls hl => ?_)
  refine lv_aload_n FX.1 FX.2.1 dL_law_1905 rfl (lv_at hl 4 rfl) ?_
  refine c_RDV (i0 := 5) (ci := 4) FX (r_X2_thrown l D cI cB o bo po (wth_X2_orElsePlain r1 r2) h j ak' su' gt' lf' rf' kn') mi_X2_thrown rfl ml_RL_162 (RMok.mk) hl.1 rfl (Nat.le_of_ble_eq_true rfl) dL_law_1906 ⟨by omega, by omega⟩ hK hP [5, 6, 7] rfl rfl rfl rfl ?_
  refine lv_iload FX.1 FX.2.1 dL_law_1909 (lv_at hl 1 rfl) ?_
  refine lv_icmp_eq (tgt := 1916) FX.1 FX.2.1 dL_law_1911 (by decide) (fun c_1 => ?_) (fun c_1 => ?_)
  · refine lv_iload FX.1 FX.2.1 dL_law_1916 (lv_at hl 1 rfl) ?_
    refine lv_if_ne (tgt := 1934) FX.1 FX.2.1 dL_law_1918 (by decide) (fun c_2 => ?_) (fun c_2 => ?_)
    · refine lv_goto (tgt := 2982) FX.1 FX.2.1 dL_law_1934 (by decide) ?_
      refine W.widen (k := cc + 33) (n := ss + 321) (by omega) (by omega) ?_
      exact kk H locs f g ak su gt lf rf kn ml cn bs (wth_X2_orElsePlain r1 r2) h j ak' su' gt' lf' rf' kn' (hn_orElsePlain r1 r2 g n0) sv ls hI2 hb hc hP hD hS (lv_sub hl [2, 3, 4, 5, 6] rfl)
    · refine lv_aload_n FX.1 FX.2.1 dL_law_1921 rfl (lv_at hl 3 rfl) ?_
      refine p_getN (ci := 3) (v := .long (hn_orElsePlain r1 r2 g n0)) FX inX1 hK hP 8 rfl rfl 0 (by decide) hz.1.2.1 rfl dL_law_1922 ?_
      refine lv_iload FX.1 FX.2.1 dL_law_1925 (lv_at hl 0 rfl) ?_
      refine lv_i2l (v := (v_X2_orElsePlain r1 r2 j).toInt64) FX.1 FX.2.1 dL_law_1927 rfl ?_
      refine W.eq (g2 := F0 m 1928 ls [.long ((v_X2_orElsePlain r1 r2 j).toInt64), .long ((v_X2_orElsePlain r1 r2 j).toInt64)]) (by rw [eA c_2]) ?_
      refine W.lcmp FX.1 FX.2.1 dL_law_1928 ?_
      refine W.eq (g2 := F0 m 1929 ls [.int 0]) (by rw [lg_self]) ?_
      refine lv_if_eq (tgt := 1934) FX.1 FX.2.1 dL_law_1929 (by decide) (fun c_3 => ?_) (fun c_3 => ?_)
      · refine lv_goto (tgt := 2982) FX.1 FX.2.1 dL_law_1934 (by decide) ?_
        refine W.widen (k := cc + 33) (n := ss + 321) (by omega) (by omega) ?_
        exact kk H locs f g ak su gt lf rf kn ml cn bs (wth_X2_orElsePlain r1 r2) h j ak' su' gt' lf' rf' kn' (hn_orElsePlain r1 r2 g n0) sv ls hI2 hb hc hP hD hS (lv_sub hl [2, 3, 4, 5, 6] rfl)
      · exact absurd c_3 (by decide)
  · exact absurd eT c_1
set_option maxRecDepth 100000 in
set_option maxHeartbeats 4000000 in
theorem case_24 {p : Program} {l : Launch} {e : Env} {s : State} {m : MethodId} {below : List Frame} {meth : Method} {c : Code} (hl0 : l.stackTraces = false) (D : va_G) (cI cB : ClassId) (b L : Nat) (xs : Nat → Int32) (x bx px t bt o bo po q : Nat) (to tt : Nat) (go gu : Nat → Int32) (na nv : Nat) (nf : Nat → Int32) (nb nw : Nat) (nh : Nat → Int32) (ea ew : Nat) (ef : Nat → Int32) (i cc ss : Nat) (hi : i + 6 ≤ L) (hcc : cc + 33 ≤ room_1.cells) (hss : ss + 321 ≤ room_1.slots) (hL : L ≤ 6) (FX : CallFix p m c cL_law 7 s #[.ref b] bigW RL) (hK : va_K D KL (TY cI cB) s) (hX : va_X b L xs s s.heap) (hbl : b < s.heap.size) (hz : zLaw to tt go gu na nv nf nb nw nh ea ew ef (fun q => s.heap.size ≤ q) s s.heap) (hfn : sb_Fit nf) (hfe : sb_Fit ef) (hnn : TL 4 nf nh) (kk : LGo p l e s m below meth c D cI cB b x bx px t bt o bo po q i 2982 (cc + 33) (ss + 321)) : LGo p l e s m below meth c D cI cB b x bx px t bt o bo po q i 1937 cc ss := by
  intro H locs f g ak su gt lf rf kn ml cn bs th h j ak' su' gt' lf' rf' kn' n0 sv ls hI hb hc hP hD hS hl
  have hA : ∀ q : Nat, s.heap.size ≤ q → s.heap.size ≤ q := fun _ h => h
  have hbA : ¬ (fun q : Nat => s.heap.size ≤ q) b := Nat.not_le.mpr hbl
  obtain ⟨r1, ey1⟩ : ∃ y, xs (i + 1) = y := ⟨_, rfl⟩
  have hin1 : i + 1 < L ∧ L < 2 ^ 31 := ⟨by omega, by omega⟩
  have hl : lv_has ls 7 [(4, .int (nI i)), (3, .ref q), (2, .ref o), (1, .ref x), (0, .ref b)] := hl
  have hP : va_P D KL [(x, .inr (2, [.ref bx, .ref px, .ref t, .int ak, .int su, .int gt, .int lf, .int rf, .int kn])), (bx, .inl (cI, 6, .inl f)), (px, .inl (cI, 2, .inl g)), (t, .inr (1, [.ref bt, .int 0, .int ml, .int cn])), (bt, .inl (cB, 16, .inl bs)), (o, .inr (4, [.int th, .ref bo, .ref po, .int ak', .int su', .int gt', .int lf', .int rf', .int kn'])), (bo, .inl (cI, 6, .inl h)), (po, .inl (cI, 2, .inl j)), (q, .inr (3, [.long n0, sv]))] H := hP
  have hD : va_D (fun q => s.heap.size ≤ q) [(x, .inr (2, [.ref bx, .ref px, .ref t, .int ak, .int su, .int gt, .int lf, .int rf, .int kn])), (bx, .inl (cI, 6, .inl f)), (px, .inl (cI, 2, .inl g)), (t, .inr (1, [.ref bt, .int 0, .int ml, .int cn])), (bt, .inl (cB, 16, .inl bs)), (o, .inr (4, [.int th, .ref bo, .ref po, .int ak', .int su', .int gt', .int lf', .int rf', .int kn'])), (bo, .inl (cI, 6, .inl h)), (po, .inl (cI, 2, .inl j)), (q, .inr (3, [.long n0, sv]))] := hD
  refine lv_aload_n FX.1 FX.2.1 dL_law_1937 rfl (lv_at hl 3 rfl) ?_
  refine p_rd (k := 1) (v := r1) FX hX hbl hbA hS (lv_at hl 4 rfl) (lv_at hl 0 rfl) dL_law_1938 dL_law_1939 dL_law_1941 dL_law_1942 dL_law_1943 rfl hin1 ey1 ?_
  refine lv_aload_n FX.1 FX.2.1 dL_law_1944 rfl (lv_at hl 1 rfl) ?_
  refine c_J (W0 := [(x, .inr (2, [.ref bx, .ref px, .ref t, .int ak, .int su, .int gt, .int lf, .int rf, .int kn])), (bx, .inl (cI, 6, .inl f)), (px, .inl (cI, 2, .inl g)), (q, .inr (3, [.long n0, sv]))]) (wr := [(t, .inr (1, [.ref bt, .int 0, .int ml, .int cn])), (bt, .inl (cB, 16, .inl bs)), (o, .inr (4, [.int th, .ref bo, .ref po, .int ak', .int su', .int gt', .int lf', .int rf', .int kn'])), (bo, .inl (cI, 6, .inl h)), (po, .inl (cI, 2, .inl j))]) (wsN := fun _ => [(x, .inr (2, [.ref bx, .ref px, .ref t, .int ak, .int su, .int gt, .int lf, .int rf, .int kn])), (bx, .inl (cI, 6, .inl f)), (px, .inl (cI, 2, .inl g)), (t, .inr (1, [.ref bt, .int 0, .int ml, .int cn])), (bt, .inl (cB, 16, .inl bs)), (o, .inr (4, [.int th, .ref bo, .ref po, .int ak', .int su', .int gt', .int lf', .int rf', .int kn'])), (bo, .inl (cI, 6, .inl h)), (po, .inl (cI, 2, .inl j)), (q, .inr (3, [.long (hn_isFullPlain r1 g n0), sv]))]) (vx_runSW FX ((j_L_isFullPlain l hl0 D cI cB x bx px t f g ak su gt lf rf kn q n0 sv r1) H.size) (my_cwSW FX.2.2.2.2 mh_L_isFullPlain ml_RL_240 (RMok.mk)) ⟨PJ.blind (zAnd_ok (zAnd_ok zz_ok zN_ok) zF_ok), fun U hU hW => ⟨rfl, my_preJ (zAnd_ok (zAnd_ok zz_ok zN_ok) zF_ok) ⟨hz.1.1, hz.1.2.1⟩ hS hA hK hP hD [0, 1, 2, 8] rfl rfl U hU hW⟩⟩ rfl rfl hl.1 rfl (lv_room (Nat.le_of_ble_eq_true rfl)) dL_law_1945 ⟨by omega, by omega⟩) hP hD hS hA [0, 1, 2, 8] rfl [3, 4, 5, 6, 7] rfl (by decide) [5, 6, 7, 0, 1, 2, 3, 4, 8] (fun _ => rfl) rfl (fun u1 H locs hp_1 hP hD hS => ?_)
  have hP : va_P D KL [(x, .inr (2, [.ref bx, .ref px, .ref t, .int ak, .int su, .int gt, .int lf, .int rf, .int kn])), (bx, .inl (cI, 6, .inl f)), (px, .inl (cI, 2, .inl g)), (t, .inr (1, [.ref bt, .int 0, .int ml, .int cn])), (bt, .inl (cB, 16, .inl bs)), (o, .inr (4, [.int th, .ref bo, .ref po, .int ak', .int su', .int gt', .int lf', .int rf', .int kn'])), (bo, .inl (cI, 6, .inl h)), (po, .inl (cI, 2, .inl j)), (q, .inr (3, [.long (hn_isFullPlain r1 g n0), sv]))] H := hP
  have hD : va_D (fun q => s.heap.size ≤ q) [(x, .inr (2, [.ref bx, .ref px, .ref t, .int ak, .int su, .int gt, .int lf, .int rf, .int kn])), (bx, .inl (cI, 6, .inl f)), (px, .inl (cI, 2, .inl g)), (t, .inr (1, [.ref bt, .int 0, .int ml, .int cn])), (bt, .inl (cB, 16, .inl bs)), (o, .inr (4, [.int th, .ref bo, .ref po, .int ak', .int su', .int gt', .int lf', .int rf', .int kn'])), (bo, .inl (cI, 6, .inl h)), (po, .inl (cI, 2, .inl j)), (q, .inr (3, [.long (hn_isFullPlain r1 g n0), sv]))] := hD
  refine W.eq (g2 := F0 m 1948 ls [.int (hk_isFullPlain r1)]) rfl ?_
  refine lv_istore (lv' := [(5, .int (hk_isFullPlain r1)), (4, .int (nI i)), (3, .ref q), (2, .ref o), (1, .ref x), (0, .ref b)]) FX.1 FX.2.1 dL_law_1948 hl (by decide) rfl (fun ls hl => ?_)
  refine lv_aload_n FX.1 FX.2.1 dL_law_1950 rfl (lv_at hl 3 rfl) ?_
  refine p_rd (k := 1) (v := r1) FX hX hbl hbA hS (lv_at hl 5 rfl) (lv_at hl 1 rfl) dL_law_1951 dL_law_1952 dL_law_1954 dL_law_1955 dL_law_1956 rfl hin1 ey1 ?_
  obtain ⟨eT, eA, hI2⟩ := st_isFullPlain r1 n0 hI
  refine c_WRV (wr := [(x, .inr (2, [.ref bx, .ref px, .ref t, .int ak, .int su, .int gt, .int lf, .int rf, .int kn])), (bx, .inl (cI, 6, .inl f)), (px, .inl (cI, 2, .inl g)), (t, .inr (1, [.ref bt, .int 0, .int ml, .int cn])), (bt, .inl (cB, 16, .inl bs)), (q, .inr (3, [.long (hn_isFullPlain r1 g n0), sv]))]) (wsN := [(x, .inr (2, [.ref bx, .ref px, .ref t, .int ak, .int su, .int gt, .int lf, .int rf, .int kn])), (bx, .inl (cI, 6, .inl f)), (px, .inl (cI, 2, .inl g)), (t, .inr (1, [.ref bt, .int 0, .int ml, .int cn])), (bt, .inl (cB, 16, .inl bs)), (o, .inr (4, [.int (wth_X2_isFullPlain r1), .ref bo, .ref po, .int ak', .int su', .int gt', .int lf', .int rf', .int kn'])), (bo, .inl (cI, 6, .inl h)), (po, .inl (cI, 2, .inl j)), (q, .inr (3, [.long (hn_isFullPlain r1 g n0), sv]))]) (i0 := 5) (ci := 4) FX (k_X2_isFullPlain l D cI cB o bo po th h j ak' su' gt' lf' rf' kn' r1) mi_X2_isFullPlain rfl ml_RL_242 (RMok.mk) hl.1 rfl (Nat.le_of_ble_eq_true rfl) dL_law_1957 ⟨by omega, by omega⟩ hK hP hD hS hA [5, 6, 7] rfl [0, 1, 2, 3, 4, 8] rfl rfl (by decide) [0, 1, 2, 3, 4, 6, 7, 8, 5] rfl rfl rfl rfl rfl (fun H locs hP hD hS => ?_)
  refine lv_istore (lv' := [(6, .int (v_X2_isFullPlain r1 j)), (5, .int (hk_isFullPlain r1)), (4, .int (nI i)), (3, .ref q), (2, .ref o), (1, .ref x), (0, .ref b)]) FX.1 FX.2.1 dL_law_1960 hl (by decide) rfl (fun ls hl => ?_)
  refine lv_aload_n FX.1 FX.2.1 dL_law_1962 rfl (lv_at hl 4 rfl) ?_
  refine c_RDV (i0 := 5) (ci := 4) FX (r_X2_thrown l D cI cB o bo po (wth_X2_isFullPlain r1) h j ak' su' gt' lf' rf' kn') mi_X2_thrown rfl ml_RL_162 (RMok.mk) hl.1 rfl (Nat.le_of_ble_eq_true rfl) dL_law_1963 ⟨by omega, by omega⟩ hK hP [5, 6, 7] rfl rfl rfl rfl ?_
  refine lv_iload FX.1 FX.2.1 dL_law_1966 (lv_at hl 1 rfl) ?_
  refine lv_icmp_eq (tgt := 1973) FX.1 FX.2.1 dL_law_1968 (by decide) (fun c_1 => ?_) (fun c_1 => ?_)
  · refine lv_iload FX.1 FX.2.1 dL_law_1973 (lv_at hl 1 rfl) ?_
    refine lv_if_ne (tgt := 1998) FX.1 FX.2.1 dL_law_1975 (by decide) (fun c_2 => ?_) (fun c_2 => ?_)
    · refine lv_goto (tgt := 2982) FX.1 FX.2.1 dL_law_1998 (by decide) ?_
      refine W.widen (k := cc + 33) (n := ss + 321) (by omega) (by omega) ?_
      exact kk H locs f g ak su gt lf rf kn ml cn bs (wth_X2_isFullPlain r1) h j ak' su' gt' lf' rf' kn' (hn_isFullPlain r1 g n0) sv ls hI2 hb hc hP hD hS (lv_sub hl [2, 3, 4, 5, 6] rfl)
    · refine lv_aload_n FX.1 FX.2.1 dL_law_1978 rfl (lv_at hl 3 rfl) ?_
      refine p_getN (ci := 3) (v := .long (hn_isFullPlain r1 g n0)) FX inX1 hK hP 8 rfl rfl 0 (by decide) hz.1.2.1 rfl dL_law_1979 ?_
      refine lv_iload FX.1 FX.2.1 dL_law_1982 (lv_at hl 0 rfl) ?_
      refine lv_if_eq (tgt := 1991) FX.1 FX.2.1 dL_law_1984 (by decide) (fun c_3 => ?_) (fun c_3 => ?_)
      · refine lv_lconst (v := 0) FX.1 FX.2.1 dL_law_1991 (by decide) ?_
        refine W.eq (g2 := F0 m 1992 ls [.long 0, .long 0]) (by rw [eA c_2, if_pos c_3]) ?_
        refine W.lcmp FX.1 FX.2.1 dL_law_1992 ?_
        refine W.eq (g2 := F0 m 1993 ls [.int 0]) (by rw [lg_self]) ?_
        refine lv_if_eq (tgt := 1998) FX.1 FX.2.1 dL_law_1993 (by decide) (fun c_4 => ?_) (fun c_4 => ?_)
        · refine lv_goto (tgt := 2982) FX.1 FX.2.1 dL_law_1998 (by decide) ?_
          refine W.widen (k := cc + 33) (n := ss + 321) (by omega) (by omega) ?_
          exact kk H locs f g ak su gt lf rf kn ml cn bs (wth_X2_isFullPlain r1) h j ak' su' gt' lf' rf' kn' (hn_isFullPlain r1 g n0) sv ls hI2 hb hc hP hD hS (lv_sub hl [2, 3, 4, 5, 6] rfl)
        · exact absurd c_4 (by decide)
      · refine lv_lconst (v := 1) FX.1 FX.2.1 dL_law_1987 (by decide) ?_
        refine lv_goto (tgt := 1992) FX.1 FX.2.1 dL_law_1988 (by decide) ?_
        refine W.eq (g2 := F0 m 1992 ls [.long 1, .long 1]) (by rw [eA c_2, if_neg c_3]) ?_
        refine W.lcmp FX.1 FX.2.1 dL_law_1992 ?_
        refine W.eq (g2 := F0 m 1993 ls [.int 0]) (by rw [lg_self]) ?_
        refine lv_if_eq (tgt := 1998) FX.1 FX.2.1 dL_law_1993 (by decide) (fun c_5 => ?_) (fun c_5 => ?_)
        · refine lv_goto (tgt := 2982) FX.1 FX.2.1 dL_law_1998 (by decide) ?_
          refine W.widen (k := cc + 33) (n := ss + 321) (by omega) (by omega) ?_
          exact kk H locs f g ak su gt lf rf kn ml cn bs (wth_X2_isFullPlain r1) h j ak' su' gt' lf' rf' kn' (hn_isFullPlain r1 g n0) sv ls hI2 hb hc hP hD hS (lv_sub hl [2, 3, 4, 5, 6] rfl)
        · exact absurd c_5 (by decide)
  · exact absurd eT c_1
set_option maxRecDepth 100000 in
set_option maxHeartbeats 4000000 in
theorem case_25 {p : Program} {l : Launch} {e : Env} {s : State} {m : MethodId} {below : List Frame} {meth : Method} {c : Code} (hl0 : l.stackTraces = false) (D : va_G) (cI cB : ClassId) (b L : Nat) (xs : Nat → Int32) (x bx px t bt o bo po q : Nat) (to tt : Nat) (go gu : Nat → Int32) (na nv : Nat) (nf : Nat → Int32) (nb nw : Nat) (nh : Nat → Int32) (ea ew : Nat) (ef : Nat → Int32) (i cc ss : Nat) (hi : i + 6 ≤ L) (hcc : cc + 33 ≤ room_1.cells) (hss : ss + 321 ≤ room_1.slots) (hL : L ≤ 6) (FX : CallFix p m c cL_law 7 s #[.ref b] bigW RL) (hK : va_K D KL (TY cI cB) s) (hX : va_X b L xs s s.heap) (hbl : b < s.heap.size) (hz : zLaw to tt go gu na nv nf nb nw nh ea ew ef (fun q => s.heap.size ≤ q) s s.heap) (hfn : sb_Fit nf) (hfe : sb_Fit ef) (hnn : TL 4 nf nh) (kk : LGo p l e s m below meth c D cI cB b x bx px t bt o bo po q i 2982 (cc + 33) (ss + 321)) : LGo p l e s m below meth c D cI cB b x bx px t bt o bo po q i 2001 cc ss := by
  intro H locs f g ak su gt lf rf kn ml cn bs th h j ak' su' gt' lf' rf' kn' n0 sv ls hI hb hc hP hD hS hl
  have hA : ∀ q : Nat, s.heap.size ≤ q → s.heap.size ≤ q := fun _ h => h
  have hbA : ¬ (fun q : Nat => s.heap.size ≤ q) b := Nat.not_le.mpr hbl
  obtain ⟨r1, ey1⟩ : ∃ y, xs (i + 1) = y := ⟨_, rfl⟩
  have hin1 : i + 1 < L ∧ L < 2 ^ 31 := ⟨by omega, by omega⟩
  have hl : lv_has ls 7 [(4, .int (nI i)), (3, .ref q), (2, .ref o), (1, .ref x), (0, .ref b)] := hl
  have hP : va_P D KL [(x, .inr (2, [.ref bx, .ref px, .ref t, .int ak, .int su, .int gt, .int lf, .int rf, .int kn])), (bx, .inl (cI, 6, .inl f)), (px, .inl (cI, 2, .inl g)), (t, .inr (1, [.ref bt, .int 0, .int ml, .int cn])), (bt, .inl (cB, 16, .inl bs)), (o, .inr (4, [.int th, .ref bo, .ref po, .int ak', .int su', .int gt', .int lf', .int rf', .int kn'])), (bo, .inl (cI, 6, .inl h)), (po, .inl (cI, 2, .inl j)), (q, .inr (3, [.long n0, sv]))] H := hP
  have hD : va_D (fun q => s.heap.size ≤ q) [(x, .inr (2, [.ref bx, .ref px, .ref t, .int ak, .int su, .int gt, .int lf, .int rf, .int kn])), (bx, .inl (cI, 6, .inl f)), (px, .inl (cI, 2, .inl g)), (t, .inr (1, [.ref bt, .int 0, .int ml, .int cn])), (bt, .inl (cB, 16, .inl bs)), (o, .inr (4, [.int th, .ref bo, .ref po, .int ak', .int su', .int gt', .int lf', .int rf', .int kn'])), (bo, .inl (cI, 6, .inl h)), (po, .inl (cI, 2, .inl j)), (q, .inr (3, [.long n0, sv]))] := hD
  refine lv_aload_n FX.1 FX.2.1 dL_law_2001 rfl (lv_at hl 3 rfl) ?_
  refine p_rd (k := 1) (v := r1) FX hX hbl hbA hS (lv_at hl 4 rfl) (lv_at hl 0 rfl) dL_law_2002 dL_law_2003 dL_law_2005 dL_law_2006 dL_law_2007 rfl hin1 ey1 ?_
  refine lv_aload_n FX.1 FX.2.1 dL_law_2008 rfl (lv_at hl 1 rfl) ?_
  refine c_J (W0 := [(x, .inr (2, [.ref bx, .ref px, .ref t, .int ak, .int su, .int gt, .int lf, .int rf, .int kn])), (bx, .inl (cI, 6, .inl f)), (px, .inl (cI, 2, .inl g)), (q, .inr (3, [.long n0, sv]))]) (wr := [(t, .inr (1, [.ref bt, .int 0, .int ml, .int cn])), (bt, .inl (cB, 16, .inl bs)), (o, .inr (4, [.int th, .ref bo, .ref po, .int ak', .int su', .int gt', .int lf', .int rf', .int kn'])), (bo, .inl (cI, 6, .inl h)), (po, .inl (cI, 2, .inl j))]) (wsN := fun _ => [(x, .inr (2, [.ref bx, .ref px, .ref t, .int (hak_takePlain r1 g ak), .int (hsu_takePlain r1 g su), .int (hgt_takePlain r1 g gt), .int lf, .int rf, .int kn])), (bx, .inl (cI, 6, .inl f)), (px, .inl (cI, 2, .inl g)), (t, .inr (1, [.ref bt, .int 0, .int ml, .int cn])), (bt, .inl (cB, 16, .inl bs)), (o, .inr (4, [.int th, .ref bo, .ref po, .int ak', .int su', .int gt', .int lf', .int rf', .int kn'])), (bo, .inl (cI, 6, .inl h)), (po, .inl (cI, 2, .inl j)), (q, .inr (3, [.long (hn_takePlain r1 g su n0), sv]))]) (vx_runSW FX ((j_L_takePlain l hl0 D cI cB x bx px t f g ak su gt lf rf kn q n0 sv r1) H.size) (my_cwSW FX.2.2.2.2 mh_L_takePlain ml_RL_243 (RMok.mk)) ⟨PJ.blind (zAnd_ok (zAnd_ok zz_ok zN_ok) zF_ok), fun U hU hW => ⟨rfl, my_preJ (zAnd_ok (zAnd_ok zz_ok zN_ok) zF_ok) ⟨hz.1.1, hz.1.2.1⟩ hS hA hK hP hD [0, 1, 2, 8] rfl rfl U hU hW⟩⟩ rfl rfl hl.1 rfl (lv_room (Nat.le_of_ble_eq_true rfl)) dL_law_2009 ⟨by omega, by omega⟩) hP hD hS hA [0, 1, 2, 8] rfl [3, 4, 5, 6, 7] rfl (by decide) [5, 6, 7, 0, 1, 2, 3, 4, 8] (fun _ => rfl) rfl (fun u1 H locs hp_1 hP hD hS => ?_)
  have hP : va_P D KL [(x, .inr (2, [.ref bx, .ref px, .ref t, .int (hak_takePlain r1 g ak), .int (hsu_takePlain r1 g su), .int (hgt_takePlain r1 g gt), .int lf, .int rf, .int kn])), (bx, .inl (cI, 6, .inl f)), (px, .inl (cI, 2, .inl g)), (t, .inr (1, [.ref bt, .int 0, .int ml, .int cn])), (bt, .inl (cB, 16, .inl bs)), (o, .inr (4, [.int th, .ref bo, .ref po, .int ak', .int su', .int gt', .int lf', .int rf', .int kn'])), (bo, .inl (cI, 6, .inl h)), (po, .inl (cI, 2, .inl j)), (q, .inr (3, [.long (hn_takePlain r1 g su n0), sv]))] H := hP
  have hD : va_D (fun q => s.heap.size ≤ q) [(x, .inr (2, [.ref bx, .ref px, .ref t, .int (hak_takePlain r1 g ak), .int (hsu_takePlain r1 g su), .int (hgt_takePlain r1 g gt), .int lf, .int rf, .int kn])), (bx, .inl (cI, 6, .inl f)), (px, .inl (cI, 2, .inl g)), (t, .inr (1, [.ref bt, .int 0, .int ml, .int cn])), (bt, .inl (cB, 16, .inl bs)), (o, .inr (4, [.int th, .ref bo, .ref po, .int ak', .int su', .int gt', .int lf', .int rf', .int kn'])), (bo, .inl (cI, 6, .inl h)), (po, .inl (cI, 2, .inl j)), (q, .inr (3, [.long (hn_takePlain r1 g su n0), sv]))] := hD
  refine W.eq (g2 := F0 m 2012 ls [.int (hk_takePlain r1)]) rfl ?_
  refine lv_istore (lv' := [(5, .int (hk_takePlain r1)), (4, .int (nI i)), (3, .ref q), (2, .ref o), (1, .ref x), (0, .ref b)]) FX.1 FX.2.1 dL_law_2012 hl (by decide) rfl (fun ls hl => ?_)
  refine lv_aload_n FX.1 FX.2.1 dL_law_2014 rfl (lv_at hl 3 rfl) ?_
  refine p_rd (k := 1) (v := r1) FX hX hbl hbA hS (lv_at hl 5 rfl) (lv_at hl 1 rfl) dL_law_2015 dL_law_2016 dL_law_2018 dL_law_2019 dL_law_2020 rfl hin1 ey1 ?_
  obtain ⟨eT, eA, hI2⟩ := st_takePlain r1 n0 hI
  refine c_WRV (wr := [(x, .inr (2, [.ref bx, .ref px, .ref t, .int (hak_takePlain r1 g ak), .int (hsu_takePlain r1 g su), .int (hgt_takePlain r1 g gt), .int lf, .int rf, .int kn])), (bx, .inl (cI, 6, .inl f)), (px, .inl (cI, 2, .inl g)), (t, .inr (1, [.ref bt, .int 0, .int ml, .int cn])), (bt, .inl (cB, 16, .inl bs)), (q, .inr (3, [.long (hn_takePlain r1 g su n0), sv]))]) (wsN := [(x, .inr (2, [.ref bx, .ref px, .ref t, .int (hak_takePlain r1 g ak), .int (hsu_takePlain r1 g su), .int (hgt_takePlain r1 g gt), .int lf, .int rf, .int kn])), (bx, .inl (cI, 6, .inl f)), (px, .inl (cI, 2, .inl g)), (t, .inr (1, [.ref bt, .int 0, .int ml, .int cn])), (bt, .inl (cB, 16, .inl bs)), (o, .inr (4, [.int (wth_X2_takePlain r1), .ref bo, .ref po, .int (wak_X2_takePlain r1 j ak'), .int (wsu_X2_takePlain r1 j su'), .int (wgt_X2_takePlain r1 j gt'), .int lf', .int rf', .int kn'])), (bo, .inl (cI, 6, .inl h)), (po, .inl (cI, 2, .inl j)), (q, .inr (3, [.long (hn_takePlain r1 g su n0), sv]))]) (i0 := 5) (ci := 4) FX (k_X2_takePlain l D cI cB o bo po th h j ak' su' gt' lf' rf' kn' r1) mi_X2_takePlain rfl ml_RL_245 (RMok.mk) hl.1 rfl (Nat.le_of_ble_eq_true rfl) dL_law_2021 ⟨by omega, by omega⟩ hK hP hD hS hA [5, 6, 7] rfl [0, 1, 2, 3, 4, 8] rfl rfl (by decide) [0, 1, 2, 3, 4, 6, 7, 8, 5] rfl rfl rfl rfl rfl (fun H locs hP hD hS => ?_)
  refine lv_istore (lv' := [(6, .int (v_X2_takePlain r1 j su')), (5, .int (hk_takePlain r1)), (4, .int (nI i)), (3, .ref q), (2, .ref o), (1, .ref x), (0, .ref b)]) FX.1 FX.2.1 dL_law_2024 hl (by decide) rfl (fun ls hl => ?_)
  refine lv_aload_n FX.1 FX.2.1 dL_law_2026 rfl (lv_at hl 4 rfl) ?_
  refine c_RDV (i0 := 5) (ci := 4) FX (r_X2_thrown l D cI cB o bo po (wth_X2_takePlain r1) h j (wak_X2_takePlain r1 j ak') (wsu_X2_takePlain r1 j su') (wgt_X2_takePlain r1 j gt') lf' rf' kn') mi_X2_thrown rfl ml_RL_162 (RMok.mk) hl.1 rfl (Nat.le_of_ble_eq_true rfl) dL_law_2027 ⟨by omega, by omega⟩ hK hP [5, 6, 7] rfl rfl rfl rfl ?_
  refine lv_iload FX.1 FX.2.1 dL_law_2030 (lv_at hl 1 rfl) ?_
  refine lv_icmp_eq (tgt := 2037) FX.1 FX.2.1 dL_law_2032 (by decide) (fun c_1 => ?_) (fun c_1 => ?_)
  · refine lv_iload FX.1 FX.2.1 dL_law_2037 (lv_at hl 1 rfl) ?_
    refine lv_if_ne (tgt := 2055) FX.1 FX.2.1 dL_law_2039 (by decide) (fun c_2 => ?_) (fun c_2 => ?_)
    · refine lv_goto (tgt := 2982) FX.1 FX.2.1 dL_law_2055 (by decide) ?_
      refine W.widen (k := cc + 33) (n := ss + 321) (by omega) (by omega) ?_
      exact kk H locs f g (hak_takePlain r1 g ak) (hsu_takePlain r1 g su) (hgt_takePlain r1 g gt) lf rf kn ml cn bs (wth_X2_takePlain r1) h j (wak_X2_takePlain r1 j ak') (wsu_X2_takePlain r1 j su') (wgt_X2_takePlain r1 j gt') lf' rf' kn' (hn_takePlain r1 g su n0) sv ls hI2 hb hc hP hD hS (lv_sub hl [2, 3, 4, 5, 6] rfl)
    · refine lv_aload_n FX.1 FX.2.1 dL_law_2042 rfl (lv_at hl 3 rfl) ?_
      refine p_getN (ci := 3) (v := .long (hn_takePlain r1 g su n0)) FX inX1 hK hP 8 rfl rfl 0 (by decide) hz.1.2.1 rfl dL_law_2043 ?_
      refine lv_iload FX.1 FX.2.1 dL_law_2046 (lv_at hl 0 rfl) ?_
      refine lv_i2l (v := (v_X2_takePlain r1 j su').toInt64) FX.1 FX.2.1 dL_law_2048 rfl ?_
      refine W.eq (g2 := F0 m 2049 ls [.long ((v_X2_takePlain r1 j su').toInt64), .long ((v_X2_takePlain r1 j su').toInt64)]) (by rw [eA c_2]) ?_
      refine W.lcmp FX.1 FX.2.1 dL_law_2049 ?_
      refine W.eq (g2 := F0 m 2050 ls [.int 0]) (by rw [lg_self]) ?_
      refine lv_if_eq (tgt := 2055) FX.1 FX.2.1 dL_law_2050 (by decide) (fun c_3 => ?_) (fun c_3 => ?_)
      · refine lv_goto (tgt := 2982) FX.1 FX.2.1 dL_law_2055 (by decide) ?_
        refine W.widen (k := cc + 33) (n := ss + 321) (by omega) (by omega) ?_
        exact kk H locs f g (hak_takePlain r1 g ak) (hsu_takePlain r1 g su) (hgt_takePlain r1 g gt) lf rf kn ml cn bs (wth_X2_takePlain r1) h j (wak_X2_takePlain r1 j ak') (wsu_X2_takePlain r1 j su') (wgt_X2_takePlain r1 j gt') lf' rf' kn' (hn_takePlain r1 g su n0) sv ls hI2 hb hc hP hD hS (lv_sub hl [2, 3, 4, 5, 6] rfl)
      · exact absurd c_3 (by decide)
  · exact absurd eT c_1
set_option maxRecDepth 100000 in
set_option maxHeartbeats 4000000 in
theorem case_26 {p : Program} {l : Launch} {e : Env} {s : State} {m : MethodId} {below : List Frame} {meth : Method} {c : Code} (hl0 : l.stackTraces = false) (D : va_G) (cI cB : ClassId) (b L : Nat) (xs : Nat → Int32) (x bx px t bt o bo po q : Nat) (to tt : Nat) (go gu : Nat → Int32) (na nv : Nat) (nf : Nat → Int32) (nb nw : Nat) (nh : Nat → Int32) (ea ew : Nat) (ef : Nat → Int32) (i cc ss : Nat) (hi : i + 6 ≤ L) (hcc : cc + 33 ≤ room_1.cells) (hss : ss + 321 ≤ room_1.slots) (hL : L ≤ 6) (FX : CallFix p m c cL_law 7 s #[.ref b] bigW RL) (hK : va_K D KL (TY cI cB) s) (hX : va_X b L xs s s.heap) (hbl : b < s.heap.size) (hz : zLaw to tt go gu na nv nf nb nw nh ea ew ef (fun q => s.heap.size ≤ q) s s.heap) (hfn : sb_Fit nf) (hfe : sb_Fit ef) (hnn : TL 4 nf nh) (kk : LGo p l e s m below meth c D cI cB b x bx px t bt o bo po q i 2982 (cc + 33) (ss + 321)) : LGo p l e s m below meth c D cI cB b x bx px t bt o bo po q i 2058 cc ss := by
  intro H locs f g ak su gt lf rf kn ml cn bs th h j ak' su' gt' lf' rf' kn' n0 sv ls hI hb hc hP hD hS hl
  have hA : ∀ q : Nat, s.heap.size ≤ q → s.heap.size ≤ q := fun _ h => h
  have hbA : ¬ (fun q : Nat => s.heap.size ≤ q) b := Nat.not_le.mpr hbl
  have hl : lv_has ls 7 [(4, .int (nI i)), (3, .ref q), (2, .ref o), (1, .ref x), (0, .ref b)] := hl
  have hP : va_P D KL [(x, .inr (2, [.ref bx, .ref px, .ref t, .int ak, .int su, .int gt, .int lf, .int rf, .int kn])), (bx, .inl (cI, 6, .inl f)), (px, .inl (cI, 2, .inl g)), (t, .inr (1, [.ref bt, .int 0, .int ml, .int cn])), (bt, .inl (cB, 16, .inl bs)), (o, .inr (4, [.int th, .ref bo, .ref po, .int ak', .int su', .int gt', .int lf', .int rf', .int kn'])), (bo, .inl (cI, 6, .inl h)), (po, .inl (cI, 2, .inl j)), (q, .inr (3, [.long n0, sv]))] H := hP
  have hD : va_D (fun q => s.heap.size ≤ q) [(x, .inr (2, [.ref bx, .ref px, .ref t, .int ak, .int su, .int gt, .int lf, .int rf, .int kn])), (bx, .inl (cI, 6, .inl f)), (px, .inl (cI, 2, .inl g)), (t, .inr (1, [.ref bt, .int 0, .int ml, .int cn])), (bt, .inl (cB, 16, .inl bs)), (o, .inr (4, [.int th, .ref bo, .ref po, .int ak', .int su', .int gt', .int lf', .int rf', .int kn'])), (bo, .inl (cI, 6, .inl h)), (po, .inl (cI, 2, .inl j)), (q, .inr (3, [.long n0, sv]))] := hD
  refine lv_aload_n FX.1 FX.2.1 dL_law_2058 rfl (lv_at hl 3 rfl) ?_
  refine c_RDV (i0 := 0) (ci := 2) FX (r_X0_arePlainLike l D cI cB x bx px t f g ak su gt lf rf kn) mi_X0_arePlainLike rfl ml_RL_246 (RMok.mk) hl.1 rfl (Nat.le_of_ble_eq_true rfl) dL_law_2059 ⟨by omega, by omega⟩ hK hP [0, 1, 2] rfl rfl rfl rfl ?_
  refine lv_aload_n FX.1 FX.2.1 dL_law_2062 rfl (lv_at hl 2 rfl) ?_
  refine c_WRV (wr := [(x, .inr (2, [.ref bx, .ref px, .ref t, .int ak, .int su, .int gt, .int lf, .int rf, .int kn])), (bx, .inl (cI, 6, .inl f)), (px, .inl (cI, 2, .inl g)), (t, .inr (1, [.ref bt, .int 0, .int ml, .int cn])), (bt, .inl (cB, 16, .inl bs)), (q, .inr (3, [.long n0, sv]))]) (wsN := [(x, .inr (2, [.ref bx, .ref px, .ref t, .int ak, .int su, .int gt, .int lf, .int rf, .int kn])), (bx, .inl (cI, 6, .inl f)), (px, .inl (cI, 2, .inl g)), (t, .inr (1, [.ref bt, .int 0, .int ml, .int cn])), (bt, .inl (cB, 16, .inl bs)), (o, .inr (4, [.int wth_X2_arePlainLike, .ref bo, .ref po, .int ak', .int su', .int gt', .int lf', .int rf', .int kn'])), (bo, .inl (cI, 6, .inl h)), (po, .inl (cI, 2, .inl j)), (q, .inr (3, [.long n0, sv]))]) (i0 := 5) (ci := 4) FX (k_X2_arePlainLike l D cI cB o bo po th h j ak' su' gt' lf' rf' kn') mi_X2_arePlainLike rfl ml_RL_250 (RMok.mk) hl.1 rfl (Nat.le_of_ble_eq_true rfl) dL_law_2063 ⟨by omega, by omega⟩ hK hP hD hS hA [5, 6, 7] rfl [0, 1, 2, 3, 4, 8] rfl rfl (by decide) [0, 1, 2, 3, 4, 6, 7, 8, 5] rfl rfl rfl rfl rfl (fun H locs hP hD hS => ?_)
  refine lv_icmp_eq (tgt := 2982) FX.1 FX.2.1 dL_law_2066 (by decide) (fun c_1 => ?_) (fun c_1 => ?_)
  · refine W.widen (k := cc + 33) (n := ss + 321) (by omega) (by omega) ?_
    exact kk H locs f g ak su gt lf rf kn ml cn bs wth_X2_arePlainLike h j ak' su' gt' lf' rf' kn' n0 sv ls hI hb hc hP hD hS (lv_sub hl [0, 1, 2, 3, 4] rfl)
  · exact absurd (st_arePlainLike hI) c_1
set_option maxRecDepth 100000 in
set_option maxHeartbeats 4000000 in
theorem case_27 {p : Program} {l : Launch} {e : Env} {s : State} {m : MethodId} {below : List Frame} {meth : Method} {c : Code} (hl0 : l.stackTraces = false) (D : va_G) (cI cB : ClassId) (b L : Nat) (xs : Nat → Int32) (x bx px t bt o bo po q : Nat) (to tt : Nat) (go gu : Nat → Int32) (na nv : Nat) (nf : Nat → Int32) (nb nw : Nat) (nh : Nat → Int32) (ea ew : Nat) (ef : Nat → Int32) (i cc ss : Nat) (hi : i + 6 ≤ L) (hcc : cc + 33 ≤ room_1.cells) (hss : ss + 321 ≤ room_1.slots) (hL : L ≤ 6) (FX : CallFix p m c cL_law 7 s #[.ref b] bigW RL) (hK : va_K D KL (TY cI cB) s) (hX : va_X b L xs s s.heap) (hbl : b < s.heap.size) (hz : zLaw to tt go gu na nv nf nb nw nh ea ew ef (fun q => s.heap.size ≤ q) s s.heap) (hfn : sb_Fit nf) (hfe : sb_Fit ef) (hnn : TL 4 nf nh) (kk : LGo p l e s m below meth c D cI cB b x bx px t bt o bo po q i 2982 (cc + 33) (ss + 321)) : LGo p l e s m below meth c D cI cB b x bx px t bt o bo po q i 2071 cc ss := by
  intro H locs f g ak su gt lf rf kn ml cn bs th h j ak' su' gt' lf' rf' kn' n0 sv ls hI hb hc hP hD hS hl
  have hA : ∀ q : Nat, s.heap.size ≤ q → s.heap.size ≤ q := fun _ h => h
  have hbA : ¬ (fun q : Nat => s.heap.size ≤ q) b := Nat.not_le.mpr hbl
  obtain ⟨r1, ey1⟩ : ∃ y, xs (i + 1) = y := ⟨_, rfl⟩
  have hin1 : i + 1 < L ∧ L < 2 ^ 31 := ⟨by omega, by omega⟩
  obtain ⟨r2, ey2⟩ : ∃ y, xs (i + 2) = y := ⟨_, rfl⟩
  have hin2 : i + 2 < L ∧ L < 2 ^ 31 := ⟨by omega, by omega⟩
  have hl : lv_has ls 7 [(4, .int (nI i)), (3, .ref q), (2, .ref o), (1, .ref x), (0, .ref b)] := hl
  have hP : va_P D KL [(x, .inr (2, [.ref bx, .ref px, .ref t, .int ak, .int su, .int gt, .int lf, .int rf, .int kn])), (bx, .inl (cI, 6, .inl f)), (px, .inl (cI, 2, .inl g)), (t, .inr (1, [.ref bt, .int 0, .int ml, .int cn])), (bt, .inl (cB, 16, .inl bs)), (o, .inr (4, [.int th, .ref bo, .ref po, .int ak', .int su', .int gt', .int lf', .int rf', .int kn'])), (bo, .inl (cI, 6, .inl h)), (po, .inl (cI, 2, .inl j)), (q, .inr (3, [.long n0, sv]))] H := hP
  have hD : va_D (fun q => s.heap.size ≤ q) [(x, .inr (2, [.ref bx, .ref px, .ref t, .int ak, .int su, .int gt, .int lf, .int rf, .int kn])), (bx, .inl (cI, 6, .inl f)), (px, .inl (cI, 2, .inl g)), (t, .inr (1, [.ref bt, .int 0, .int ml, .int cn])), (bt, .inl (cB, 16, .inl bs)), (o, .inr (4, [.int th, .ref bo, .ref po, .int ak', .int su', .int gt', .int lf', .int rf', .int kn'])), (bo, .inl (cI, 6, .inl h)), (po, .inl (cI, 2, .inl j)), (q, .inr (3, [.long n0, sv]))] := hD
  refine lv_aload_n FX.1 FX.2.1 dL_law_2071 rfl (lv_at hl 3 rfl) ?_
  refine p_rd (k := 1) (v := r1) FX hX hbl hbA hS (lv_at hl 4 rfl) (lv_at hl 0 rfl) dL_law_2072 dL_law_2073 dL_law_2075 dL_law_2076 dL_law_2077 rfl hin1 ey1 ?_
  refine p_rd (k := 2) (v := r2) FX hX hbl hbA hS (lv_at hl 4 rfl) (lv_at hl 0 rfl) dL_law_2078 dL_law_2079 dL_law_2081 dL_law_2082 dL_law_2083 rfl hin2 ey2 ?_
  refine lv_aload_n FX.1 FX.2.1 dL_law_2084 rfl (lv_at hl 1 rfl) ?_
  refine c_J (W0 := [(x, .inr (2, [.ref bx, .ref px, .ref t, .int ak, .int su, .int gt, .int lf, .int rf, .int kn])), (bx, .inl (cI, 6, .inl f)), (px, .inl (cI, 2, .inl g)), (q, .inr (3, [.long n0, sv]))]) (wr := [(t, .inr (1, [.ref bt, .int 0, .int ml, .int cn])), (bt, .inl (cB, 16, .inl bs)), (o, .inr (4, [.int th, .ref bo, .ref po, .int ak', .int su', .int gt', .int lf', .int rf', .int kn'])), (bo, .inl (cI, 6, .inl h)), (po, .inl (cI, 2, .inl j))]) (wsN := fun _ => [(x, .inr (2, [.ref bx, .ref px, .ref t, .int ak, .int su, .int gt, .int lf, .int rf, .int kn])), (bx, .inl (cI, 6, .inl f)), (px, .inl (cI, 2, .inl (hg_toPlain r1 r2 f g))), (t, .inr (1, [.ref bt, .int 0, .int ml, .int cn])), (bt, .inl (cB, 16, .inl bs)), (o, .inr (4, [.int th, .ref bo, .ref po, .int ak', .int su', .int gt', .int lf', .int rf', .int kn'])), (bo, .inl (cI, 6, .inl h)), (po, .inl (cI, 2, .inl j)), (q, .inr (3, [.long (hn_toPlain r1 r2 f g n0), sv]))]) (vx_runSW FX ((j_L_toPlain l hl0 D cI cB x bx px t f g ak su gt lf rf kn q n0 sv r1 r2) H.size) (my_cwSW FX.2.2.2.2 mh_L_toPlain ml_RL_251 (RMok.mk)) ⟨PJ.blind (zAnd_ok (zAnd_ok zz_ok zN_ok) zF_ok), fun U hU hW => ⟨rfl, my_preJ (zAnd_ok (zAnd_ok zz_ok zN_ok) zF_ok) ⟨hz.1.1, hz.1.2.1⟩ hS hA hK hP hD [0, 1, 2, 8] rfl rfl U hU hW⟩⟩ rfl rfl hl.1 rfl (lv_room (Nat.le_of_ble_eq_true rfl)) dL_law_2085 ⟨by omega, by omega⟩) hP hD hS hA [0, 1, 2, 8] rfl [3, 4, 5, 6, 7] rfl (by decide) [5, 6, 7, 0, 1, 2, 3, 4, 8] (fun _ => rfl) rfl (fun u1 H locs hp_1 hP hD hS => ?_)
  have hP : va_P D KL [(x, .inr (2, [.ref bx, .ref px, .ref t, .int ak, .int su, .int gt, .int lf, .int rf, .int kn])), (bx, .inl (cI, 6, .inl f)), (px, .inl (cI, 2, .inl (hg_toPlain r1 r2 f g))), (t, .inr (1, [.ref bt, .int 0, .int ml, .int cn])), (bt, .inl (cB, 16, .inl bs)), (o, .inr (4, [.int th, .ref bo, .ref po, .int ak', .int su', .int gt', .int lf', .int rf', .int kn'])), (bo, .inl (cI, 6, .inl h)), (po, .inl (cI, 2, .inl j)), (q, .inr (3, [.long (hn_toPlain r1 r2 f g n0), sv]))] H := hP
  have hD : va_D (fun q => s.heap.size ≤ q) [(x, .inr (2, [.ref bx, .ref px, .ref t, .int ak, .int su, .int gt, .int lf, .int rf, .int kn])), (bx, .inl (cI, 6, .inl f)), (px, .inl (cI, 2, .inl (hg_toPlain r1 r2 f g))), (t, .inr (1, [.ref bt, .int 0, .int ml, .int cn])), (bt, .inl (cB, 16, .inl bs)), (o, .inr (4, [.int th, .ref bo, .ref po, .int ak', .int su', .int gt', .int lf', .int rf', .int kn'])), (bo, .inl (cI, 6, .inl h)), (po, .inl (cI, 2, .inl j)), (q, .inr (3, [.long (hn_toPlain r1 r2 f g n0), sv]))] := hD
  refine W.eq (g2 := F0 m 2088 ls [.int (hk_toPlain r1 r2)]) rfl ?_
  refine lv_istore (lv' := [(5, .int (hk_toPlain r1 r2)), (4, .int (nI i)), (3, .ref q), (2, .ref o), (1, .ref x), (0, .ref b)]) FX.1 FX.2.1 dL_law_2088 hl (by decide) rfl (fun ls hl => ?_)
  refine lv_aload_n FX.1 FX.2.1 dL_law_2090 rfl (lv_at hl 3 rfl) ?_
  refine p_rd (k := 1) (v := r1) FX hX hbl hbA hS (lv_at hl 5 rfl) (lv_at hl 1 rfl) dL_law_2091 dL_law_2092 dL_law_2094 dL_law_2095 dL_law_2096 rfl hin1 ey1 ?_
  refine p_rd (k := 2) (v := r2) FX hX hbl hbA hS (lv_at hl 5 rfl) (lv_at hl 1 rfl) dL_law_2097 dL_law_2098 dL_law_2100 dL_law_2101 dL_law_2102 rfl hin2 ey2 ?_
  obtain ⟨eT, eA, hI2⟩ := st_toPlain r1 r2 n0 hI
  refine c_WRV (wr := [(x, .inr (2, [.ref bx, .ref px, .ref t, .int ak, .int su, .int gt, .int lf, .int rf, .int kn])), (bx, .inl (cI, 6, .inl f)), (px, .inl (cI, 2, .inl (hg_toPlain r1 r2 f g))), (t, .inr (1, [.ref bt, .int 0, .int ml, .int cn])), (bt, .inl (cB, 16, .inl bs)), (q, .inr (3, [.long (hn_toPlain r1 r2 f g n0), sv]))]) (wsN := [(x, .inr (2, [.ref bx, .ref px, .ref t, .int ak, .int su, .int gt, .int lf, .int rf, .int kn])), (bx, .inl (cI, 6, .inl f)), (px, .inl (cI, 2, .inl (hg_toPlain r1 r2 f g))), (t, .inr (1, [.ref bt, .int 0, .int ml, .int cn])), (bt, .inl (cB, 16, .inl bs)), (o, .inr (4, [.int (wth_X2_toPlain r1 r2), .ref bo, .ref po, .int ak', .int su', .int gt', .int lf', .int rf', .int kn'])), (bo, .inl (cI, 6, .inl h)), (po, .inl (cI, 2, .inl (wg_X2_toPlain r1 r2 h j))), (q, .inr (3, [.long (hn_toPlain r1 r2 f g n0), sv]))]) (i0 := 5) (ci := 4) FX (k_X2_toPlain l D cI cB o bo po th h j ak' su' gt' lf' rf' kn' r1 r2) mi_X2_toPlain rfl ml_RL_253 (RMok.mk) hl.1 rfl (Nat.le_of_ble_eq_true rfl) dL_law_2103 ⟨by omega, by omega⟩ hK hP hD hS hA [5, 6, 7] rfl [0, 1, 2, 3, 4, 8] rfl rfl (by decide) [0, 1, 2, 3, 4, 6, 7, 8, 5] rfl rfl rfl rfl rfl (fun H locs hP hD hS => ?_)
  refine lv_istore (lv' := [(6, .int (v_X2_toPlain r1 r2 h)), (5, .int (hk_toPlain r1 r2)), (4, .int (nI i)), (3, .ref q), (2, .ref o), (1, .ref x), (0, .ref b)]) FX.1 FX.2.1 dL_law_2106 hl (by decide) rfl (fun ls hl => ?_)
  refine lv_aload_n FX.1 FX.2.1 dL_law_2108 rfl (lv_at hl 4 rfl) ?_
  refine c_RDV (i0 := 5) (ci := 4) FX (r_X2_thrown l D cI cB o bo po (wth_X2_toPlain r1 r2) h (wg_X2_toPlain r1 r2 h j) ak' su' gt' lf' rf' kn') mi_X2_thrown rfl ml_RL_162 (RMok.mk) hl.1 rfl (Nat.le_of_ble_eq_true rfl) dL_law_2109 ⟨by omega, by omega⟩ hK hP [5, 6, 7] rfl rfl rfl rfl ?_
  refine lv_iload FX.1 FX.2.1 dL_law_2112 (lv_at hl 1 rfl) ?_
  refine lv_icmp_eq (tgt := 2119) FX.1 FX.2.1 dL_law_2114 (by decide) (fun c_1 => ?_) (fun c_1 => ?_)
  · refine lv_iload FX.1 FX.2.1 dL_law_2119 (lv_at hl 1 rfl) ?_
    refine lv_if_ne (tgt := 2137) FX.1 FX.2.1 dL_law_2121 (by decide) (fun c_2 => ?_) (fun c_2 => ?_)
    · refine lv_goto (tgt := 2982) FX.1 FX.2.1 dL_law_2137 (by decide) ?_
      refine W.widen (k := cc + 33) (n := ss + 321) (by omega) (by omega) ?_
      exact kk H locs f (hg_toPlain r1 r2 f g) ak su gt lf rf kn ml cn bs (wth_X2_toPlain r1 r2) h (wg_X2_toPlain r1 r2 h j) ak' su' gt' lf' rf' kn' (hn_toPlain r1 r2 f g n0) sv ls hI2 hb hc hP hD hS (lv_sub hl [2, 3, 4, 5, 6] rfl)
    · refine lv_aload_n FX.1 FX.2.1 dL_law_2124 rfl (lv_at hl 3 rfl) ?_
      refine p_getN (ci := 3) (v := .long (hn_toPlain r1 r2 f g n0)) FX inX1 hK hP 8 rfl rfl 0 (by decide) hz.1.2.1 rfl dL_law_2125 ?_
      refine lv_iload FX.1 FX.2.1 dL_law_2128 (lv_at hl 0 rfl) ?_
      refine lv_i2l (v := (v_X2_toPlain r1 r2 h).toInt64) FX.1 FX.2.1 dL_law_2130 rfl ?_
      refine W.eq (g2 := F0 m 2131 ls [.long ((v_X2_toPlain r1 r2 h).toInt64), .long ((v_X2_toPlain r1 r2 h).toInt64)]) (by rw [eA c_2]) ?_
      refine W.lcmp FX.1 FX.2.1 dL_law_2131 ?_
      refine W.eq (g2 := F0 m 2132 ls [.int 0]) (by rw [lg_self]) ?_
      refine lv_if_eq (tgt := 2137) FX.1 FX.2.1 dL_law_2132 (by decide) (fun c_3 => ?_) (fun c_3 => ?_)
      · refine lv_goto (tgt := 2982) FX.1 FX.2.1 dL_law_2137 (by decide) ?_
        refine W.widen (k := cc + 33) (n := ss + 321) (by omega) (by omega) ?_
        exact kk H locs f (hg_toPlain r1 r2 f g) ak su gt lf rf kn ml cn bs (wth_X2_toPlain r1 r2) h (wg_X2_toPlain r1 r2 h j) ak' su' gt' lf' rf' kn' (hn_toPlain r1 r2 f g n0) sv ls hI2 hb hc hP hD hS (lv_sub hl [2, 3, 4, 5, 6] rfl)
      · exact absurd c_3 (by decide)
  · exact absurd eT c_1
set_option maxRecDepth 100000 in
set_option maxHeartbeats 4000000 in
theorem case_28 {p : Program} {l : Launch} {e : Env} {s : State} {m : MethodId} {below : List Frame} {meth : Method} {c : Code} (hl0 : l.stackTraces = false) (D : va_G) (cI cB : ClassId) (b L : Nat) (xs : Nat → Int32) (x bx px t bt o bo po q : Nat) (to tt : Nat) (go gu : Nat → Int32) (na nv : Nat) (nf : Nat → Int32) (nb nw : Nat) (nh : Nat → Int32) (ea ew : Nat) (ef : Nat → Int32) (i cc ss : Nat) (hi : i + 6 ≤ L) (hcc : cc + 33 ≤ room_1.cells) (hss : ss + 321 ≤ room_1.slots) (hL : L ≤ 6) (FX : CallFix p m c cL_law 7 s #[.ref b] bigW RL) (hK : va_K D KL (TY cI cB) s) (hX : va_X b L xs s s.heap) (hbl : b < s.heap.size) (hz : zLaw to tt go gu na nv nf nb nw nh ea ew ef (fun q => s.heap.size ≤ q) s s.heap) (hfn : sb_Fit nf) (hfe : sb_Fit ef) (hnn : TL 4 nf nh) (kk : LGo p l e s m below meth c D cI cB b x bx px t bt o bo po q i 2982 (cc + 33) (ss + 321)) : LGo p l e s m below meth c D cI cB b x bx px t bt o bo po q i 2140 cc ss := by
  intro H locs f g ak su gt lf rf kn ml cn bs th h j ak' su' gt' lf' rf' kn' n0 sv ls hI hb hc hP hD hS hl
  have hA : ∀ q : Nat, s.heap.size ≤ q → s.heap.size ≤ q := fun _ h => h
  have hbA : ¬ (fun q : Nat => s.heap.size ≤ q) b := Nat.not_le.mpr hbl
  obtain ⟨r1, ey1⟩ : ∃ y, xs (i + 1) = y := ⟨_, rfl⟩
  have hin1 : i + 1 < L ∧ L < 2 ^ 31 := ⟨by omega, by omega⟩
  obtain ⟨r2, ey2⟩ : ∃ y, xs (i + 2) = y := ⟨_, rfl⟩
  have hin2 : i + 2 < L ∧ L < 2 ^ 31 := ⟨by omega, by omega⟩
  have hl : lv_has ls 7 [(4, .int (nI i)), (3, .ref q), (2, .ref o), (1, .ref x), (0, .ref b)] := hl
  have hP : va_P D KL [(x, .inr (2, [.ref bx, .ref px, .ref t, .int ak, .int su, .int gt, .int lf, .int rf, .int kn])), (bx, .inl (cI, 6, .inl f)), (px, .inl (cI, 2, .inl g)), (t, .inr (1, [.ref bt, .int 0, .int ml, .int cn])), (bt, .inl (cB, 16, .inl bs)), (o, .inr (4, [.int th, .ref bo, .ref po, .int ak', .int su', .int gt', .int lf', .int rf', .int kn'])), (bo, .inl (cI, 6, .inl h)), (po, .inl (cI, 2, .inl j)), (q, .inr (3, [.long n0, sv]))] H := hP
  have hD : va_D (fun q => s.heap.size ≤ q) [(x, .inr (2, [.ref bx, .ref px, .ref t, .int ak, .int su, .int gt, .int lf, .int rf, .int kn])), (bx, .inl (cI, 6, .inl f)), (px, .inl (cI, 2, .inl g)), (t, .inr (1, [.ref bt, .int 0, .int ml, .int cn])), (bt, .inl (cB, 16, .inl bs)), (o, .inr (4, [.int th, .ref bo, .ref po, .int ak', .int su', .int gt', .int lf', .int rf', .int kn'])), (bo, .inl (cI, 6, .inl h)), (po, .inl (cI, 2, .inl j)), (q, .inr (3, [.long n0, sv]))] := hD
  refine lv_aload_n FX.1 FX.2.1 dL_law_2140 rfl (lv_at hl 3 rfl) ?_
  refine p_rd (k := 1) (v := r1) FX hX hbl hbA hS (lv_at hl 4 rfl) (lv_at hl 0 rfl) dL_law_2141 dL_law_2142 dL_law_2144 dL_law_2145 dL_law_2146 rfl hin1 ey1 ?_
  refine p_rd (k := 2) (v := r2) FX hX hbl hbA hS (lv_at hl 4 rfl) (lv_at hl 0 rfl) dL_law_2147 dL_law_2148 dL_law_2150 dL_law_2151 dL_law_2152 rfl hin2 ey2 ?_
  refine lv_aload_n FX.1 FX.2.1 dL_law_2153 rfl (lv_at hl 1 rfl) ?_
  refine c_J (W0 := [(x, .inr (2, [.ref bx, .ref px, .ref t, .int ak, .int su, .int gt, .int lf, .int rf, .int kn])), (bx, .inl (cI, 6, .inl f)), (px, .inl (cI, 2, .inl g)), (q, .inr (3, [.long n0, sv]))]) (wr := [(t, .inr (1, [.ref bt, .int 0, .int ml, .int cn])), (bt, .inl (cB, 16, .inl bs)), (o, .inr (4, [.int th, .ref bo, .ref po, .int ak', .int su', .int gt', .int lf', .int rf', .int kn'])), (bo, .inl (cI, 6, .inl h)), (po, .inl (cI, 2, .inl j))]) (wsN := fun _ => [(x, .inr (2, [.ref bx, .ref px, .ref t, .int ak, .int su, .int gt, .int lf, .int rf, .int kn])), (bx, .inl (cI, 6, .inl (hf_fromPlain r1 r2 f g))), (px, .inl (cI, 2, .inl g)), (t, .inr (1, [.ref bt, .int 0, .int ml, .int cn])), (bt, .inl (cB, 16, .inl bs)), (o, .inr (4, [.int th, .ref bo, .ref po, .int ak', .int su', .int gt', .int lf', .int rf', .int kn'])), (bo, .inl (cI, 6, .inl h)), (po, .inl (cI, 2, .inl j)), (q, .inr (3, [.long (hn_fromPlain r1 r2 f g n0), sv]))]) (vx_runSW FX ((j_L_fromPlain l hl0 D cI cB x bx px t f g ak su gt lf rf kn q n0 sv r1 r2) H.size) (my_cwSW FX.2.2.2.2 mh_L_fromPlain ml_RL_254 (RMok.mk)) ⟨PJ.blind (zAnd_ok (zAnd_ok zz_ok zN_ok) zF_ok), fun U hU hW => ⟨rfl, my_preJ (zAnd_ok (zAnd_ok zz_ok zN_ok) zF_ok) ⟨hz.1.1, hz.1.2.1⟩ hS hA hK hP hD [0, 1, 2, 8] rfl rfl U hU hW⟩⟩ rfl rfl hl.1 rfl (lv_room (Nat.le_of_ble_eq_true rfl)) dL_law_2154 ⟨by omega, by omega⟩) hP hD hS hA [0, 1, 2, 8] rfl [3, 4, 5, 6, 7] rfl (by decide) [5, 6, 7, 0, 1, 2, 3, 4, 8] (fun _ => rfl) rfl (fun u1 H locs hp_1 hP hD hS => ?_)
  have hP : va_P D KL [(x, .inr (2, [.ref bx, .ref px, .ref t, .int ak, .int su, .int gt, .int lf, .int rf, .int kn])), (bx, .inl (cI, 6, .inl (hf_fromPlain r1 r2 f g))), (px, .inl (cI, 2, .inl g)), (t, .inr (1, [.ref bt, .int 0, .int ml, .int cn])), (bt, .inl (cB, 16, .inl bs)), (o, .inr (4, [.int th, .ref bo, .ref po, .int ak', .int su', .int gt', .int lf', .int rf', .int kn'])), (bo, .inl (cI, 6, .inl h)), (po, .inl (cI, 2, .inl j)), (q, .inr (3, [.long (hn_fromPlain r1 r2 f g n0), sv]))] H := hP
  have hD : va_D (fun q => s.heap.size ≤ q) [(x, .inr (2, [.ref bx, .ref px, .ref t, .int ak, .int su, .int gt, .int lf, .int rf, .int kn])), (bx, .inl (cI, 6, .inl (hf_fromPlain r1 r2 f g))), (px, .inl (cI, 2, .inl g)), (t, .inr (1, [.ref bt, .int 0, .int ml, .int cn])), (bt, .inl (cB, 16, .inl bs)), (o, .inr (4, [.int th, .ref bo, .ref po, .int ak', .int su', .int gt', .int lf', .int rf', .int kn'])), (bo, .inl (cI, 6, .inl h)), (po, .inl (cI, 2, .inl j)), (q, .inr (3, [.long (hn_fromPlain r1 r2 f g n0), sv]))] := hD
  refine W.eq (g2 := F0 m 2157 ls [.int (hk_fromPlain r1 r2)]) rfl ?_
  refine lv_istore (lv' := [(5, .int (hk_fromPlain r1 r2)), (4, .int (nI i)), (3, .ref q), (2, .ref o), (1, .ref x), (0, .ref b)]) FX.1 FX.2.1 dL_law_2157 hl (by decide) rfl (fun ls hl => ?_)
  refine lv_aload_n FX.1 FX.2.1 dL_law_2159 rfl (lv_at hl 3 rfl) ?_
  refine p_rd (k := 1) (v := r1) FX hX hbl hbA hS (lv_at hl 5 rfl) (lv_at hl 1 rfl) dL_law_2160 dL_law_2161 dL_law_2163 dL_law_2164 dL_law_2165 rfl hin1 ey1 ?_
  refine p_rd (k := 2) (v := r2) FX hX hbl hbA hS (lv_at hl 5 rfl) (lv_at hl 1 rfl) dL_law_2166 dL_law_2167 dL_law_2169 dL_law_2170 dL_law_2171 rfl hin2 ey2 ?_
  obtain ⟨eT, eA, hI2⟩ := st_fromPlain r1 r2 n0 hI
  refine c_WRV (wr := [(x, .inr (2, [.ref bx, .ref px, .ref t, .int ak, .int su, .int gt, .int lf, .int rf, .int kn])), (bx, .inl (cI, 6, .inl (hf_fromPlain r1 r2 f g))), (px, .inl (cI, 2, .inl g)), (t, .inr (1, [.ref bt, .int 0, .int ml, .int cn])), (bt, .inl (cB, 16, .inl bs)), (q, .inr (3, [.long (hn_fromPlain r1 r2 f g n0), sv]))]) (wsN := [(x, .inr (2, [.ref bx, .ref px, .ref t, .int ak, .int su, .int gt, .int lf, .int rf, .int kn])), (bx, .inl (cI, 6, .inl (hf_fromPlain r1 r2 f g))), (px, .inl (cI, 2, .inl g)), (t, .inr (1, [.ref bt, .int 0, .int ml, .int cn])), (bt, .inl (cB, 16, .inl bs)), (o, .inr (4, [.int (wth_X2_fromPlain r1 r2), .ref bo, .ref po, .int ak', .int su', .int gt', .int lf', .int rf', .int kn'])), (bo, .inl (cI, 6, .inl (wf_X2_fromPlain r1 r2 h j))), (po, .inl (cI, 2, .inl j)), (q, .inr (3, [.long (hn_fromPlain r1 r2 f g n0), sv]))]) (i0 := 5) (ci := 4) FX (k_X2_fromPlain l D cI cB o bo po th h j ak' su' gt' lf' rf' kn' r1 r2) mi_X2_fromPlain rfl ml_RL_256 (RMok.mk) hl.1 rfl (Nat.le_of_ble_eq_true rfl) dL_law_2172 ⟨by omega, by omega⟩ hK hP hD hS hA [5, 6, 7] rfl [0, 1, 2, 3, 4, 8] rfl rfl (by decide) [0, 1, 2, 3, 4, 6, 7, 8, 5] rfl rfl rfl rfl rfl (fun H locs hP hD hS => ?_)
  refine lv_istore (lv' := [(6, .int (v_X2_fromPlain r1 r2 j)), (5, .int (hk_fromPlain r1 r2)), (4, .int (nI i)), (3, .ref q), (2, .ref o), (1, .ref x), (0, .ref b)]) FX.1 FX.2.1 dL_law_2175 hl (by decide) rfl (fun ls hl => ?_)
  refine lv_aload_n FX.1 FX.2.1 dL_law_2177 rfl (lv_at hl 4 rfl) ?_
  refine c_RDV (i0 := 5) (ci := 4) FX (r_X2_thrown l D cI cB o bo po (wth_X2_fromPlain r1 r2) (wf_X2_fromPlain r1 r2 h j) j ak' su' gt' lf' rf' kn') mi_X2_thrown rfl ml_RL_162 (RMok.mk) hl.1 rfl (Nat.le_of_ble_eq_true rfl) dL_law_2178 ⟨by omega, by omega⟩ hK hP [5, 6, 7] rfl rfl rfl rfl ?_
  refine lv_iload FX.1 FX.2.1 dL_law_2181 (lv_at hl 1 rfl) ?_
  refine lv_icmp_eq (tgt := 2188) FX.1 FX.2.1 dL_law_2183 (by decide) (fun c_1 => ?_) (fun c_1 => ?_)
  · refine lv_iload FX.1 FX.2.1 dL_law_2188 (lv_at hl 1 rfl) ?_
    refine lv_if_ne (tgt := 2206) FX.1 FX.2.1 dL_law_2190 (by decide) (fun c_2 => ?_) (fun c_2 => ?_)
    · refine lv_goto (tgt := 2982) FX.1 FX.2.1 dL_law_2206 (by decide) ?_
      refine W.widen (k := cc + 33) (n := ss + 321) (by omega) (by omega) ?_
      exact kk H locs (hf_fromPlain r1 r2 f g) g ak su gt lf rf kn ml cn bs (wth_X2_fromPlain r1 r2) (wf_X2_fromPlain r1 r2 h j) j ak' su' gt' lf' rf' kn' (hn_fromPlain r1 r2 f g n0) sv ls hI2 hb hc hP hD hS (lv_sub hl [2, 3, 4, 5, 6] rfl)
    · refine lv_aload_n FX.1 FX.2.1 dL_law_2193 rfl (lv_at hl 3 rfl) ?_
      refine p_getN (ci := 3) (v := .long (hn_fromPlain r1 r2 f g n0)) FX inX1 hK hP 8 rfl rfl 0 (by decide) hz.1.2.1 rfl dL_law_2194 ?_
      refine lv_iload FX.1 FX.2.1 dL_law_2197 (lv_at hl 0 rfl) ?_
      refine lv_i2l (v := (v_X2_fromPlain r1 r2 j).toInt64) FX.1 FX.2.1 dL_law_2199 rfl ?_
      refine W.eq (g2 := F0 m 2200 ls [.long ((v_X2_fromPlain r1 r2 j).toInt64), .long ((v_X2_fromPlain r1 r2 j).toInt64)]) (by rw [eA c_2]) ?_
      refine W.lcmp FX.1 FX.2.1 dL_law_2200 ?_
      refine W.eq (g2 := F0 m 2201 ls [.int 0]) (by rw [lg_self]) ?_
      refine lv_if_eq (tgt := 2206) FX.1 FX.2.1 dL_law_2201 (by decide) (fun c_3 => ?_) (fun c_3 => ?_)
      · refine lv_goto (tgt := 2982) FX.1 FX.2.1 dL_law_2206 (by decide) ?_
        refine W.widen (k := cc + 33) (n := ss + 321) (by omega) (by omega) ?_
        exact kk H locs (hf_fromPlain r1 r2 f g) g ak su gt lf rf kn ml cn bs (wth_X2_fromPlain r1 r2) (wf_X2_fromPlain r1 r2 h j) j ak' su' gt' lf' rf' kn' (hn_fromPlain r1 r2 f g n0) sv ls hI2 hb hc hP hD hS (lv_sub hl [2, 3, 4, 5, 6] rfl)
      · exact absurd c_3 (by decide)
  · exact absurd eT c_1
set_option maxRecDepth 100000 in
set_option maxHeartbeats 4000000 in
theorem case_29 {p : Program} {l : Launch} {e : Env} {s : State} {m : MethodId} {below : List Frame} {meth : Method} {c : Code} (hl0 : l.stackTraces = false) (D : va_G) (cI cB : ClassId) (b L : Nat) (xs : Nat → Int32) (x bx px t bt o bo po q : Nat) (to tt : Nat) (go gu : Nat → Int32) (na nv : Nat) (nf : Nat → Int32) (nb nw : Nat) (nh : Nat → Int32) (ea ew : Nat) (ef : Nat → Int32) (i cc ss : Nat) (hi : i + 6 ≤ L) (hcc : cc + 33 ≤ room_1.cells) (hss : ss + 321 ≤ room_1.slots) (hL : L ≤ 6) (FX : CallFix p m c cL_law 7 s #[.ref b] bigW RL) (hK : va_K D KL (TY cI cB) s) (hX : va_X b L xs s s.heap) (hbl : b < s.heap.size) (hz : zLaw to tt go gu na nv nf nb nw nh ea ew ef (fun q => s.heap.size ≤ q) s s.heap) (hfn : sb_Fit nf) (hfe : sb_Fit ef) (hnn : TL 4 nf nh) (kk : LGo p l e s m below meth c D cI cB b x bx px t bt o bo po q i 2982 (cc + 33) (ss + 321)) : LGo p l e s m below meth c D cI cB b x bx px t bt o bo po q i 2209 cc ss := by
  intro H locs f g ak su gt lf rf kn ml cn bs th h j ak' su' gt' lf' rf' kn' n0 sv ls hI hb hc hP hD hS hl
  have hA : ∀ q : Nat, s.heap.size ≤ q → s.heap.size ≤ q := fun _ h => h
  have hbA : ¬ (fun q : Nat => s.heap.size ≤ q) b := Nat.not_le.mpr hbl
  obtain ⟨r1, ey1⟩ : ∃ y, xs (i + 1) = y := ⟨_, rfl⟩
  have hin1 : i + 1 < L ∧ L < 2 ^ 31 := ⟨by omega, by omega⟩
  obtain ⟨r2, ey2⟩ : ∃ y, xs (i + 2) = y := ⟨_, rfl⟩
  have hin2 : i + 2 < L ∧ L < 2 ^ 31 := ⟨by omega, by omega⟩
  have hl : lv_has ls 7 [(4, .int (nI i)), (3, .ref q), (2, .ref o), (1, .ref x), (0, .ref b)] := hl
  have hP : va_P D KL [(x, .inr (2, [.ref bx, .ref px, .ref t, .int ak, .int su, .int gt, .int lf, .int rf, .int kn])), (bx, .inl (cI, 6, .inl f)), (px, .inl (cI, 2, .inl g)), (t, .inr (1, [.ref bt, .int 0, .int ml, .int cn])), (bt, .inl (cB, 16, .inl bs)), (o, .inr (4, [.int th, .ref bo, .ref po, .int ak', .int su', .int gt', .int lf', .int rf', .int kn'])), (bo, .inl (cI, 6, .inl h)), (po, .inl (cI, 2, .inl j)), (q, .inr (3, [.long n0, sv]))] H := hP
  have hD : va_D (fun q => s.heap.size ≤ q) [(x, .inr (2, [.ref bx, .ref px, .ref t, .int ak, .int su, .int gt, .int lf, .int rf, .int kn])), (bx, .inl (cI, 6, .inl f)), (px, .inl (cI, 2, .inl g)), (t, .inr (1, [.ref bt, .int 0, .int ml, .int cn])), (bt, .inl (cB, 16, .inl bs)), (o, .inr (4, [.int th, .ref bo, .ref po, .int ak', .int su', .int gt', .int lf', .int rf', .int kn'])), (bo, .inl (cI, 6, .inl h)), (po, .inl (cI, 2, .inl j)), (q, .inr (3, [.long n0, sv]))] := hD
  refine lv_aload_n FX.1 FX.2.1 dL_law_2209 rfl (lv_at hl 3 rfl) ?_
  refine p_rd (k := 1) (v := r1) FX hX hbl hbA hS (lv_at hl 4 rfl) (lv_at hl 0 rfl) dL_law_2210 dL_law_2211 dL_law_2213 dL_law_2214 dL_law_2215 rfl hin1 ey1 ?_
  refine p_rd (k := 2) (v := r2) FX hX hbl hbA hS (lv_at hl 4 rfl) (lv_at hl 0 rfl) dL_law_2216 dL_law_2217 dL_law_2219 dL_law_2220 dL_law_2221 rfl hin2 ey2 ?_
  refine lv_aload_n FX.1 FX.2.1 dL_law_2222 rfl (lv_at hl 1 rfl) ?_
  refine c_J (W0 := [(x, .inr (2, [.ref bx, .ref px, .ref t, .int ak, .int su, .int gt, .int lf, .int rf, .int kn])), (bx, .inl (cI, 6, .inl f)), (px, .inl (cI, 2, .inl g)), (q, .inr (3, [.long n0, sv]))]) (wr := [(t, .inr (1, [.ref bt, .int 0, .int ml, .int cn])), (bt, .inl (cB, 16, .inl bs)), (o, .inr (4, [.int th, .ref bo, .ref po, .int ak', .int su', .int gt', .int lf', .int rf', .int kn'])), (bo, .inl (cI, 6, .inl h)), (po, .inl (cI, 2, .inl j))]) (wsN := fun _ => [(x, .inr (2, [.ref bx, .ref px, .ref t, .int ak, .int su, .int gt, .int lf, .int rf, .int kn])), (bx, .inl (cI, 6, .inl f)), (px, .inl (cI, 2, .inl g)), (t, .inr (1, [.ref bt, .int 0, .int ml, .int cn])), (bt, .inl (cB, 16, .inl bs)), (o, .inr (4, [.int th, .ref bo, .ref po, .int ak', .int su', .int gt', .int lf', .int rf', .int kn'])), (bo, .inl (cI, 6, .inl h)), (po, .inl (cI, 2, .inl j)), (q, .inr (3, [.long (hn_areLike r1 r2 f n0), sv]))]) (vx_runSW FX ((j_L_areLike l hl0 D cI cB x bx px t f g ak su gt lf rf kn q n0 sv r1 r2) H.size) (my_cwSW FX.2.2.2.2 mh_L_areLike ml_RL_257 (RMok.mk)) ⟨PJ.blind (zAnd_ok (zAnd_ok zz_ok zN_ok) zF_ok), fun U hU hW => ⟨rfl, my_preJ (zAnd_ok (zAnd_ok zz_ok zN_ok) zF_ok) ⟨hz.1.1, hz.1.2.1⟩ hS hA hK hP hD [0, 1, 2, 8] rfl rfl U hU hW⟩⟩ rfl rfl hl.1 rfl (lv_room (Nat.le_of_ble_eq_true rfl)) dL_law_2223 ⟨by omega, by omega⟩) hP hD hS hA [0, 1, 2, 8] rfl [3, 4, 5, 6, 7] rfl (by decide) [5, 6, 7, 0, 1, 2, 3, 4, 8] (fun _ => rfl) rfl (fun u1 H locs hp_1 hP hD hS => ?_)
  have hP : va_P D KL [(x, .inr (2, [.ref bx, .ref px, .ref t, .int ak, .int su, .int gt, .int lf, .int rf, .int kn])), (bx, .inl (cI, 6, .inl f)), (px, .inl (cI, 2, .inl g)), (t, .inr (1, [.ref bt, .int 0, .int ml, .int cn])), (bt, .inl (cB, 16, .inl bs)), (o, .inr (4, [.int th, .ref bo, .ref po, .int ak', .int su', .int gt', .int lf', .int rf', .int kn'])), (bo, .inl (cI, 6, .inl h)), (po, .inl (cI, 2, .inl j)), (q, .inr (3, [.long (hn_areLike r1 r2 f n0), sv]))] H := hP
  have hD : va_D (fun q => s.heap.size ≤ q) [(x, .inr (2, [.ref bx, .ref px, .ref t, .int ak, .int su, .int gt, .int lf, .int rf, .int kn])), (bx, .inl (cI, 6, .inl f)), (px, .inl (cI, 2, .inl g)), (t, .inr (1, [.ref bt, .int 0, .int ml, .int cn])), (bt, .inl (cB, 16, .inl bs)), (o, .inr (4, [.int th, .ref bo, .ref po, .int ak', .int su', .int gt', .int lf', .int rf', .int kn'])), (bo, .inl (cI, 6, .inl h)), (po, .inl (cI, 2, .inl j)), (q, .inr (3, [.long (hn_areLike r1 r2 f n0), sv]))] := hD
  refine W.eq (g2 := F0 m 2226 ls [.int (hk_areLike r1 r2)]) rfl ?_
  refine lv_istore (lv' := [(5, .int (hk_areLike r1 r2)), (4, .int (nI i)), (3, .ref q), (2, .ref o), (1, .ref x), (0, .ref b)]) FX.1 FX.2.1 dL_law_2226 hl (by decide) rfl (fun ls hl => ?_)
  refine lv_aload_n FX.1 FX.2.1 dL_law_2228 rfl (lv_at hl 3 rfl) ?_
  refine p_rd (k := 1) (v := r1) FX hX hbl hbA hS (lv_at hl 5 rfl) (lv_at hl 1 rfl) dL_law_2229 dL_law_2230 dL_law_2232 dL_law_2233 dL_law_2234 rfl hin1 ey1 ?_
  refine p_rd (k := 2) (v := r2) FX hX hbl hbA hS (lv_at hl 5 rfl) (lv_at hl 1 rfl) dL_law_2235 dL_law_2236 dL_law_2238 dL_law_2239 dL_law_2240 rfl hin2 ey2 ?_
  obtain ⟨eT, eA, hI2⟩ := st_areLike r1 r2 n0 hI
  refine c_WRV (wr := [(x, .inr (2, [.ref bx, .ref px, .ref t, .int ak, .int su, .int gt, .int lf, .int rf, .int kn])), (bx, .inl (cI, 6, .inl f)), (px, .inl (cI, 2, .inl g)), (t, .inr (1, [.ref bt, .int 0, .int ml, .int cn])), (bt, .inl (cB, 16, .inl bs)), (q, .inr (3, [.long (hn_areLike r1 r2 f n0), sv]))]) (wsN := [(x, .inr (2, [.ref bx, .ref px, .ref t, .int ak, .int su, .int gt, .int lf, .int rf, .int kn])), (bx, .inl (cI, 6, .inl f)), (px, .inl (cI, 2, .inl g)), (t, .inr (1, [.ref bt, .int 0, .int ml, .int cn])), (bt, .inl (cB, 16, .inl bs)), (o, .inr (4, [.int (wth_X2_areLike r1 r2), .ref bo, .ref po, .int ak', .int su', .int gt', .int lf', .int rf', .int kn'])), (bo, .inl (cI, 6, .inl h)), (po, .inl (cI, 2, .inl j)), (q, .inr (3, [.long (hn_areLike r1 r2 f n0), sv]))]) (i0 := 5) (ci := 4) FX (k_X2_areLike l D cI cB o bo po th h j ak' su' gt' lf' rf' kn' r1 r2) mi_X2_areLike rfl ml_RL_259 (RMok.mk) hl.1 rfl (Nat.le_of_ble_eq_true rfl) dL_law_2241 ⟨by omega, by omega⟩ hK hP hD hS hA [5, 6, 7] rfl [0, 1, 2, 3, 4, 8] rfl rfl (by decide) [0, 1, 2, 3, 4, 6, 7, 8, 5] rfl rfl rfl rfl rfl (fun H locs hP hD hS => ?_)
  refine lv_istore (lv' := [(6, .int (v_X2_areLike r1 r2 h)), (5, .int (hk_areLike r1 r2)), (4, .int (nI i)), (3, .ref q), (2, .ref o), (1, .ref x), (0, .ref b)]) FX.1 FX.2.1 dL_law_2244 hl (by decide) rfl (fun ls hl => ?_)
  refine lv_aload_n FX.1 FX.2.1 dL_law_2246 rfl (lv_at hl 4 rfl) ?_
  refine c_RDV (i0 := 5) (ci := 4) FX (r_X2_thrown l D cI cB o bo po (wth_X2_areLike r1 r2) h j ak' su' gt' lf' rf' kn') mi_X2_thrown rfl ml_RL_162 (RMok.mk) hl.1 rfl (Nat.le_of_ble_eq_true rfl) dL_law_2247 ⟨by omega, by omega⟩ hK hP [5, 6, 7] rfl rfl rfl rfl ?_
  refine lv_iload FX.1 FX.2.1 dL_law_2250 (lv_at hl 1 rfl) ?_
  refine lv_icmp_eq (tgt := 2257) FX.1 FX.2.1 dL_law_2252 (by decide) (fun c_1 => ?_) (fun c_1 => ?_)
  · refine lv_iload FX.1 FX.2.1 dL_law_2257 (lv_at hl 1 rfl) ?_
    refine lv_if_ne (tgt := 2282) FX.1 FX.2.1 dL_law_2259 (by decide) (fun c_2 => ?_) (fun c_2 => ?_)
    · refine lv_goto (tgt := 2982) FX.1 FX.2.1 dL_law_2282 (by decide) ?_
      refine W.widen (k := cc + 33) (n := ss + 321) (by omega) (by omega) ?_
      exact kk H locs f g ak su gt lf rf kn ml cn bs (wth_X2_areLike r1 r2) h j ak' su' gt' lf' rf' kn' (hn_areLike r1 r2 f n0) sv ls hI2 hb hc hP hD hS (lv_sub hl [2, 3, 4, 5, 6] rfl)
    · refine lv_aload_n FX.1 FX.2.1 dL_law_2262 rfl (lv_at hl 3 rfl) ?_
      refine p_getN (ci := 3) (v := .long (hn_areLike r1 r2 f n0)) FX inX1 hK hP 8 rfl rfl 0 (by decide) hz.1.2.1 rfl dL_law_2263 ?_
      refine lv_iload FX.1 FX.2.1 dL_law_2266 (lv_at hl 0 rfl) ?_
      refine lv_if_eq (tgt := 2275) FX.1 FX.2.1 dL_law_2268 (by decide) (fun c_3 => ?_) (fun c_3 => ?_)
      · refine lv_lconst (v := 0) FX.1 FX.2.1 dL_law_2275 (by decide) ?_
        refine W.eq (g2 := F0 m 2276 ls [.long 0, .long 0]) (by rw [eA c_2, if_pos c_3]) ?_
        refine W.lcmp FX.1 FX.2.1 dL_law_2276 ?_
        refine W.eq (g2 := F0 m 2277 ls [.int 0]) (by rw [lg_self]) ?_
        refine lv_if_eq (tgt := 2282) FX.1 FX.2.1 dL_law_2277 (by decide) (fun c_4 => ?_) (fun c_4 => ?_)
        · refine lv_goto (tgt := 2982) FX.1 FX.2.1 dL_law_2282 (by decide) ?_
          refine W.widen (k := cc + 33) (n := ss + 321) (by omega) (by omega) ?_
          exact kk H locs f g ak su gt lf rf kn ml cn bs (wth_X2_areLike r1 r2) h j ak' su' gt' lf' rf' kn' (hn_areLike r1 r2 f n0) sv ls hI2 hb hc hP hD hS (lv_sub hl [2, 3, 4, 5, 6] rfl)
        · exact absurd c_4 (by decide)
      · refine lv_lconst (v := 1) FX.1 FX.2.1 dL_law_2271 (by decide) ?_
        refine lv_goto (tgt := 2276) FX.1 FX.2.1 dL_law_2272 (by decide) ?_
        refine W.eq (g2 := F0 m 2276 ls [.long 1, .long 1]) (by rw [eA c_2, if_neg c_3]) ?_
        refine W.lcmp FX.1 FX.2.1 dL_law_2276 ?_
        refine W.eq (g2 := F0 m 2277 ls [.int 0]) (by rw [lg_self]) ?_
        refine lv_if_eq (tgt := 2282) FX.1 FX.2.1 dL_law_2277 (by decide) (fun c_5 => ?_) (fun c_5 => ?_)
        · refine lv_goto (tgt := 2982) FX.1 FX.2.1 dL_law_2282 (by decide) ?_
          refine W.widen (k := cc + 33) (n := ss + 321) (by omega) (by omega) ?_
          exact kk H locs f g ak su gt lf rf kn ml cn bs (wth_X2_areLike r1 r2) h j ak' su' gt' lf' rf' kn' (hn_areLike r1 r2 f n0) sv ls hI2 hb hc hP hD hS (lv_sub hl [2, 3, 4, 5, 6] rfl)
        · exact absurd c_5 (by decide)
  · exact absurd eT c_1
set_option maxRecDepth 100000 in
set_option maxHeartbeats 4000000 in
theorem case_30 {p : Program} {l : Launch} {e : Env} {s : State} {m : MethodId} {below : List Frame} {meth : Method} {c : Code} (hl0 : l.stackTraces = false) (D : va_G) (cI cB : ClassId) (b L : Nat) (xs : Nat → Int32) (x bx px t bt o bo po q : Nat) (to tt : Nat) (go gu : Nat → Int32) (na nv : Nat) (nf : Nat → Int32) (nb nw : Nat) (nh : Nat → Int32) (ea ew : Nat) (ef : Nat → Int32) (i cc ss : Nat) (hi : i + 6 ≤ L) (hcc : cc + 33 ≤ room_1.cells) (hss : ss + 321 ≤ room_1.slots) (hL : L ≤ 6) (FX : CallFix p m c cL_law 7 s #[.ref b] bigW RL) (hK : va_K D KL (TY cI cB) s) (hX : va_X b L xs s s.heap) (hbl : b < s.heap.size) (hz : zLaw to tt go gu na nv nf nb nw nh ea ew ef (fun q => s.heap.size ≤ q) s s.heap) (hfn : sb_Fit nf) (hfe : sb_Fit ef) (hnn : TL 4 nf nh) (kk : LGo p l e s m below meth c D cI cB b x bx px t bt o bo po q i 2982 (cc + 33) (ss + 321)) : LGo p l e s m below meth c D cI cB b x bx px t bt o bo po q i 2285 cc ss := by
  intro H locs f g ak su gt lf rf kn ml cn bs th h j ak' su' gt' lf' rf' kn' n0 sv ls hI hb hc hP hD hS hl
  have hA : ∀ q : Nat, s.heap.size ≤ q → s.heap.size ≤ q := fun _ h => h
  have hbA : ¬ (fun q : Nat => s.heap.size ≤ q) b := Nat.not_le.mpr hbl
  obtain ⟨r1, ey1⟩ : ∃ y, xs (i + 1) = y := ⟨_, rfl⟩
  have hin1 : i + 1 < L ∧ L < 2 ^ 31 := ⟨by omega, by omega⟩
  obtain ⟨r2, ey2⟩ : ∃ y, xs (i + 2) = y := ⟨_, rfl⟩
  have hin2 : i + 2 < L ∧ L < 2 ^ 31 := ⟨by omega, by omega⟩
  obtain ⟨r3, ey3⟩ : ∃ y, xs (i + 3) = y := ⟨_, rfl⟩
  have hin3 : i + 3 < L ∧ L < 2 ^ 31 := ⟨by omega, by omega⟩
  have hl : lv_has ls 7 [(4, .int (nI i)), (3, .ref q), (2, .ref o), (1, .ref x), (0, .ref b)] := hl
  have hP : va_P D KL [(x, .inr (2, [.ref bx, .ref px, .ref t, .int ak, .int su, .int gt, .int lf, .int rf, .int kn])), (bx, .inl (cI, 6, .inl f)), (px, .inl (cI, 2, .inl g)), (t, .inr (1, [.ref bt, .int 0, .int ml, .int cn])), (bt, .inl (cB, 16, .inl bs)), (o, .inr (4, [.int th, .ref bo, .ref po, .int ak', .int su', .int gt', .int lf', .int rf', .int kn'])), (bo, .inl (cI, 6, .inl h)), (po, .inl (cI, 2, .inl j)), (q, .inr (3, [.long n0, sv]))] H := hP
  have hD : va_D (fun q => s.heap.size ≤ q) [(x, .inr (2, [.ref bx, .ref px, .ref t, .int ak, .int su, .int gt, .int lf, .int rf, .int kn])), (bx, .inl (cI, 6, .inl f)), (px, .inl (cI, 2, .inl g)), (t, .inr (1, [.ref bt, .int 0, .int ml, .int cn])), (bt, .inl (cB, 16, .inl bs)), (o, .inr (4, [.int th, .ref bo, .ref po, .int ak', .int su', .int gt', .int lf', .int rf', .int kn'])), (bo, .inl (cI, 6, .inl h)), (po, .inl (cI, 2, .inl j)), (q, .inr (3, [.long n0, sv]))] := hD
  refine lv_aload_n FX.1 FX.2.1 dL_law_2285 rfl (lv_at hl 3 rfl) ?_
  refine p_rd (k := 1) (v := r1) FX hX hbl hbA hS (lv_at hl 4 rfl) (lv_at hl 0 rfl) dL_law_2286 dL_law_2287 dL_law_2289 dL_law_2290 dL_law_2291 rfl hin1 ey1 ?_
  refine p_rd (k := 2) (v := r2) FX hX hbl hbA hS (lv_at hl 4 rfl) (lv_at hl 0 rfl) dL_law_2292 dL_law_2293 dL_law_2295 dL_law_2296 dL_law_2297 rfl hin2 ey2 ?_
  refine p_rd (k := 3) (v := r3) FX hX hbl hbA hS (lv_at hl 4 rfl) (lv_at hl 0 rfl) dL_law_2298 dL_law_2299 dL_law_2301 dL_law_2302 dL_law_2303 rfl hin3 ey3 ?_
  refine lv_aload_n FX.1 FX.2.1 dL_law_2304 rfl (lv_at hl 1 rfl) ?_
  refine c_J (W0 := [(x, .inr (2, [.ref bx, .ref px, .ref t, .int ak, .int su, .int gt, .int lf, .int rf, .int kn])), (bx, .inl (cI, 6, .inl f)), (px, .inl (cI, 2, .inl g)), (q, .inr (3, [.long n0, sv]))]) (wr := [(t, .inr (1, [.ref bt, .int 0, .int ml, .int cn])), (bt, .inl (cB, 16, .inl bs)), (o, .inr (4, [.int th, .ref bo, .ref po, .int ak', .int su', .int gt', .int lf', .int rf', .int kn'])), (bo, .inl (cI, 6, .inl h)), (po, .inl (cI, 2, .inl j))]) (wsN := fun _ => [(x, .inr (2, [.ref bx, .ref px, .ref t, .int ak, .int su, .int gt, .int lf, .int rf, .int kn])), (bx, .inl (cI, 6, .inl f)), (px, .inl (cI, 2, .inl g)), (t, .inr (1, [.ref bt, .int 0, .int ml, .int cn])), (bt, .inl (cB, 16, .inl bs)), (o, .inr (4, [.int th, .ref bo, .ref po, .int ak', .int su', .int gt', .int lf', .int rf', .int kn'])), (bo, .inl (cI, 6, .inl h)), (po, .inl (cI, 2, .inl j)), (q, .inr (3, [.long (hn_compare r1 r2 r3 f n0), sv]))]) (vx_runSW FX ((j_L_compare l hl0 D cI cB x bx px t f g ak su gt lf rf kn q n0 sv r1 r2 r3) H.size) (my_cwSW FX.2.2.2.2 mh_L_compare ml_RL_260 (RMok.mk)) ⟨PJ.blind (zAnd_ok (zAnd_ok zz_ok zN_ok) zF_ok), fun U hU hW => ⟨rfl, my_preJ (zAnd_ok (zAnd_ok zz_ok zN_ok) zF_ok) ⟨hz.1.1, hz.1.2.1⟩ hS hA hK hP hD [0, 1, 2, 8] rfl rfl U hU hW⟩⟩ rfl rfl hl.1 rfl (lv_room (Nat.le_of_ble_eq_true rfl)) dL_law_2305 ⟨by omega, by omega⟩) hP hD hS hA [0, 1, 2, 8] rfl [3, 4, 5, 6, 7] rfl (by decide) [5, 6, 7, 0, 1, 2, 3, 4, 8] (fun _ => rfl) rfl (fun u1 H locs hp_1 hP hD hS => ?_)
  have hP : va_P D KL [(x, .inr (2, [.ref bx, .ref px, .ref t, .int ak, .int su, .int gt, .int lf, .int rf, .int kn])), (bx, .inl (cI, 6, .inl f)), (px, .inl (cI, 2, .inl g)), (t, .inr (1, [.ref bt, .int 0, .int ml, .int cn])), (bt, .inl (cB, 16, .inl bs)), (o, .inr (4, [.int th, .ref bo, .ref po, .int ak', .int su', .int gt', .int lf', .int rf', .int kn'])), (bo, .inl (cI, 6, .inl h)), (po, .inl (cI, 2, .inl j)), (q, .inr (3, [.long (hn_compare r1 r2 r3 f n0), sv]))] H := hP
  have hD : va_D (fun q => s.heap.size ≤ q) [(x, .inr (2, [.ref bx, .ref px, .ref t, .int ak, .int su, .int gt, .int lf, .int rf, .int kn])), (bx, .inl (cI, 6, .inl f)), (px, .inl (cI, 2, .inl g)), (t, .inr (1, [.ref bt, .int 0, .int ml, .int cn])), (bt, .inl (cB, 16, .inl bs)), (o, .inr (4, [.int th, .ref bo, .ref po, .int ak', .int su', .int gt', .int lf', .int rf', .int kn'])), (bo, .inl (cI, 6, .inl h)), (po, .inl (cI, 2, .inl j)), (q, .inr (3, [.long (hn_compare r1 r2 r3 f n0), sv]))] := hD
  refine W.eq (g2 := F0 m 2308 ls [.int (hk_compare r1 r2 r3)]) rfl ?_
  refine lv_istore (lv' := [(5, .int (hk_compare r1 r2 r3)), (4, .int (nI i)), (3, .ref q), (2, .ref o), (1, .ref x), (0, .ref b)]) FX.1 FX.2.1 dL_law_2308 hl (by decide) rfl (fun ls hl => ?_)
  refine lv_aload_n FX.1 FX.2.1 dL_law_2310 rfl (lv_at hl 3 rfl) ?_
  refine p_rd (k := 1) (v := r1) FX hX hbl hbA hS (lv_at hl 5 rfl) (lv_at hl 1 rfl) dL_law_2311 dL_law_2312 dL_law_2314 dL_law_2315 dL_law_2316 rfl hin1 ey1 ?_
  refine p_rd (k := 2) (v := r2) FX hX hbl hbA hS (lv_at hl 5 rfl) (lv_at hl 1 rfl) dL_law_2317 dL_law_2318 dL_law_2320 dL_law_2321 dL_law_2322 rfl hin2 ey2 ?_
  refine p_rd (k := 3) (v := r3) FX hX hbl hbA hS (lv_at hl 5 rfl) (lv_at hl 1 rfl) dL_law_2323 dL_law_2324 dL_law_2326 dL_law_2327 dL_law_2328 rfl hin3 ey3 ?_
  obtain ⟨eT, eA, hI2⟩ := st_compare r1 r2 r3 n0 hI
  refine c_WRV (wr := [(x, .inr (2, [.ref bx, .ref px, .ref t, .int ak, .int su, .int gt, .int lf, .int rf, .int kn])), (bx, .inl (cI, 6, .inl f)), (px, .inl (cI, 2, .inl g)), (t, .inr (1, [.ref bt, .int 0, .int ml, .int cn])), (bt, .inl (cB, 16, .inl bs)), (q, .inr (3, [.long (hn_compare r1 r2 r3 f n0), sv]))]) (wsN := [(x, .inr (2, [.ref bx, .ref px, .ref t, .int ak, .int su, .int gt, .int lf, .int rf, .int kn])), (bx, .inl (cI, 6, .inl f)), (px, .inl (cI, 2, .inl g)), (t, .inr (1, [.ref bt, .int 0, .int ml, .int cn])), (bt, .inl (cB, 16, .inl bs)), (o, .inr (4, [.int (wth_X2_compare r1 r2 r3), .ref bo, .ref po, .int ak', .int su', .int gt', .int lf', .int rf', .int kn'])), (bo, .inl (cI, 6, .inl h)), (po, .inl (cI, 2, .inl j)), (q, .inr (3, [.long (hn_compare r1 r2 r3 f n0), sv]))]) (i0 := 5) (ci := 4) FX (k_X2_compare l D cI cB o bo po th h j ak' su' gt' lf' rf' kn' r1 r2 r3) mi_X2_compare rfl ml_RL_262 (RMok.mk) hl.1 rfl (Nat.le_of_ble_eq_true rfl) dL_law_2329 ⟨by omega, by omega⟩ hK hP hD hS hA [5, 6, 7] rfl [0, 1, 2, 3, 4, 8] rfl rfl (by decide) [0, 1, 2, 3, 4, 6, 7, 8, 5] rfl rfl rfl rfl rfl (fun H locs hP hD hS => ?_)
  refine lv_istore (lv' := [(6, .int (v_X2_compare r1 r2 r3 h)), (5, .int (hk_compare r1 r2 r3)), (4, .int (nI i)), (3, .ref q), (2, .ref o), (1, .ref x), (0, .ref b)]) FX.1 FX.2.1 dL_law_2332 hl (by decide) rfl (fun ls hl => ?_)
  refine lv_aload_n FX.1 FX.2.1 dL_law_2334 rfl (lv_at hl 4 rfl) ?_
  refine c_RDV (i0 := 5) (ci := 4) FX (r_X2_thrown l D cI cB o bo po (wth_X2_compare r1 r2 r3) h j ak' su' gt' lf' rf' kn') mi_X2_thrown rfl ml_RL_162 (RMok.mk) hl.1 rfl (Nat.le_of_ble_eq_true rfl) dL_law_2335 ⟨by omega, by omega⟩ hK hP [5, 6, 7] rfl rfl rfl rfl ?_
  refine lv_iload FX.1 FX.2.1 dL_law_2338 (lv_at hl 1 rfl) ?_
  refine lv_icmp_eq (tgt := 2345) FX.1 FX.2.1 dL_law_2340 (by decide) (fun c_1 => ?_) (fun c_1 => ?_)
  · refine lv_iload FX.1 FX.2.1 dL_law_2345 (lv_at hl 1 rfl) ?_
    refine lv_if_ne (tgt := 2363) FX.1 FX.2.1 dL_law_2347 (by decide) (fun c_2 => ?_) (fun c_2 => ?_)
    · refine lv_goto (tgt := 2982) FX.1 FX.2.1 dL_law_2363 (by decide) ?_
      refine W.widen (k := cc + 33) (n := ss + 321) (by omega) (by omega) ?_
      exact kk H locs f g ak su gt lf rf kn ml cn bs (wth_X2_compare r1 r2 r3) h j ak' su' gt' lf' rf' kn' (hn_compare r1 r2 r3 f n0) sv ls hI2 hb hc hP hD hS (lv_sub hl [2, 3, 4, 5, 6] rfl)
    · refine lv_aload_n FX.1 FX.2.1 dL_law_2350 rfl (lv_at hl 3 rfl) ?_
      refine p_getN (ci := 3) (v := .long (hn_compare r1 r2 r3 f n0)) FX inX1 hK hP 8 rfl rfl 0 (by decide) hz.1.2.1 rfl dL_law_2351 ?_
      refine lv_iload FX.1 FX.2.1 dL_law_2354 (lv_at hl 0 rfl) ?_
      refine lv_i2l (v := (v_X2_compare r1 r2 r3 h).toInt64) FX.1 FX.2.1 dL_law_2356 rfl ?_
      refine W.eq (g2 := F0 m 2357 ls [.long ((v_X2_compare r1 r2 r3 h).toInt64), .long ((v_X2_compare r1 r2 r3 h).toInt64)]) (by rw [eA c_2]) ?_
      refine W.lcmp FX.1 FX.2.1 dL_law_2357 ?_
      refine W.eq (g2 := F0 m 2358 ls [.int 0]) (by rw [lg_self]) ?_
      refine lv_if_eq (tgt := 2363) FX.1 FX.2.1 dL_law_2358 (by decide) (fun c_3 => ?_) (fun c_3 => ?_)
      · refine lv_goto (tgt := 2982) FX.1 FX.2.1 dL_law_2363 (by decide) ?_
        refine W.widen (k := cc + 33) (n := ss + 321) (by omega) (by omega) ?_
        exact kk H locs f g ak su gt lf rf kn ml cn bs (wth_X2_compare r1 r2 r3) h j ak' su' gt' lf' rf' kn' (hn_compare r1 r2 r3 f n0) sv ls hI2 hb hc hP hD hS (lv_sub hl [2, 3, 4, 5, 6] rfl)
      · exact absurd c_3 (by decide)
  · exact absurd eT c_1
set_option maxRecDepth 100000 in
set_option maxHeartbeats 4000000 in
theorem case_31 {p : Program} {l : Launch} {e : Env} {s : State} {m : MethodId} {below : List Frame} {meth : Method} {c : Code} (hl0 : l.stackTraces = false) (D : va_G) (cI cB : ClassId) (b L : Nat) (xs : Nat → Int32) (x bx px t bt o bo po q : Nat) (to tt : Nat) (go gu : Nat → Int32) (na nv : Nat) (nf : Nat → Int32) (nb nw : Nat) (nh : Nat → Int32) (ea ew : Nat) (ef : Nat → Int32) (i cc ss : Nat) (hi : i + 6 ≤ L) (hcc : cc + 33 ≤ room_1.cells) (hss : ss + 321 ≤ room_1.slots) (hL : L ≤ 6) (FX : CallFix p m c cL_law 7 s #[.ref b] bigW RL) (hK : va_K D KL (TY cI cB) s) (hX : va_X b L xs s s.heap) (hbl : b < s.heap.size) (hz : zLaw to tt go gu na nv nf nb nw nh ea ew ef (fun q => s.heap.size ≤ q) s s.heap) (hfn : sb_Fit nf) (hfe : sb_Fit ef) (hnn : TL 4 nf nh) (kk : LGo p l e s m below meth c D cI cB b x bx px t bt o bo po q i 2982 (cc + 33) (ss + 321)) : LGo p l e s m below meth c D cI cB b x bx px t bt o bo po q i 2366 cc ss := by
  intro H locs f g ak su gt lf rf kn ml cn bs th h j ak' su' gt' lf' rf' kn' n0 sv ls hI hb hc hP hD hS hl
  have hA : ∀ q : Nat, s.heap.size ≤ q → s.heap.size ≤ q := fun _ h => h
  have hbA : ¬ (fun q : Nat => s.heap.size ≤ q) b := Nat.not_le.mpr hbl
  obtain ⟨r1, ey1⟩ : ∃ y, xs (i + 1) = y := ⟨_, rfl⟩
  have hin1 : i + 1 < L ∧ L < 2 ^ 31 := ⟨by omega, by omega⟩
  obtain ⟨r2, ey2⟩ : ∃ y, xs (i + 2) = y := ⟨_, rfl⟩
  have hin2 : i + 2 < L ∧ L < 2 ^ 31 := ⟨by omega, by omega⟩
  obtain ⟨r3, ey3⟩ : ∃ y, xs (i + 3) = y := ⟨_, rfl⟩
  have hin3 : i + 3 < L ∧ L < 2 ^ 31 := ⟨by omega, by omega⟩
  have hl : lv_has ls 7 [(4, .int (nI i)), (3, .ref q), (2, .ref o), (1, .ref x), (0, .ref b)] := hl
  have hP : va_P D KL [(x, .inr (2, [.ref bx, .ref px, .ref t, .int ak, .int su, .int gt, .int lf, .int rf, .int kn])), (bx, .inl (cI, 6, .inl f)), (px, .inl (cI, 2, .inl g)), (t, .inr (1, [.ref bt, .int 0, .int ml, .int cn])), (bt, .inl (cB, 16, .inl bs)), (o, .inr (4, [.int th, .ref bo, .ref po, .int ak', .int su', .int gt', .int lf', .int rf', .int kn'])), (bo, .inl (cI, 6, .inl h)), (po, .inl (cI, 2, .inl j)), (q, .inr (3, [.long n0, sv]))] H := hP
  have hD : va_D (fun q => s.heap.size ≤ q) [(x, .inr (2, [.ref bx, .ref px, .ref t, .int ak, .int su, .int gt, .int lf, .int rf, .int kn])), (bx, .inl (cI, 6, .inl f)), (px, .inl (cI, 2, .inl g)), (t, .inr (1, [.ref bt, .int 0, .int ml, .int cn])), (bt, .inl (cB, 16, .inl bs)), (o, .inr (4, [.int th, .ref bo, .ref po, .int ak', .int su', .int gt', .int lf', .int rf', .int kn'])), (bo, .inl (cI, 6, .inl h)), (po, .inl (cI, 2, .inl j)), (q, .inr (3, [.long n0, sv]))] := hD
  refine lv_aload_n FX.1 FX.2.1 dL_law_2366 rfl (lv_at hl 3 rfl) ?_
  refine p_rd (k := 1) (v := r1) FX hX hbl hbA hS (lv_at hl 4 rfl) (lv_at hl 0 rfl) dL_law_2367 dL_law_2368 dL_law_2370 dL_law_2371 dL_law_2372 rfl hin1 ey1 ?_
  refine p_rd (k := 2) (v := r2) FX hX hbl hbA hS (lv_at hl 4 rfl) (lv_at hl 0 rfl) dL_law_2373 dL_law_2374 dL_law_2376 dL_law_2377 dL_law_2378 rfl hin2 ey2 ?_
  refine p_rd (k := 3) (v := r3) FX hX hbl hbA hS (lv_at hl 4 rfl) (lv_at hl 0 rfl) dL_law_2379 dL_law_2380 dL_law_2382 dL_law_2383 dL_law_2384 rfl hin3 ey3 ?_
  refine lv_aload_n FX.1 FX.2.1 dL_law_2385 rfl (lv_at hl 1 rfl) ?_
  refine c_J (W0 := [(x, .inr (2, [.ref bx, .ref px, .ref t, .int ak, .int su, .int gt, .int lf, .int rf, .int kn])), (bx, .inl (cI, 6, .inl f)), (px, .inl (cI, 2, .inl g)), (q, .inr (3, [.long n0, sv]))]) (wr := [(t, .inr (1, [.ref bt, .int 0, .int ml, .int cn])), (bt, .inl (cB, 16, .inl bs)), (o, .inr (4, [.int th, .ref bo, .ref po, .int ak', .int su', .int gt', .int lf', .int rf', .int kn'])), (bo, .inl (cI, 6, .inl h)), (po, .inl (cI, 2, .inl j))]) (wsN := fun _ => [(x, .inr (2, [.ref bx, .ref px, .ref t, .int ak, .int su, .int gt, .int lf, .int rf, .int kn])), (bx, .inl (cI, 6, .inl f)), (px, .inl (cI, 2, .inl g)), (t, .inr (1, [.ref bt, .int 0, .int ml, .int cn])), (bt, .inl (cB, 16, .inl bs)), (o, .inr (4, [.int th, .ref bo, .ref po, .int ak', .int su', .int gt', .int lf', .int rf', .int kn'])), (bo, .inl (cI, 6, .inl h)), (po, .inl (cI, 2, .inl j)), (q, .inr (3, [.long (hn_codes r1 r2 r3 f n0), sv]))]) (vx_runSW FX ((j_L_codes l hl0 D cI cB x bx px t f g ak su gt lf rf kn q n0 sv r1 r2 r3) H.size) (my_cwSW FX.2.2.2.2 mh_L_codes ml_RL_263 (RMok.mk)) ⟨PJ.blind (zAnd_ok (zAnd_ok zz_ok zN_ok) zF_ok), fun U hU hW => ⟨rfl, my_preJ (zAnd_ok (zAnd_ok zz_ok zN_ok) zF_ok) ⟨hz.1.1, hz.1.2.1⟩ hS hA hK hP hD [0, 1, 2, 8] rfl rfl U hU hW⟩⟩ rfl rfl hl.1 rfl (lv_room (Nat.le_of_ble_eq_true rfl)) dL_law_2386 ⟨by omega, by omega⟩) hP hD hS hA [0, 1, 2, 8] rfl [3, 4, 5, 6, 7] rfl (by decide) [5, 6, 7, 0, 1, 2, 3, 4, 8] (fun _ => rfl) rfl (fun u1 H locs hp_1 hP hD hS => ?_)
  have hP : va_P D KL [(x, .inr (2, [.ref bx, .ref px, .ref t, .int ak, .int su, .int gt, .int lf, .int rf, .int kn])), (bx, .inl (cI, 6, .inl f)), (px, .inl (cI, 2, .inl g)), (t, .inr (1, [.ref bt, .int 0, .int ml, .int cn])), (bt, .inl (cB, 16, .inl bs)), (o, .inr (4, [.int th, .ref bo, .ref po, .int ak', .int su', .int gt', .int lf', .int rf', .int kn'])), (bo, .inl (cI, 6, .inl h)), (po, .inl (cI, 2, .inl j)), (q, .inr (3, [.long (hn_codes r1 r2 r3 f n0), sv]))] H := hP
  have hD : va_D (fun q => s.heap.size ≤ q) [(x, .inr (2, [.ref bx, .ref px, .ref t, .int ak, .int su, .int gt, .int lf, .int rf, .int kn])), (bx, .inl (cI, 6, .inl f)), (px, .inl (cI, 2, .inl g)), (t, .inr (1, [.ref bt, .int 0, .int ml, .int cn])), (bt, .inl (cB, 16, .inl bs)), (o, .inr (4, [.int th, .ref bo, .ref po, .int ak', .int su', .int gt', .int lf', .int rf', .int kn'])), (bo, .inl (cI, 6, .inl h)), (po, .inl (cI, 2, .inl j)), (q, .inr (3, [.long (hn_codes r1 r2 r3 f n0), sv]))] := hD
  refine W.eq (g2 := F0 m 2389 ls [.int (hk_codes r1 r2 r3)]) rfl ?_
  refine lv_istore (lv' := [(5, .int (hk_codes r1 r2 r3)), (4, .int (nI i)), (3, .ref q), (2, .ref o), (1, .ref x), (0, .ref b)]) FX.1 FX.2.1 dL_law_2389 hl (by decide) rfl (fun ls hl => ?_)
  refine lv_aload_n FX.1 FX.2.1 dL_law_2391 rfl (lv_at hl 3 rfl) ?_
  refine p_rd (k := 1) (v := r1) FX hX hbl hbA hS (lv_at hl 5 rfl) (lv_at hl 1 rfl) dL_law_2392 dL_law_2393 dL_law_2395 dL_law_2396 dL_law_2397 rfl hin1 ey1 ?_
  refine p_rd (k := 2) (v := r2) FX hX hbl hbA hS (lv_at hl 5 rfl) (lv_at hl 1 rfl) dL_law_2398 dL_law_2399 dL_law_2401 dL_law_2402 dL_law_2403 rfl hin2 ey2 ?_
  refine p_rd (k := 3) (v := r3) FX hX hbl hbA hS (lv_at hl 5 rfl) (lv_at hl 1 rfl) dL_law_2404 dL_law_2405 dL_law_2407 dL_law_2408 dL_law_2409 rfl hin3 ey3 ?_
  obtain ⟨eT, eA, hI2⟩ := st_codes r1 r2 r3 n0 hI
  refine c_WRV (wr := [(x, .inr (2, [.ref bx, .ref px, .ref t, .int ak, .int su, .int gt, .int lf, .int rf, .int kn])), (bx, .inl (cI, 6, .inl f)), (px, .inl (cI, 2, .inl g)), (t, .inr (1, [.ref bt, .int 0, .int ml, .int cn])), (bt, .inl (cB, 16, .inl bs)), (q, .inr (3, [.long (hn_codes r1 r2 r3 f n0), sv]))]) (wsN := [(x, .inr (2, [.ref bx, .ref px, .ref t, .int ak, .int su, .int gt, .int lf, .int rf, .int kn])), (bx, .inl (cI, 6, .inl f)), (px, .inl (cI, 2, .inl g)), (t, .inr (1, [.ref bt, .int 0, .int ml, .int cn])), (bt, .inl (cB, 16, .inl bs)), (o, .inr (4, [.int (wth_X2_codes r1 r2 r3), .ref bo, .ref po, .int ak', .int su', .int gt', .int lf', .int rf', .int kn'])), (bo, .inl (cI, 6, .inl h)), (po, .inl (cI, 2, .inl j)), (q, .inr (3, [.long (hn_codes r1 r2 r3 f n0), sv]))]) (i0 := 5) (ci := 4) FX (k_X2_codes l D cI cB o bo po th h j ak' su' gt' lf' rf' kn' r1 r2 r3) mi_X2_codes rfl ml_RL_265 (RMok.mk) hl.1 rfl (Nat.le_of_ble_eq_true rfl) dL_law_2410 ⟨by omega, by omega⟩ hK hP hD hS hA [5, 6, 7] rfl [0, 1, 2, 3, 4, 8] rfl rfl (by decide) [0, 1, 2, 3, 4, 6, 7, 8, 5] rfl rfl rfl rfl rfl (fun H locs hP hD hS => ?_)
  refine lv_istore (lv' := [(6, .int (v_X2_codes r1 r2 r3 h)), (5, .int (hk_codes r1 r2 r3)), (4, .int (nI i)), (3, .ref q), (2, .ref o), (1, .ref x), (0, .ref b)]) FX.1 FX.2.1 dL_law_2413 hl (by decide) rfl (fun ls hl => ?_)
  refine lv_aload_n FX.1 FX.2.1 dL_law_2415 rfl (lv_at hl 4 rfl) ?_
  refine c_RDV (i0 := 5) (ci := 4) FX (r_X2_thrown l D cI cB o bo po (wth_X2_codes r1 r2 r3) h j ak' su' gt' lf' rf' kn') mi_X2_thrown rfl ml_RL_162 (RMok.mk) hl.1 rfl (Nat.le_of_ble_eq_true rfl) dL_law_2416 ⟨by omega, by omega⟩ hK hP [5, 6, 7] rfl rfl rfl rfl ?_
  refine lv_iload FX.1 FX.2.1 dL_law_2419 (lv_at hl 1 rfl) ?_
  refine lv_icmp_eq (tgt := 2426) FX.1 FX.2.1 dL_law_2421 (by decide) (fun c_1 => ?_) (fun c_1 => ?_)
  · refine lv_iload FX.1 FX.2.1 dL_law_2426 (lv_at hl 1 rfl) ?_
    refine lv_if_ne (tgt := 2444) FX.1 FX.2.1 dL_law_2428 (by decide) (fun c_2 => ?_) (fun c_2 => ?_)
    · refine lv_goto (tgt := 2982) FX.1 FX.2.1 dL_law_2444 (by decide) ?_
      refine W.widen (k := cc + 33) (n := ss + 321) (by omega) (by omega) ?_
      exact kk H locs f g ak su gt lf rf kn ml cn bs (wth_X2_codes r1 r2 r3) h j ak' su' gt' lf' rf' kn' (hn_codes r1 r2 r3 f n0) sv ls hI2 hb hc hP hD hS (lv_sub hl [2, 3, 4, 5, 6] rfl)
    · refine lv_aload_n FX.1 FX.2.1 dL_law_2431 rfl (lv_at hl 3 rfl) ?_
      refine p_getN (ci := 3) (v := .long (hn_codes r1 r2 r3 f n0)) FX inX1 hK hP 8 rfl rfl 0 (by decide) hz.1.2.1 rfl dL_law_2432 ?_
      refine lv_iload FX.1 FX.2.1 dL_law_2435 (lv_at hl 0 rfl) ?_
      refine lv_i2l (v := (v_X2_codes r1 r2 r3 h).toInt64) FX.1 FX.2.1 dL_law_2437 rfl ?_
      refine W.eq (g2 := F0 m 2438 ls [.long ((v_X2_codes r1 r2 r3 h).toInt64), .long ((v_X2_codes r1 r2 r3 h).toInt64)]) (by rw [eA c_2]) ?_
      refine W.lcmp FX.1 FX.2.1 dL_law_2438 ?_
      refine W.eq (g2 := F0 m 2439 ls [.int 0]) (by rw [lg_self]) ?_
      refine lv_if_eq (tgt := 2444) FX.1 FX.2.1 dL_law_2439 (by decide) (fun c_3 => ?_) (fun c_3 => ?_)
      · refine lv_goto (tgt := 2982) FX.1 FX.2.1 dL_law_2444 (by decide) ?_
        refine W.widen (k := cc + 33) (n := ss + 321) (by omega) (by omega) ?_
        exact kk H locs f g ak su gt lf rf kn ml cn bs (wth_X2_codes r1 r2 r3) h j ak' su' gt' lf' rf' kn' (hn_codes r1 r2 r3 f n0) sv ls hI2 hb hc hP hD hS (lv_sub hl [2, 3, 4, 5, 6] rfl)
      · exact absurd c_3 (by decide)
  · exact absurd eT c_1
set_option maxRecDepth 100000 in
set_option maxHeartbeats 4000000 in
theorem case_32 {p : Program} {l : Launch} {e : Env} {s : State} {m : MethodId} {below : List Frame} {meth : Method} {c : Code} (hl0 : l.stackTraces = false) (D : va_G) (cI cB : ClassId) (b L : Nat) (xs : Nat → Int32) (x bx px t bt o bo po q : Nat) (to tt : Nat) (go gu : Nat → Int32) (na nv : Nat) (nf : Nat → Int32) (nb nw : Nat) (nh : Nat → Int32) (ea ew : Nat) (ef : Nat → Int32) (i cc ss : Nat) (hi : i + 6 ≤ L) (hcc : cc + 33 ≤ room_1.cells) (hss : ss + 321 ≤ room_1.slots) (hL : L ≤ 6) (FX : CallFix p m c cL_law 7 s #[.ref b] bigW RL) (hK : va_K D KL (TY cI cB) s) (hX : va_X b L xs s s.heap) (hbl : b < s.heap.size) (hz : zLaw to tt go gu na nv nf nb nw nh ea ew ef (fun q => s.heap.size ≤ q) s s.heap) (hfn : sb_Fit nf) (hfe : sb_Fit ef) (hnn : TL 4 nf nh) (kk : LGo p l e s m below meth c D cI cB b x bx px t bt o bo po q i 2982 (cc + 33) (ss + 321)) : LGo p l e s m below meth c D cI cB b x bx px t bt o bo po q i 2447 cc ss := by
  intro H locs f g ak su gt lf rf kn ml cn bs th h j ak' su' gt' lf' rf' kn' n0 sv ls hI hb hc hP hD hS hl
  have hA : ∀ q : Nat, s.heap.size ≤ q → s.heap.size ≤ q := fun _ h => h
  have hbA : ¬ (fun q : Nat => s.heap.size ≤ q) b := Nat.not_le.mpr hbl
  obtain ⟨r1, ey1⟩ : ∃ y, xs (i + 1) = y := ⟨_, rfl⟩
  have hin1 : i + 1 < L ∧ L < 2 ^ 31 := ⟨by omega, by omega⟩
  have hl : lv_has ls 7 [(4, .int (nI i)), (3, .ref q), (2, .ref o), (1, .ref x), (0, .ref b)] := hl
  have hP : va_P D KL [(x, .inr (2, [.ref bx, .ref px, .ref t, .int ak, .int su, .int gt, .int lf, .int rf, .int kn])), (bx, .inl (cI, 6, .inl f)), (px, .inl (cI, 2, .inl g)), (t, .inr (1, [.ref bt, .int 0, .int ml, .int cn])), (bt, .inl (cB, 16, .inl bs)), (o, .inr (4, [.int th, .ref bo, .ref po, .int ak', .int su', .int gt', .int lf', .int rf', .int kn'])), (bo, .inl (cI, 6, .inl h)), (po, .inl (cI, 2, .inl j)), (q, .inr (3, [.long n0, sv]))] H := hP
  have hD : va_D (fun q => s.heap.size ≤ q) [(x, .inr (2, [.ref bx, .ref px, .ref t, .int ak, .int su, .int gt, .int lf, .int rf, .int kn])), (bx, .inl (cI, 6, .inl f)), (px, .inl (cI, 2, .inl g)), (t, .inr (1, [.ref bt, .int 0, .int ml, .int cn])), (bt, .inl (cB, 16, .inl bs)), (o, .inr (4, [.int th, .ref bo, .ref po, .int ak', .int su', .int gt', .int lf', .int rf', .int kn'])), (bo, .inl (cI, 6, .inl h)), (po, .inl (cI, 2, .inl j)), (q, .inr (3, [.long n0, sv]))] := hD
  refine lv_aload_n FX.1 FX.2.1 dL_law_2447 rfl (lv_at hl 3 rfl) ?_
  refine p_rd (k := 1) (v := r1) FX hX hbl hbA hS (lv_at hl 4 rfl) (lv_at hl 0 rfl) dL_law_2448 dL_law_2449 dL_law_2451 dL_law_2452 dL_law_2453 rfl hin1 ey1 ?_
  refine lv_aload_n FX.1 FX.2.1 dL_law_2454 rfl (lv_at hl 1 rfl) ?_
  refine c_J (W0 := [(x, .inr (2, [.ref bx, .ref px, .ref t, .int ak, .int su, .int gt, .int lf, .int rf, .int kn])), (bx, .inl (cI, 6, .inl f)), (px, .inl (cI, 2, .inl g)), (q, .inr (3, [.long n0, sv]))]) (wr := [(t, .inr (1, [.ref bt, .int 0, .int ml, .int cn])), (bt, .inl (cB, 16, .inl bs)), (o, .inr (4, [.int th, .ref bo, .ref po, .int ak', .int su', .int gt', .int lf', .int rf', .int kn'])), (bo, .inl (cI, 6, .inl h)), (po, .inl (cI, 2, .inl j))]) (wsN := fun _ => [(x, .inr (2, [.ref bx, .ref px, .ref t, .int ak, .int su, .int gt, .int lf, .int rf, .int kn])), (bx, .inl (cI, 6, .inl f)), (px, .inl (cI, 2, .inl g)), (t, .inr (1, [.ref bt, .int 0, .int ml, .int cn])), (bt, .inl (cB, 16, .inl bs)), (o, .inr (4, [.int th, .ref bo, .ref po, .int ak', .int su', .int gt', .int lf', .int rf', .int kn'])), (bo, .inl (cI, 6, .inl h)), (po, .inl (cI, 2, .inl j)), (q, .inr (3, [.long (hn_codeOf r1 f n0), sv]))]) (vx_runSW FX ((j_L_codeOf l hl0 D cI cB x bx px t f g ak su gt lf rf kn q n0 sv r1) H.size) (my_cwSW FX.2.2.2.2 mh_L_codeOf ml_RL_266 (RMok.mk)) ⟨PJ.blind (zAnd_ok (zAnd_ok zz_ok zN_ok) zF_ok), fun U hU hW => ⟨rfl, my_preJ (zAnd_ok (zAnd_ok zz_ok zN_ok) zF_ok) ⟨hz.1.1, hz.1.2.1⟩ hS hA hK hP hD [0, 1, 2, 8] rfl rfl U hU hW⟩⟩ rfl rfl hl.1 rfl (lv_room (Nat.le_of_ble_eq_true rfl)) dL_law_2455 ⟨by omega, by omega⟩) hP hD hS hA [0, 1, 2, 8] rfl [3, 4, 5, 6, 7] rfl (by decide) [5, 6, 7, 0, 1, 2, 3, 4, 8] (fun _ => rfl) rfl (fun u1 H locs hp_1 hP hD hS => ?_)
  have hP : va_P D KL [(x, .inr (2, [.ref bx, .ref px, .ref t, .int ak, .int su, .int gt, .int lf, .int rf, .int kn])), (bx, .inl (cI, 6, .inl f)), (px, .inl (cI, 2, .inl g)), (t, .inr (1, [.ref bt, .int 0, .int ml, .int cn])), (bt, .inl (cB, 16, .inl bs)), (o, .inr (4, [.int th, .ref bo, .ref po, .int ak', .int su', .int gt', .int lf', .int rf', .int kn'])), (bo, .inl (cI, 6, .inl h)), (po, .inl (cI, 2, .inl j)), (q, .inr (3, [.long (hn_codeOf r1 f n0), sv]))] H := hP
  have hD : va_D (fun q => s.heap.size ≤ q) [(x, .inr (2, [.ref bx, .ref px, .ref t, .int ak, .int su, .int gt, .int lf, .int rf, .int kn])), (bx, .inl (cI, 6, .inl f)), (px, .inl (cI, 2, .inl g)), (t, .inr (1, [.ref bt, .int 0, .int ml, .int cn])), (bt, .inl (cB, 16, .inl bs)), (o, .inr (4, [.int th, .ref bo, .ref po, .int ak', .int su', .int gt', .int lf', .int rf', .int kn'])), (bo, .inl (cI, 6, .inl h)), (po, .inl (cI, 2, .inl j)), (q, .inr (3, [.long (hn_codeOf r1 f n0), sv]))] := hD
  refine W.eq (g2 := F0 m 2458 ls [.int (hk_codeOf r1)]) rfl ?_
  refine lv_istore (lv' := [(5, .int (hk_codeOf r1)), (4, .int (nI i)), (3, .ref q), (2, .ref o), (1, .ref x), (0, .ref b)]) FX.1 FX.2.1 dL_law_2458 hl (by decide) rfl (fun ls hl => ?_)
  refine lv_aload_n FX.1 FX.2.1 dL_law_2460 rfl (lv_at hl 3 rfl) ?_
  refine p_rd (k := 1) (v := r1) FX hX hbl hbA hS (lv_at hl 5 rfl) (lv_at hl 1 rfl) dL_law_2461 dL_law_2462 dL_law_2464 dL_law_2465 dL_law_2466 rfl hin1 ey1 ?_
  obtain ⟨eT, eA, hI2⟩ := st_codeOf r1 n0 hI
  refine c_WRV (wr := [(x, .inr (2, [.ref bx, .ref px, .ref t, .int ak, .int su, .int gt, .int lf, .int rf, .int kn])), (bx, .inl (cI, 6, .inl f)), (px, .inl (cI, 2, .inl g)), (t, .inr (1, [.ref bt, .int 0, .int ml, .int cn])), (bt, .inl (cB, 16, .inl bs)), (q, .inr (3, [.long (hn_codeOf r1 f n0), sv]))]) (wsN := [(x, .inr (2, [.ref bx, .ref px, .ref t, .int ak, .int su, .int gt, .int lf, .int rf, .int kn])), (bx, .inl (cI, 6, .inl f)), (px, .inl (cI, 2, .inl g)), (t, .inr (1, [.ref bt, .int 0, .int ml, .int cn])), (bt, .inl (cB, 16, .inl bs)), (o, .inr (4, [.int (wth_X2_codeOf r1), .ref bo, .ref po, .int ak', .int su', .int gt', .int lf', .int rf', .int kn'])), (bo, .inl (cI, 6, .inl h)), (po, .inl (cI, 2, .inl j)), (q, .inr (3, [.long (hn_codeOf r1 f n0), sv]))]) (i0 := 5) (ci := 4) FX (k_X2_codeOf l D cI cB o bo po th h j ak' su' gt' lf' rf' kn' r1) mi_X2_codeOf rfl ml_RL_268 (RMok.mk) hl.1 rfl (Nat.le_of_ble_eq_true rfl) dL_law_2467 ⟨by omega, by omega⟩ hK hP hD hS hA [5, 6, 7] rfl [0, 1, 2, 3, 4, 8] rfl rfl (by decide) [0, 1, 2, 3, 4, 6, 7, 8, 5] rfl rfl rfl rfl rfl (fun H locs hP hD hS => ?_)
  refine lv_istore (lv' := [(6, .int (v_X2_codeOf r1 h)), (5, .int (hk_codeOf r1)), (4, .int (nI i)), (3, .ref q), (2, .ref o), (1, .ref x), (0, .ref b)]) FX.1 FX.2.1 dL_law_2470 hl (by decide) rfl (fun ls hl => ?_)
  refine lv_aload_n FX.1 FX.2.1 dL_law_2472 rfl (lv_at hl 4 rfl) ?_
  refine c_RDV (i0 := 5) (ci := 4) FX (r_X2_thrown l D cI cB o bo po (wth_X2_codeOf r1) h j ak' su' gt' lf' rf' kn') mi_X2_thrown rfl ml_RL_162 (RMok.mk) hl.1 rfl (Nat.le_of_ble_eq_true rfl) dL_law_2473 ⟨by omega, by omega⟩ hK hP [5, 6, 7] rfl rfl rfl rfl ?_
  refine lv_iload FX.1 FX.2.1 dL_law_2476 (lv_at hl 1 rfl) ?_
  refine lv_icmp_eq (tgt := 2483) FX.1 FX.2.1 dL_law_2478 (by decide) (fun c_1 => ?_) (fun c_1 => ?_)
  · refine lv_iload FX.1 FX.2.1 dL_law_2483 (lv_at hl 1 rfl) ?_
    refine lv_if_ne (tgt := 2501) FX.1 FX.2.1 dL_law_2485 (by decide) (fun c_2 => ?_) (fun c_2 => ?_)
    · refine lv_goto (tgt := 2982) FX.1 FX.2.1 dL_law_2501 (by decide) ?_
      refine W.widen (k := cc + 33) (n := ss + 321) (by omega) (by omega) ?_
      exact kk H locs f g ak su gt lf rf kn ml cn bs (wth_X2_codeOf r1) h j ak' su' gt' lf' rf' kn' (hn_codeOf r1 f n0) sv ls hI2 hb hc hP hD hS (lv_sub hl [2, 3, 4, 5, 6] rfl)
    · refine lv_aload_n FX.1 FX.2.1 dL_law_2488 rfl (lv_at hl 3 rfl) ?_
      refine p_getN (ci := 3) (v := .long (hn_codeOf r1 f n0)) FX inX1 hK hP 8 rfl rfl 0 (by decide) hz.1.2.1 rfl dL_law_2489 ?_
      refine lv_iload FX.1 FX.2.1 dL_law_2492 (lv_at hl 0 rfl) ?_
      refine lv_i2l (v := (v_X2_codeOf r1 h).toInt64) FX.1 FX.2.1 dL_law_2494 rfl ?_
      refine W.eq (g2 := F0 m 2495 ls [.long ((v_X2_codeOf r1 h).toInt64), .long ((v_X2_codeOf r1 h).toInt64)]) (by rw [eA c_2]) ?_
      refine W.lcmp FX.1 FX.2.1 dL_law_2495 ?_
      refine W.eq (g2 := F0 m 2496 ls [.int 0]) (by rw [lg_self]) ?_
      refine lv_if_eq (tgt := 2501) FX.1 FX.2.1 dL_law_2496 (by decide) (fun c_3 => ?_) (fun c_3 => ?_)
      · refine lv_goto (tgt := 2982) FX.1 FX.2.1 dL_law_2501 (by decide) ?_
        refine W.widen (k := cc + 33) (n := ss + 321) (by omega) (by omega) ?_
        exact kk H locs f g ak su gt lf rf kn ml cn bs (wth_X2_codeOf r1) h j ak' su' gt' lf' rf' kn' (hn_codeOf r1 f n0) sv ls hI2 hb hc hP hD hS (lv_sub hl [2, 3, 4, 5, 6] rfl)
      · exact absurd c_3 (by decide)
  · exact absurd eT c_1
set_option maxRecDepth 100000 in
set_option maxHeartbeats 4000000 in
theorem case_33 {p : Program} {l : Launch} {e : Env} {s : State} {m : MethodId} {below : List Frame} {meth : Method} {c : Code} (hl0 : l.stackTraces = false) (D : va_G) (cI cB : ClassId) (b L : Nat) (xs : Nat → Int32) (x bx px t bt o bo po q : Nat) (to tt : Nat) (go gu : Nat → Int32) (na nv : Nat) (nf : Nat → Int32) (nb nw : Nat) (nh : Nat → Int32) (ea ew : Nat) (ef : Nat → Int32) (i cc ss : Nat) (hi : i + 6 ≤ L) (hcc : cc + 33 ≤ room_1.cells) (hss : ss + 321 ≤ room_1.slots) (hL : L ≤ 6) (FX : CallFix p m c cL_law 7 s #[.ref b] bigW RL) (hK : va_K D KL (TY cI cB) s) (hX : va_X b L xs s s.heap) (hbl : b < s.heap.size) (hz : zLaw to tt go gu na nv nf nb nw nh ea ew ef (fun q => s.heap.size ≤ q) s s.heap) (hfn : sb_Fit nf) (hfe : sb_Fit ef) (hnn : TL 4 nf nh) (kk : LGo p l e s m below meth c D cI cB b x bx px t bt o bo po q i 2982 (cc + 33) (ss + 321)) : LGo p l e s m below meth c D cI cB b x bx px t bt o bo po q i 2504 cc ss := by
  intro H locs f g ak su gt lf rf kn ml cn bs th h j ak' su' gt' lf' rf' kn' n0 sv ls hI hb hc hP hD hS hl
  have hA : ∀ q : Nat, s.heap.size ≤ q → s.heap.size ≤ q := fun _ h => h
  have hbA : ¬ (fun q : Nat => s.heap.size ≤ q) b := Nat.not_le.mpr hbl
  obtain ⟨r1, ey1⟩ : ∃ y, xs (i + 1) = y := ⟨_, rfl⟩
  have hin1 : i + 1 < L ∧ L < 2 ^ 31 := ⟨by omega, by omega⟩
  have hl : lv_has ls 7 [(4, .int (nI i)), (3, .ref q), (2, .ref o), (1, .ref x), (0, .ref b)] := hl
  have hP : va_P D KL [(x, .inr (2, [.ref bx, .ref px, .ref t, .int ak, .int su, .int gt, .int lf, .int rf, .int kn])), (bx, .inl (cI, 6, .inl f)), (px, .inl (cI, 2, .inl g)), (t, .inr (1, [.ref bt, .int 0, .int ml, .int cn])), (bt, .inl (cB, 16, .inl bs)), (o, .inr (4, [.int th, .ref bo, .ref po, .int ak', .int su', .int gt', .int lf', .int rf', .int kn'])), (bo, .inl (cI, 6, .inl h)), (po, .inl (cI, 2, .inl j)), (q, .inr (3, [.long n0, sv]))] H := hP
  have hD : va_D (fun q => s.heap.size ≤ q) [(x, .inr (2, [.ref bx, .ref px, .ref t, .int ak, .int su, .int gt, .int lf, .int rf, .int kn])), (bx, .inl (cI, 6, .inl f)), (px, .inl (cI, 2, .inl g)), (t, .inr (1, [.ref bt, .int 0, .int ml, .int cn])), (bt, .inl (cB, 16, .inl bs)), (o, .inr (4, [.int th, .ref bo, .ref po, .int ak', .int su', .int gt', .int lf', .int rf', .int kn'])), (bo, .inl (cI, 6, .inl h)), (po, .inl (cI, 2, .inl j)), (q, .inr (3, [.long n0, sv]))] := hD
  refine lv_aload_n FX.1 FX.2.1 dL_law_2504 rfl (lv_at hl 3 rfl) ?_
  refine p_rd (k := 1) (v := r1) FX hX hbl hbA hS (lv_at hl 4 rfl) (lv_at hl 0 rfl) dL_law_2505 dL_law_2506 dL_law_2508 dL_law_2509 dL_law_2510 rfl hin1 ey1 ?_
  refine lv_aload_n FX.1 FX.2.1 dL_law_2511 rfl (lv_at hl 1 rfl) ?_
  refine c_J (W0 := [(x, .inr (2, [.ref bx, .ref px, .ref t, .int ak, .int su, .int gt, .int lf, .int rf, .int kn])), (bx, .inl (cI, 6, .inl f)), (px, .inl (cI, 2, .inl g)), (q, .inr (3, [.long n0, sv]))]) (wr := [(t, .inr (1, [.ref bt, .int 0, .int ml, .int cn])), (bt, .inl (cB, 16, .inl bs)), (o, .inr (4, [.int th, .ref bo, .ref po, .int ak', .int su', .int gt', .int lf', .int rf', .int kn'])), (bo, .inl (cI, 6, .inl h)), (po, .inl (cI, 2, .inl j))]) (wsN := fun _ => [(x, .inr (2, [.ref bx, .ref px, .ref t, .int ak, .int su, .int gt, .int lf, .int (hrf_must r1 f rf), .int kn])), (bx, .inl (cI, 6, .inl f)), (px, .inl (cI, 2, .inl g)), (t, .inr (1, [.ref bt, .int 0, .int ml, .int cn])), (bt, .inl (cB, 16, .inl bs)), (o, .inr (4, [.int th, .ref bo, .ref po, .int ak', .int su', .int gt', .int lf', .int rf', .int kn'])), (bo, .inl (cI, 6, .inl h)), (po, .inl (cI, 2, .inl j)), (q, .inr (3, [.long (hn_must r1 f n0), sv]))]) (vx_runSW FX ((j_L_must l hl0 D cI cB x bx px t f g ak su gt lf rf kn q n0 sv r1) H.size) (my_cwSW FX.2.2.2.2 mh_L_must ml_RL_269 (RMok.mk)) ⟨PJ.blind (zAnd_ok (zAnd_ok zz_ok zN_ok) zF_ok), fun U hU hW => ⟨rfl, my_preJ (zAnd_ok (zAnd_ok zz_ok zN_ok) zF_ok) ⟨hz.1.1, hz.1.2.1⟩ hS hA hK hP hD [0, 1, 2, 8] rfl rfl U hU hW⟩⟩ rfl rfl hl.1 rfl (lv_room (Nat.le_of_ble_eq_true rfl)) dL_law_2512 ⟨by omega, by omega⟩) hP hD hS hA [0, 1, 2, 8] rfl [3, 4, 5, 6, 7] rfl (by decide) [5, 6, 7, 0, 1, 2, 3, 4, 8] (fun _ => rfl) rfl (fun u1 H locs hp_1 hP hD hS => ?_)
  have hP : va_P D KL [(x, .inr (2, [.ref bx, .ref px, .ref t, .int ak, .int su, .int gt, .int lf, .int (hrf_must r1 f rf), .int kn])), (bx, .inl (cI, 6, .inl f)), (px, .inl (cI, 2, .inl g)), (t, .inr (1, [.ref bt, .int 0, .int ml, .int cn])), (bt, .inl (cB, 16, .inl bs)), (o, .inr (4, [.int th, .ref bo, .ref po, .int ak', .int su', .int gt', .int lf', .int rf', .int kn'])), (bo, .inl (cI, 6, .inl h)), (po, .inl (cI, 2, .inl j)), (q, .inr (3, [.long (hn_must r1 f n0), sv]))] H := hP
  have hD : va_D (fun q => s.heap.size ≤ q) [(x, .inr (2, [.ref bx, .ref px, .ref t, .int ak, .int su, .int gt, .int lf, .int (hrf_must r1 f rf), .int kn])), (bx, .inl (cI, 6, .inl f)), (px, .inl (cI, 2, .inl g)), (t, .inr (1, [.ref bt, .int 0, .int ml, .int cn])), (bt, .inl (cB, 16, .inl bs)), (o, .inr (4, [.int th, .ref bo, .ref po, .int ak', .int su', .int gt', .int lf', .int rf', .int kn'])), (bo, .inl (cI, 6, .inl h)), (po, .inl (cI, 2, .inl j)), (q, .inr (3, [.long (hn_must r1 f n0), sv]))] := hD
  refine W.eq (g2 := F0 m 2515 ls [.int (hk_must r1)]) rfl ?_
  refine lv_istore (lv' := [(5, .int (hk_must r1)), (4, .int (nI i)), (3, .ref q), (2, .ref o), (1, .ref x), (0, .ref b)]) FX.1 FX.2.1 dL_law_2515 hl (by decide) rfl (fun ls hl => ?_)
  refine lv_aload_n FX.1 FX.2.1 dL_law_2517 rfl (lv_at hl 3 rfl) ?_
  refine p_rd (k := 1) (v := r1) FX hX hbl hbA hS (lv_at hl 5 rfl) (lv_at hl 1 rfl) dL_law_2518 dL_law_2519 dL_law_2521 dL_law_2522 dL_law_2523 rfl hin1 ey1 ?_
  obtain ⟨eT, eA, hI2⟩ := st_must r1 n0 hI
  refine c_WRV (wr := [(x, .inr (2, [.ref bx, .ref px, .ref t, .int ak, .int su, .int gt, .int lf, .int (hrf_must r1 f rf), .int kn])), (bx, .inl (cI, 6, .inl f)), (px, .inl (cI, 2, .inl g)), (t, .inr (1, [.ref bt, .int 0, .int ml, .int cn])), (bt, .inl (cB, 16, .inl bs)), (q, .inr (3, [.long (hn_must r1 f n0), sv]))]) (wsN := [(x, .inr (2, [.ref bx, .ref px, .ref t, .int ak, .int su, .int gt, .int lf, .int (hrf_must r1 f rf), .int kn])), (bx, .inl (cI, 6, .inl f)), (px, .inl (cI, 2, .inl g)), (t, .inr (1, [.ref bt, .int 0, .int ml, .int cn])), (bt, .inl (cB, 16, .inl bs)), (o, .inr (4, [.int (wth_X2_must r1), .ref bo, .ref po, .int ak', .int su', .int gt', .int lf', .int (wrf_X2_must r1 h rf'), .int kn'])), (bo, .inl (cI, 6, .inl h)), (po, .inl (cI, 2, .inl j)), (q, .inr (3, [.long (hn_must r1 f n0), sv]))]) (i0 := 5) (ci := 4) FX (k_X2_must l D cI cB o bo po th h j ak' su' gt' lf' rf' kn' r1) mi_X2_must rfl ml_RL_271 (RMok.mk) hl.1 rfl (Nat.le_of_ble_eq_true rfl) dL_law_2524 ⟨by omega, by omega⟩ hK hP hD hS hA [5, 6, 7] rfl [0, 1, 2, 3, 4, 8] rfl rfl (by decide) [0, 1, 2, 3, 4, 6, 7, 8, 5] rfl rfl rfl rfl rfl (fun H locs hP hD hS => ?_)
  refine lv_istore (lv' := [(6, .int (v_X2_must r1 h)), (5, .int (hk_must r1)), (4, .int (nI i)), (3, .ref q), (2, .ref o), (1, .ref x), (0, .ref b)]) FX.1 FX.2.1 dL_law_2527 hl (by decide) rfl (fun ls hl => ?_)
  refine lv_aload_n FX.1 FX.2.1 dL_law_2529 rfl (lv_at hl 4 rfl) ?_
  refine c_RDV (i0 := 5) (ci := 4) FX (r_X2_thrown l D cI cB o bo po (wth_X2_must r1) h j ak' su' gt' lf' (wrf_X2_must r1 h rf') kn') mi_X2_thrown rfl ml_RL_162 (RMok.mk) hl.1 rfl (Nat.le_of_ble_eq_true rfl) dL_law_2530 ⟨by omega, by omega⟩ hK hP [5, 6, 7] rfl rfl rfl rfl ?_
  refine lv_iload FX.1 FX.2.1 dL_law_2533 (lv_at hl 1 rfl) ?_
  refine lv_icmp_eq (tgt := 2540) FX.1 FX.2.1 dL_law_2535 (by decide) (fun c_1 => ?_) (fun c_1 => ?_)
  · refine lv_iload FX.1 FX.2.1 dL_law_2540 (lv_at hl 1 rfl) ?_
    refine lv_if_ne (tgt := 2558) FX.1 FX.2.1 dL_law_2542 (by decide) (fun c_2 => ?_) (fun c_2 => ?_)
    · refine lv_goto (tgt := 2982) FX.1 FX.2.1 dL_law_2558 (by decide) ?_
      refine W.widen (k := cc + 33) (n := ss + 321) (by omega) (by omega) ?_
      exact kk H locs f g ak su gt lf (hrf_must r1 f rf) kn ml cn bs (wth_X2_must r1) h j ak' su' gt' lf' (wrf_X2_must r1 h rf') kn' (hn_must r1 f n0) sv ls hI2 hb hc hP hD hS (lv_sub hl [2, 3, 4, 5, 6] rfl)
    · refine lv_aload_n FX.1 FX.2.1 dL_law_2545 rfl (lv_at hl 3 rfl) ?_
      refine p_getN (ci := 3) (v := .long (hn_must r1 f n0)) FX inX1 hK hP 8 rfl rfl 0 (by decide) hz.1.2.1 rfl dL_law_2546 ?_
      refine lv_iload FX.1 FX.2.1 dL_law_2549 (lv_at hl 0 rfl) ?_
      refine lv_i2l (v := (v_X2_must r1 h).toInt64) FX.1 FX.2.1 dL_law_2551 rfl ?_
      refine W.eq (g2 := F0 m 2552 ls [.long ((v_X2_must r1 h).toInt64), .long ((v_X2_must r1 h).toInt64)]) (by rw [eA c_2]) ?_
      refine W.lcmp FX.1 FX.2.1 dL_law_2552 ?_
      refine W.eq (g2 := F0 m 2553 ls [.int 0]) (by rw [lg_self]) ?_
      refine lv_if_eq (tgt := 2558) FX.1 FX.2.1 dL_law_2553 (by decide) (fun c_3 => ?_) (fun c_3 => ?_)
      · refine lv_goto (tgt := 2982) FX.1 FX.2.1 dL_law_2558 (by decide) ?_
        refine W.widen (k := cc + 33) (n := ss + 321) (by omega) (by omega) ?_
        exact kk H locs f g ak su gt lf (hrf_must r1 f rf) kn ml cn bs (wth_X2_must r1) h j ak' su' gt' lf' (wrf_X2_must r1 h rf') kn' (hn_must r1 f n0) sv ls hI2 hb hc hP hD hS (lv_sub hl [2, 3, 4, 5, 6] rfl)
      · exact absurd c_3 (by decide)
  · exact absurd eT c_1
set_option maxRecDepth 100000 in
set_option maxHeartbeats 4000000 in
theorem case_34 {p : Program} {l : Launch} {e : Env} {s : State} {m : MethodId} {below : List Frame} {meth : Method} {c : Code} (hl0 : l.stackTraces = false) (D : va_G) (cI cB : ClassId) (b L : Nat) (xs : Nat → Int32) (x bx px t bt o bo po q : Nat) (to tt : Nat) (go gu : Nat → Int32) (na nv : Nat) (nf : Nat → Int32) (nb nw : Nat) (nh : Nat → Int32) (ea ew : Nat) (ef : Nat → Int32) (i cc ss : Nat) (hi : i + 6 ≤ L) (hcc : cc + 33 ≤ room_1.cells) (hss : ss + 321 ≤ room_1.slots) (hL : L ≤ 6) (FX : CallFix p m c cL_law 7 s #[.ref b] bigW RL) (hK : va_K D KL (TY cI cB) s) (hX : va_X b L xs s s.heap) (hbl : b < s.heap.size) (hz : zLaw to tt go gu na nv nf nb nw nh ea ew ef (fun q => s.heap.size ≤ q) s s.heap) (hfn : sb_Fit nf) (hfe : sb_Fit ef) (hnn : TL 4 nf nh) (kk : LGo p l e s m below meth c D cI cB b x bx px t bt o bo po q i 2982 (cc + 33) (ss + 321)) : LGo p l e s m below meth c D cI cB b x bx px t bt o bo po q i 2561 cc ss := by
  intro H locs f g ak su gt lf rf kn ml cn bs th h j ak' su' gt' lf' rf' kn' n0 sv ls hI hb hc hP hD hS hl
  have hA : ∀ q : Nat, s.heap.size ≤ q → s.heap.size ≤ q := fun _ h => h
  have hbA : ¬ (fun q : Nat => s.heap.size ≤ q) b := Nat.not_le.mpr hbl
  obtain ⟨r1, ey1⟩ : ∃ y, xs (i + 1) = y := ⟨_, rfl⟩
  have hin1 : i + 1 < L ∧ L < 2 ^ 31 := ⟨by omega, by omega⟩
  obtain ⟨r2, ey2⟩ : ∃ y, xs (i + 2) = y := ⟨_, rfl⟩
  have hin2 : i + 2 < L ∧ L < 2 ^ 31 := ⟨by omega, by omega⟩
  have hl : lv_has ls 7 [(4, .int (nI i)), (3, .ref q), (2, .ref o), (1, .ref x), (0, .ref b)] := hl
  have hP : va_P D KL [(x, .inr (2, [.ref bx, .ref px, .ref t, .int ak, .int su, .int gt, .int lf, .int rf, .int kn])), (bx, .inl (cI, 6, .inl f)), (px, .inl (cI, 2, .inl g)), (t, .inr (1, [.ref bt, .int 0, .int ml, .int cn])), (bt, .inl (cB, 16, .inl bs)), (o, .inr (4, [.int th, .ref bo, .ref po, .int ak', .int su', .int gt', .int lf', .int rf', .int kn'])), (bo, .inl (cI, 6, .inl h)), (po, .inl (cI, 2, .inl j)), (q, .inr (3, [.long n0, sv]))] H := hP
  have hD : va_D (fun q => s.heap.size ≤ q) [(x, .inr (2, [.ref bx, .ref px, .ref t, .int ak, .int su, .int gt, .int lf, .int rf, .int kn])), (bx, .inl (cI, 6, .inl f)), (px, .inl (cI, 2, .inl g)), (t, .inr (1, [.ref bt, .int 0, .int ml, .int cn])), (bt, .inl (cB, 16, .inl bs)), (o, .inr (4, [.int th, .ref bo, .ref po, .int ak', .int su', .int gt', .int lf', .int rf', .int kn'])), (bo, .inl (cI, 6, .inl h)), (po, .inl (cI, 2, .inl j)), (q, .inr (3, [.long n0, sv]))] := hD
  refine lv_aload_n FX.1 FX.2.1 dL_law_2561 rfl (lv_at hl 3 rfl) ?_
  refine p_rd (k := 1) (v := r1) FX hX hbl hbA hS (lv_at hl 4 rfl) (lv_at hl 0 rfl) dL_law_2562 dL_law_2563 dL_law_2565 dL_law_2566 dL_law_2567 rfl hin1 ey1 ?_
  refine p_rd (k := 2) (v := r2) FX hX hbl hbA hS (lv_at hl 4 rfl) (lv_at hl 0 rfl) dL_law_2568 dL_law_2569 dL_law_2571 dL_law_2572 dL_law_2573 rfl hin2 ey2 ?_
  refine lv_aload_n FX.1 FX.2.1 dL_law_2574 rfl (lv_at hl 1 rfl) ?_
  refine c_J (W0 := [(x, .inr (2, [.ref bx, .ref px, .ref t, .int ak, .int su, .int gt, .int lf, .int rf, .int kn])), (bx, .inl (cI, 6, .inl f)), (px, .inl (cI, 2, .inl g)), (q, .inr (3, [.long n0, sv]))]) (wr := [(t, .inr (1, [.ref bt, .int 0, .int ml, .int cn])), (bt, .inl (cB, 16, .inl bs)), (o, .inr (4, [.int th, .ref bo, .ref po, .int ak', .int su', .int gt', .int lf', .int rf', .int kn'])), (bo, .inl (cI, 6, .inl h)), (po, .inl (cI, 2, .inl j))]) (wsN := fun _ => [(x, .inr (2, [.ref bx, .ref px, .ref t, .int ak, .int su, .int gt, .int lf, .int rf, .int kn])), (bx, .inl (cI, 6, .inl f)), (px, .inl (cI, 2, .inl g)), (t, .inr (1, [.ref bt, .int 0, .int ml, .int cn])), (bt, .inl (cB, 16, .inl bs)), (o, .inr (4, [.int th, .ref bo, .ref po, .int ak', .int su', .int gt', .int lf', .int rf', .int kn'])), (bo, .inl (cI, 6, .inl h)), (po, .inl (cI, 2, .inl j)), (q, .inr (3, [.long (hn_mustElse r1 r2 f n0), sv]))]) (vx_runSW FX ((j_L_mustElse l hl0 D cI cB x bx px t f g ak su gt lf rf kn q n0 sv r1 r2) H.size) (my_cwSW FX.2.2.2.2 mh_L_mustElse ml_RL_272 (RMok.mk)) ⟨PJ.blind (zAnd_ok (zAnd_ok zz_ok zN_ok) zF_ok), fun U hU hW => ⟨rfl, my_preJ (zAnd_ok (zAnd_ok zz_ok zN_ok) zF_ok) ⟨hz.1.1, hz.1.2.1⟩ hS hA hK hP hD [0, 1, 2, 8] rfl rfl U hU hW⟩⟩ rfl rfl hl.1 rfl (lv_room (Nat.le_of_ble_eq_true rfl)) dL_law_2575 ⟨by omega, by omega⟩) hP hD hS hA [0, 1, 2, 8] rfl [3, 4, 5, 6, 7] rfl (by decide) [5, 6, 7, 0, 1, 2, 3, 4, 8] (fun _ => rfl) rfl (fun u1 H locs hp_1 hP hD hS => ?_)
  have hP : va_P D KL [(x, .inr (2, [.ref bx, .ref px, .ref t, .int ak, .int su, .int gt, .int lf, .int rf, .int kn])), (bx, .inl (cI, 6, .inl f)), (px, .inl (cI, 2, .inl g)), (t, .inr (1, [.ref bt, .int 0, .int ml, .int cn])), (bt, .inl (cB, 16, .inl bs)), (o, .inr (4, [.int th, .ref bo, .ref po, .int ak', .int su', .int gt', .int lf', .int rf', .int kn'])), (bo, .inl (cI, 6, .inl h)), (po, .inl (cI, 2, .inl j)), (q, .inr (3, [.long (hn_mustElse r1 r2 f n0), sv]))] H := hP
  have hD : va_D (fun q => s.heap.size ≤ q) [(x, .inr (2, [.ref bx, .ref px, .ref t, .int ak, .int su, .int gt, .int lf, .int rf, .int kn])), (bx, .inl (cI, 6, .inl f)), (px, .inl (cI, 2, .inl g)), (t, .inr (1, [.ref bt, .int 0, .int ml, .int cn])), (bt, .inl (cB, 16, .inl bs)), (o, .inr (4, [.int th, .ref bo, .ref po, .int ak', .int su', .int gt', .int lf', .int rf', .int kn'])), (bo, .inl (cI, 6, .inl h)), (po, .inl (cI, 2, .inl j)), (q, .inr (3, [.long (hn_mustElse r1 r2 f n0), sv]))] := hD
  refine W.eq (g2 := F0 m 2578 ls [.int (hk_mustElse r1 r2)]) rfl ?_
  refine lv_istore (lv' := [(5, .int (hk_mustElse r1 r2)), (4, .int (nI i)), (3, .ref q), (2, .ref o), (1, .ref x), (0, .ref b)]) FX.1 FX.2.1 dL_law_2578 hl (by decide) rfl (fun ls hl => ?_)
  refine lv_aload_n FX.1 FX.2.1 dL_law_2580 rfl (lv_at hl 3 rfl) ?_
  refine p_rd (k := 1) (v := r1) FX hX hbl hbA hS (lv_at hl 5 rfl) (lv_at hl 1 rfl) dL_law_2581 dL_law_2582 dL_law_2584 dL_law_2585 dL_law_2586 rfl hin1 ey1 ?_
  refine p_rd (k := 2) (v := r2) FX hX hbl hbA hS (lv_at hl 5 rfl) (lv_at hl 1 rfl) dL_law_2587 dL_law_2588 dL_law_2590 dL_law_2591 dL_law_2592 rfl hin2 ey2 ?_
  obtain ⟨eT, eA, hI2⟩ := st_mustElse r1 r2 n0 hI
  refine c_WRV (wr := [(x, .inr (2, [.ref bx, .ref px, .ref t, .int ak, .int su, .int gt, .int lf, .int rf, .int kn])), (bx, .inl (cI, 6, .inl f)), (px, .inl (cI, 2, .inl g)), (t, .inr (1, [.ref bt, .int 0, .int ml, .int cn])), (bt, .inl (cB, 16, .inl bs)), (q, .inr (3, [.long (hn_mustElse r1 r2 f n0), sv]))]) (wsN := [(x, .inr (2, [.ref bx, .ref px, .ref t, .int ak, .int su, .int gt, .int lf, .int rf, .int kn])), (bx, .inl (cI, 6, .inl f)), (px, .inl (cI, 2, .inl g)), (t, .inr (1, [.ref bt, .int 0, .int ml, .int cn])), (bt, .inl (cB, 16, .inl bs)), (o, .inr (4, [.int (wth_X2_mustElse r1 r2), .ref bo, .ref po, .int ak', .int su', .int gt', .int lf', .int rf', .int kn'])), (bo, .inl (cI, 6, .inl h)), (po, .inl (cI, 2, .inl j)), (q, .inr (3, [.long (hn_mustElse r1 r2 f n0), sv]))]) (i0 := 5) (ci := 4) FX (k_X2_mustElse l D cI cB o bo po th h j ak' su' gt' lf' rf' kn' r1 r2) mi_X2_mustElse rfl ml_RL_274 (RMok.mk) hl.1 rfl (Nat.le_of_ble_eq_true rfl) dL_law_2593 ⟨by omega, by omega⟩ hK hP hD hS hA [5, 6, 7] rfl [0, 1, 2, 3, 4, 8] rfl rfl (by decide) [0, 1, 2, 3, 4, 6, 7, 8, 5] rfl rfl rfl rfl rfl (fun H locs hP hD hS => ?_)
  refine lv_istore (lv' := [(6, .int (v_X2_mustElse r1 r2 h)), (5, .int (hk_mustElse r1 r2)), (4, .int (nI i)), (3, .ref q), (2, .ref o), (1, .ref x), (0, .ref b)]) FX.1 FX.2.1 dL_law_2596 hl (by decide) rfl (fun ls hl => ?_)
  refine lv_aload_n FX.1 FX.2.1 dL_law_2598 rfl (lv_at hl 4 rfl) ?_
  refine c_RDV (i0 := 5) (ci := 4) FX (r_X2_thrown l D cI cB o bo po (wth_X2_mustElse r1 r2) h j ak' su' gt' lf' rf' kn') mi_X2_thrown rfl ml_RL_162 (RMok.mk) hl.1 rfl (Nat.le_of_ble_eq_true rfl) dL_law_2599 ⟨by omega, by omega⟩ hK hP [5, 6, 7] rfl rfl rfl rfl ?_
  refine lv_iload FX.1 FX.2.1 dL_law_2602 (lv_at hl 1 rfl) ?_
  refine lv_icmp_eq (tgt := 2609) FX.1 FX.2.1 dL_law_2604 (by decide) (fun c_1 => ?_) (fun c_1 => ?_)
  · refine lv_iload FX.1 FX.2.1 dL_law_2609 (lv_at hl 1 rfl) ?_
    refine lv_if_ne (tgt := 2627) FX.1 FX.2.1 dL_law_2611 (by decide) (fun c_2 => ?_) (fun c_2 => ?_)
    · refine lv_goto (tgt := 2982) FX.1 FX.2.1 dL_law_2627 (by decide) ?_
      refine W.widen (k := cc + 33) (n := ss + 321) (by omega) (by omega) ?_
      exact kk H locs f g ak su gt lf rf kn ml cn bs (wth_X2_mustElse r1 r2) h j ak' su' gt' lf' rf' kn' (hn_mustElse r1 r2 f n0) sv ls hI2 hb hc hP hD hS (lv_sub hl [2, 3, 4, 5, 6] rfl)
    · refine lv_aload_n FX.1 FX.2.1 dL_law_2614 rfl (lv_at hl 3 rfl) ?_
      refine p_getN (ci := 3) (v := .long (hn_mustElse r1 r2 f n0)) FX inX1 hK hP 8 rfl rfl 0 (by decide) hz.1.2.1 rfl dL_law_2615 ?_
      refine lv_iload FX.1 FX.2.1 dL_law_2618 (lv_at hl 0 rfl) ?_
      refine lv_i2l (v := (v_X2_mustElse r1 r2 h).toInt64) FX.1 FX.2.1 dL_law_2620 rfl ?_
      refine W.eq (g2 := F0 m 2621 ls [.long ((v_X2_mustElse r1 r2 h).toInt64), .long ((v_X2_mustElse r1 r2 h).toInt64)]) (by rw [eA c_2]) ?_
      refine W.lcmp FX.1 FX.2.1 dL_law_2621 ?_
      refine W.eq (g2 := F0 m 2622 ls [.int 0]) (by rw [lg_self]) ?_
      refine lv_if_eq (tgt := 2627) FX.1 FX.2.1 dL_law_2622 (by decide) (fun c_3 => ?_) (fun c_3 => ?_)
      · refine lv_goto (tgt := 2982) FX.1 FX.2.1 dL_law_2627 (by decide) ?_
        refine W.widen (k := cc + 33) (n := ss + 321) (by omega) (by omega) ?_
        exact kk H locs f g ak su gt lf rf kn ml cn bs (wth_X2_mustElse r1 r2) h j ak' su' gt' lf' rf' kn' (hn_mustElse r1 r2 f n0) sv ls hI2 hb hc hP hD hS (lv_sub hl [2, 3, 4, 5, 6] rfl)
      · exact absurd c_3 (by decide)
  · exact absurd eT c_1
set_option maxRecDepth 100000 in
set_option maxHeartbeats 4000000 in
theorem case_35 {p : Program} {l : Launch} {e : Env} {s : State} {m : MethodId} {below : List Frame} {meth : Method} {c : Code} (hl0 : l.stackTraces = false) (D : va_G) (cI cB : ClassId) (b L : Nat) (xs : Nat → Int32) (x bx px t bt o bo po q : Nat) (to tt : Nat) (go gu : Nat → Int32) (na nv : Nat) (nf : Nat → Int32) (nb nw : Nat) (nh : Nat → Int32) (ea ew : Nat) (ef : Nat → Int32) (i cc ss : Nat) (hi : i + 6 ≤ L) (hcc : cc + 33 ≤ room_1.cells) (hss : ss + 321 ≤ room_1.slots) (hL : L ≤ 6) (FX : CallFix p m c cL_law 7 s #[.ref b] bigW RL) (hK : va_K D KL (TY cI cB) s) (hX : va_X b L xs s s.heap) (hbl : b < s.heap.size) (hz : zLaw to tt go gu na nv nf nb nw nh ea ew ef (fun q => s.heap.size ≤ q) s s.heap) (hfn : sb_Fit nf) (hfe : sb_Fit ef) (hnn : TL 4 nf nh) (kk : LGo p l e s m below meth c D cI cB b x bx px t bt o bo po q i 2982 (cc + 33) (ss + 321)) : LGo p l e s m below meth c D cI cB b x bx px t bt o bo po q i 2630 cc ss := by
  intro H locs f g ak su gt lf rf kn ml cn bs th h j ak' su' gt' lf' rf' kn' n0 sv ls hI hb hc hP hD hS hl
  have hA : ∀ q : Nat, s.heap.size ≤ q → s.heap.size ≤ q := fun _ h => h
  have hbA : ¬ (fun q : Nat => s.heap.size ≤ q) b := Nat.not_le.mpr hbl
  obtain ⟨r1, ey1⟩ : ∃ y, xs (i + 1) = y := ⟨_, rfl⟩
  have hin1 : i + 1 < L ∧ L < 2 ^ 31 := ⟨by omega, by omega⟩
  have hl : lv_has ls 7 [(4, .int (nI i)), (3, .ref q), (2, .ref o), (1, .ref x), (0, .ref b)] := hl
  have hP : va_P D KL [(x, .inr (2, [.ref bx, .ref px, .ref t, .int ak, .int su, .int gt, .int lf, .int rf, .int kn])), (bx, .inl (cI, 6, .inl f)), (px, .inl (cI, 2, .inl g)), (t, .inr (1, [.ref bt, .int 0, .int ml, .int cn])), (bt, .inl (cB, 16, .inl bs)), (o, .inr (4, [.int th, .ref bo, .ref po, .int ak', .int su', .int gt', .int lf', .int rf', .int kn'])), (bo, .inl (cI, 6, .inl h)), (po, .inl (cI, 2, .inl j)), (q, .inr (3, [.long n0, sv]))] H := hP
  have hD : va_D (fun q => s.heap.size ≤ q) [(x, .inr (2, [.ref bx, .ref px, .ref t, .int ak, .int su, .int gt, .int lf, .int rf, .int kn])), (bx, .inl (cI, 6, .inl f)), (px, .inl (cI, 2, .inl g)), (t, .inr (1, [.ref bt, .int 0, .int ml, .int cn])), (bt, .inl (cB, 16, .inl bs)), (o, .inr (4, [.int th, .ref bo, .ref po, .int ak', .int su', .int gt', .int lf', .int rf', .int kn'])), (bo, .inl (cI, 6, .inl h)), (po, .inl (cI, 2, .inl j)), (q, .inr (3, [.long n0, sv]))] := hD
  refine lv_aload_n FX.1 FX.2.1 dL_law_2630 rfl (lv_at hl 3 rfl) ?_
  refine p_rd (k := 1) (v := r1) FX hX hbl hbA hS (lv_at hl 4 rfl) (lv_at hl 0 rfl) dL_law_2631 dL_law_2632 dL_law_2634 dL_law_2635 dL_law_2636 rfl hin1 ey1 ?_
  refine lv_aload_n FX.1 FX.2.1 dL_law_2637 rfl (lv_at hl 1 rfl) ?_
  refine c_J (W0 := [(x, .inr (2, [.ref bx, .ref px, .ref t, .int ak, .int su, .int gt, .int lf, .int rf, .int kn])), (bx, .inl (cI, 6, .inl f)), (px, .inl (cI, 2, .inl g)), (q, .inr (3, [.long n0, sv]))]) (wr := [(t, .inr (1, [.ref bt, .int 0, .int ml, .int cn])), (bt, .inl (cB, 16, .inl bs)), (o, .inr (4, [.int th, .ref bo, .ref po, .int ak', .int su', .int gt', .int lf', .int rf', .int kn'])), (bo, .inl (cI, 6, .inl h)), (po, .inl (cI, 2, .inl j))]) (wsN := fun _ => [(x, .inr (2, [.ref bx, .ref px, .ref t, .int ak, .int su, .int gt, .int lf, .int rf, .int kn])), (bx, .inl (cI, 6, .inl f)), (px, .inl (cI, 2, .inl g)), (t, .inr (1, [.ref bt, .int 0, .int ml, .int cn])), (bt, .inl (cB, 16, .inl bs)), (o, .inr (4, [.int th, .ref bo, .ref po, .int ak', .int su', .int gt', .int lf', .int rf', .int kn'])), (bo, .inl (cI, 6, .inl h)), (po, .inl (cI, 2, .inl j)), (q, .inr (3, [.long (hn_isNothing r1 f n0), sv]))]) (vx_runSW FX ((j_L_isNothing l hl0 D cI cB x bx px t f g ak su gt lf rf kn q n0 sv r1) H.size) (my_cwSW FX.2.2.2.2 mh_L_isNothing ml_RL_275 (RMok.mk)) ⟨PJ.blind (zAnd_ok (zAnd_ok zz_ok zN_ok) zF_ok), fun U hU hW => ⟨rfl, my_preJ (zAnd_ok (zAnd_ok zz_ok zN_ok) zF_ok) ⟨hz.1.1, hz.1.2.1⟩ hS hA hK hP hD [0, 1, 2, 8] rfl rfl U hU hW⟩⟩ rfl rfl hl.1 rfl (lv_room (Nat.le_of_ble_eq_true rfl)) dL_law_2638 ⟨by omega, by omega⟩) hP hD hS hA [0, 1, 2, 8] rfl [3, 4, 5, 6, 7] rfl (by decide) [5, 6, 7, 0, 1, 2, 3, 4, 8] (fun _ => rfl) rfl (fun u1 H locs hp_1 hP hD hS => ?_)
  have hP : va_P D KL [(x, .inr (2, [.ref bx, .ref px, .ref t, .int ak, .int su, .int gt, .int lf, .int rf, .int kn])), (bx, .inl (cI, 6, .inl f)), (px, .inl (cI, 2, .inl g)), (t, .inr (1, [.ref bt, .int 0, .int ml, .int cn])), (bt, .inl (cB, 16, .inl bs)), (o, .inr (4, [.int th, .ref bo, .ref po, .int ak', .int su', .int gt', .int lf', .int rf', .int kn'])), (bo, .inl (cI, 6, .inl h)), (po, .inl (cI, 2, .inl j)), (q, .inr (3, [.long (hn_isNothing r1 f n0), sv]))] H := hP
  have hD : va_D (fun q => s.heap.size ≤ q) [(x, .inr (2, [.ref bx, .ref px, .ref t, .int ak, .int su, .int gt, .int lf, .int rf, .int kn])), (bx, .inl (cI, 6, .inl f)), (px, .inl (cI, 2, .inl g)), (t, .inr (1, [.ref bt, .int 0, .int ml, .int cn])), (bt, .inl (cB, 16, .inl bs)), (o, .inr (4, [.int th, .ref bo, .ref po, .int ak', .int su', .int gt', .int lf', .int rf', .int kn'])), (bo, .inl (cI, 6, .inl h)), (po, .inl (cI, 2, .inl j)), (q, .inr (3, [.long (hn_isNothing r1 f n0), sv]))] := hD
  refine W.eq (g2 := F0 m 2641 ls [.int (hk_isNothing r1)]) rfl ?_
  refine lv_istore (lv' := [(5, .int (hk_isNothing r1)), (4, .int (nI i)), (3, .ref q), (2, .ref o), (1, .ref x), (0, .ref b)]) FX.1 FX.2.1 dL_law_2641 hl (by decide) rfl (fun ls hl => ?_)
  refine lv_aload_n FX.1 FX.2.1 dL_law_2643 rfl (lv_at hl 3 rfl) ?_
  refine p_rd (k := 1) (v := r1) FX hX hbl hbA hS (lv_at hl 5 rfl) (lv_at hl 1 rfl) dL_law_2644 dL_law_2645 dL_law_2647 dL_law_2648 dL_law_2649 rfl hin1 ey1 ?_
  obtain ⟨eT, eA, hI2⟩ := st_isNothing r1 n0 hI
  refine c_WRV (wr := [(x, .inr (2, [.ref bx, .ref px, .ref t, .int ak, .int su, .int gt, .int lf, .int rf, .int kn])), (bx, .inl (cI, 6, .inl f)), (px, .inl (cI, 2, .inl g)), (t, .inr (1, [.ref bt, .int 0, .int ml, .int cn])), (bt, .inl (cB, 16, .inl bs)), (q, .inr (3, [.long (hn_isNothing r1 f n0), sv]))]) (wsN := [(x, .inr (2, [.ref bx, .ref px, .ref t, .int ak, .int su, .int gt, .int lf, .int rf, .int kn])), (bx, .inl (cI, 6, .inl f)), (px, .inl (cI, 2, .inl g)), (t, .inr (1, [.ref bt, .int 0, .int ml, .int cn])), (bt, .inl (cB, 16, .inl bs)), (o, .inr (4, [.int (wth_X2_isNothing r1), .ref bo, .ref po, .int ak', .int su', .int gt', .int lf', .int rf', .int kn'])), (bo, .inl (cI, 6, .inl h)), (po, .inl (cI, 2, .inl j)), (q, .inr (3, [.long (hn_isNothing r1 f n0), sv]))]) (i0 := 5) (ci := 4) FX (k_X2_isNothing l D cI cB o bo po th h j ak' su' gt' lf' rf' kn' r1) mi_X2_isNothing rfl ml_RL_277 (RMok.mk) hl.1 rfl (Nat.le_of_ble_eq_true rfl) dL_law_2650 ⟨by omega, by omega⟩ hK hP hD hS hA [5, 6, 7] rfl [0, 1, 2, 3, 4, 8] rfl rfl (by decide) [0, 1, 2, 3, 4, 6, 7, 8, 5] rfl rfl rfl rfl rfl (fun H locs hP hD hS => ?_)
  refine lv_istore (lv' := [(6, .int (v_X2_isNothing r1 h)), (5, .int (hk_isNothing r1)), (4, .int (nI i)), (3, .ref q), (2, .ref o), (1, .ref x), (0, .ref b)]) FX.1 FX.2.1 dL_law_2653 hl (by decide) rfl (fun ls hl => ?_)
  refine lv_aload_n FX.1 FX.2.1 dL_law_2655 rfl (lv_at hl 4 rfl) ?_
  refine c_RDV (i0 := 5) (ci := 4) FX (r_X2_thrown l D cI cB o bo po (wth_X2_isNothing r1) h j ak' su' gt' lf' rf' kn') mi_X2_thrown rfl ml_RL_162 (RMok.mk) hl.1 rfl (Nat.le_of_ble_eq_true rfl) dL_law_2656 ⟨by omega, by omega⟩ hK hP [5, 6, 7] rfl rfl rfl rfl ?_
  refine lv_iload FX.1 FX.2.1 dL_law_2659 (lv_at hl 1 rfl) ?_
  refine lv_icmp_eq (tgt := 2666) FX.1 FX.2.1 dL_law_2661 (by decide) (fun c_1 => ?_) (fun c_1 => ?_)
  · refine lv_iload FX.1 FX.2.1 dL_law_2666 (lv_at hl 1 rfl) ?_
    refine lv_if_ne (tgt := 2691) FX.1 FX.2.1 dL_law_2668 (by decide) (fun c_2 => ?_) (fun c_2 => ?_)
    · refine lv_goto (tgt := 2982) FX.1 FX.2.1 dL_law_2691 (by decide) ?_
      refine W.widen (k := cc + 33) (n := ss + 321) (by omega) (by omega) ?_
      exact kk H locs f g ak su gt lf rf kn ml cn bs (wth_X2_isNothing r1) h j ak' su' gt' lf' rf' kn' (hn_isNothing r1 f n0) sv ls hI2 hb hc hP hD hS (lv_sub hl [2, 3, 4, 5, 6] rfl)
    · refine lv_aload_n FX.1 FX.2.1 dL_law_2671 rfl (lv_at hl 3 rfl) ?_
      refine p_getN (ci := 3) (v := .long (hn_isNothing r1 f n0)) FX inX1 hK hP 8 rfl rfl 0 (by decide) hz.1.2.1 rfl dL_law_2672 ?_
      refine lv_iload FX.1 FX.2.1 dL_law_2675 (lv_at hl 0 rfl) ?_
      refine lv_if_eq (tgt := 2684) FX.1 FX.2.1 dL_law_2677 (by decide) (fun c_3 => ?_) (fun c_3 => ?_)
      · refine lv_lconst (v := 0) FX.1 FX.2.1 dL_law_2684 (by decide) ?_
        refine W.eq (g2 := F0 m 2685 ls [.long 0, .long 0]) (by rw [eA c_2, if_pos c_3]) ?_
        refine W.lcmp FX.1 FX.2.1 dL_law_2685 ?_
        refine W.eq (g2 := F0 m 2686 ls [.int 0]) (by rw [lg_self]) ?_
        refine lv_if_eq (tgt := 2691) FX.1 FX.2.1 dL_law_2686 (by decide) (fun c_4 => ?_) (fun c_4 => ?_)
        · refine lv_goto (tgt := 2982) FX.1 FX.2.1 dL_law_2691 (by decide) ?_
          refine W.widen (k := cc + 33) (n := ss + 321) (by omega) (by omega) ?_
          exact kk H locs f g ak su gt lf rf kn ml cn bs (wth_X2_isNothing r1) h j ak' su' gt' lf' rf' kn' (hn_isNothing r1 f n0) sv ls hI2 hb hc hP hD hS (lv_sub hl [2, 3, 4, 5, 6] rfl)
        · exact absurd c_4 (by decide)
      · refine lv_lconst (v := 1) FX.1 FX.2.1 dL_law_2680 (by decide) ?_
        refine lv_goto (tgt := 2685) FX.1 FX.2.1 dL_law_2681 (by decide) ?_
        refine W.eq (g2 := F0 m 2685 ls [.long 1, .long 1]) (by rw [eA c_2, if_neg c_3]) ?_
        refine W.lcmp FX.1 FX.2.1 dL_law_2685 ?_
        refine W.eq (g2 := F0 m 2686 ls [.int 0]) (by rw [lg_self]) ?_
        refine lv_if_eq (tgt := 2691) FX.1 FX.2.1 dL_law_2686 (by decide) (fun c_5 => ?_) (fun c_5 => ?_)
        · refine lv_goto (tgt := 2982) FX.1 FX.2.1 dL_law_2691 (by decide) ?_
          refine W.widen (k := cc + 33) (n := ss + 321) (by omega) (by omega) ?_
          exact kk H locs f g ak su gt lf rf kn ml cn bs (wth_X2_isNothing r1) h j ak' su' gt' lf' rf' kn' (hn_isNothing r1 f n0) sv ls hI2 hb hc hP hD hS (lv_sub hl [2, 3, 4, 5, 6] rfl)
        · exact absurd c_5 (by decide)
  · exact absurd eT c_1
set_option maxRecDepth 100000 in
set_option maxHeartbeats 4000000 in
theorem case_36 {p : Program} {l : Launch} {e : Env} {s : State} {m : MethodId} {below : List Frame} {meth : Method} {c : Code} (hl0 : l.stackTraces = false) (D : va_G) (cI cB : ClassId) (b L : Nat) (xs : Nat → Int32) (x bx px t bt o bo po q : Nat) (to tt : Nat) (go gu : Nat → Int32) (na nv : Nat) (nf : Nat → Int32) (nb nw : Nat) (nh : Nat → Int32) (ea ew : Nat) (ef : Nat → Int32) (i cc ss : Nat) (hi : i + 6 ≤ L) (hcc : cc + 33 ≤ room_1.cells) (hss : ss + 321 ≤ room_1.slots) (hL : L ≤ 6) (FX : CallFix p m c cL_law 7 s #[.ref b] bigW RL) (hK : va_K D KL (TY cI cB) s) (hX : va_X b L xs s s.heap) (hbl : b < s.heap.size) (hz : zLaw to tt go gu na nv nf nb nw nh ea ew ef (fun q => s.heap.size ≤ q) s s.heap) (hfn : sb_Fit nf) (hfe : sb_Fit ef) (hnn : TL 4 nf nh) (kk : LGo p l e s m below meth c D cI cB b x bx px t bt o bo po q i 2982 (cc + 33) (ss + 321)) : LGo p l e s m below meth c D cI cB b x bx px t bt o bo po q i 2694 cc ss := by
  intro H locs f g ak su gt lf rf kn ml cn bs th h j ak' su' gt' lf' rf' kn' n0 sv ls hI hb hc hP hD hS hl
  have hA : ∀ q : Nat, s.heap.size ≤ q → s.heap.size ≤ q := fun _ h => h
  have hbA : ¬ (fun q : Nat => s.heap.size ≤ q) b := Nat.not_le.mpr hbl
  obtain ⟨r1, ey1⟩ : ∃ y, xs (i + 1) = y := ⟨_, rfl⟩
  have hin1 : i + 1 < L ∧ L < 2 ^ 31 := ⟨by omega, by omega⟩
  have hl : lv_has ls 7 [(4, .int (nI i)), (3, .ref q), (2, .ref o), (1, .ref x), (0, .ref b)] := hl
  have hP : va_P D KL [(x, .inr (2, [.ref bx, .ref px, .ref t, .int ak, .int su, .int gt, .int lf, .int rf, .int kn])), (bx, .inl (cI, 6, .inl f)), (px, .inl (cI, 2, .inl g)), (t, .inr (1, [.ref bt, .int 0, .int ml, .int cn])), (bt, .inl (cB, 16, .inl bs)), (o, .inr (4, [.int th, .ref bo, .ref po, .int ak', .int su', .int gt', .int lf', .int rf', .int kn'])), (bo, .inl (cI, 6, .inl h)), (po, .inl (cI, 2, .inl j)), (q, .inr (3, [.long n0, sv]))] H := hP
  have hD : va_D (fun q => s.heap.size ≤ q) [(x, .inr (2, [.ref bx, .ref px, .ref t, .int ak, .int su, .int gt, .int lf, .int rf, .int kn])), (bx, .inl (cI, 6, .inl f)), (px, .inl (cI, 2, .inl g)), (t, .inr (1, [.ref bt, .int 0, .int ml, .int cn])), (bt, .inl (cB, 16, .inl bs)), (o, .inr (4, [.int th, .ref bo, .ref po, .int ak', .int su', .int gt', .int lf', .int rf', .int kn'])), (bo, .inl (cI, 6, .inl h)), (po, .inl (cI, 2, .inl j)), (q, .inr (3, [.long n0, sv]))] := hD
  refine lv_aload_n FX.1 FX.2.1 dL_law_2694 rfl (lv_at hl 3 rfl) ?_
  refine p_rd (k := 1) (v := r1) FX hX hbl hbA hS (lv_at hl 4 rfl) (lv_at hl 0 rfl) dL_law_2695 dL_law_2696 dL_law_2698 dL_law_2699 dL_law_2700 rfl hin1 ey1 ?_
  refine lv_aload_n FX.1 FX.2.1 dL_law_2701 rfl (lv_at hl 1 rfl) ?_
  refine c_J (W0 := [(x, .inr (2, [.ref bx, .ref px, .ref t, .int ak, .int su, .int gt, .int lf, .int rf, .int kn])), (bx, .inl (cI, 6, .inl f)), (px, .inl (cI, 2, .inl g)), (q, .inr (3, [.long n0, sv]))]) (wr := [(t, .inr (1, [.ref bt, .int 0, .int ml, .int cn])), (bt, .inl (cB, 16, .inl bs)), (o, .inr (4, [.int th, .ref bo, .ref po, .int ak', .int su', .int gt', .int lf', .int rf', .int kn'])), (bo, .inl (cI, 6, .inl h)), (po, .inl (cI, 2, .inl j))]) (wsN := fun _ => [(x, .inr (2, [.ref bx, .ref px, .ref t, .int ak, .int su, .int gt, .int lf, .int rf, .int kn])), (bx, .inl (cI, 6, .inl f)), (px, .inl (cI, 2, .inl g)), (t, .inr (1, [.ref bt, .int 0, .int ml, .int cn])), (bt, .inl (cB, 16, .inl bs)), (o, .inr (4, [.int th, .ref bo, .ref po, .int ak', .int su', .int gt', .int lf', .int rf', .int kn'])), (bo, .inl (cI, 6, .inl h)), (po, .inl (cI, 2, .inl j)), (q, .inr (3, [.long (hn_isSomething r1 f n0), sv]))]) (vx_runSW FX ((j_L_isSomething l hl0 D cI cB x bx px t f g ak su gt lf rf kn q n0 sv r1) H.size) (my_cwSW FX.2.2.2.2 mh_L_isSomething ml_RL_278 (RMok.mk)) ⟨PJ.blind (zAnd_ok (zAnd_ok zz_ok zN_ok) zF_ok), fun U hU hW => ⟨rfl, my_preJ (zAnd_ok (zAnd_ok zz_ok zN_ok) zF_ok) ⟨hz.1.1, hz.1.2.1⟩ hS hA hK hP hD [0, 1, 2, 8] rfl rfl U hU hW⟩⟩ rfl rfl hl.1 rfl (lv_room (Nat.le_of_ble_eq_true rfl)) dL_law_2702 ⟨by omega, by omega⟩) hP hD hS hA [0, 1, 2, 8] rfl [3, 4, 5, 6, 7] rfl (by decide) [5, 6, 7, 0, 1, 2, 3, 4, 8] (fun _ => rfl) rfl (fun u1 H locs hp_1 hP hD hS => ?_)
  have hP : va_P D KL [(x, .inr (2, [.ref bx, .ref px, .ref t, .int ak, .int su, .int gt, .int lf, .int rf, .int kn])), (bx, .inl (cI, 6, .inl f)), (px, .inl (cI, 2, .inl g)), (t, .inr (1, [.ref bt, .int 0, .int ml, .int cn])), (bt, .inl (cB, 16, .inl bs)), (o, .inr (4, [.int th, .ref bo, .ref po, .int ak', .int su', .int gt', .int lf', .int rf', .int kn'])), (bo, .inl (cI, 6, .inl h)), (po, .inl (cI, 2, .inl j)), (q, .inr (3, [.long (hn_isSomething r1 f n0), sv]))] H := hP
  have hD : va_D (fun q => s.heap.size ≤ q) [(x, .inr (2, [.ref bx, .ref px, .ref t, .int ak, .int su, .int gt, .int lf, .int rf, .int kn])), (bx, .inl (cI, 6, .inl f)), (px, .inl (cI, 2, .inl g)), (t, .inr (1, [.ref bt, .int 0, .int ml, .int cn])), (bt, .inl (cB, 16, .inl bs)), (o, .inr (4, [.int th, .ref bo, .ref po, .int ak', .int su', .int gt', .int lf', .int rf', .int kn'])), (bo, .inl (cI, 6, .inl h)), (po, .inl (cI, 2, .inl j)), (q, .inr (3, [.long (hn_isSomething r1 f n0), sv]))] := hD
  refine W.eq (g2 := F0 m 2705 ls [.int (hk_isSomething r1)]) rfl ?_
  refine lv_istore (lv' := [(5, .int (hk_isSomething r1)), (4, .int (nI i)), (3, .ref q), (2, .ref o), (1, .ref x), (0, .ref b)]) FX.1 FX.2.1 dL_law_2705 hl (by decide) rfl (fun ls hl => ?_)
  refine lv_aload_n FX.1 FX.2.1 dL_law_2707 rfl (lv_at hl 3 rfl) ?_
  refine p_rd (k := 1) (v := r1) FX hX hbl hbA hS (lv_at hl 5 rfl) (lv_at hl 1 rfl) dL_law_2708 dL_law_2709 dL_law_2711 dL_law_2712 dL_law_2713 rfl hin1 ey1 ?_
  obtain ⟨eT, eA, hI2⟩ := st_isSomething r1 n0 hI
  refine c_WRV (wr := [(x, .inr (2, [.ref bx, .ref px, .ref t, .int ak, .int su, .int gt, .int lf, .int rf, .int kn])), (bx, .inl (cI, 6, .inl f)), (px, .inl (cI, 2, .inl g)), (t, .inr (1, [.ref bt, .int 0, .int ml, .int cn])), (bt, .inl (cB, 16, .inl bs)), (q, .inr (3, [.long (hn_isSomething r1 f n0), sv]))]) (wsN := [(x, .inr (2, [.ref bx, .ref px, .ref t, .int ak, .int su, .int gt, .int lf, .int rf, .int kn])), (bx, .inl (cI, 6, .inl f)), (px, .inl (cI, 2, .inl g)), (t, .inr (1, [.ref bt, .int 0, .int ml, .int cn])), (bt, .inl (cB, 16, .inl bs)), (o, .inr (4, [.int (wth_X2_isSomething r1), .ref bo, .ref po, .int ak', .int su', .int gt', .int lf', .int rf', .int kn'])), (bo, .inl (cI, 6, .inl h)), (po, .inl (cI, 2, .inl j)), (q, .inr (3, [.long (hn_isSomething r1 f n0), sv]))]) (i0 := 5) (ci := 4) FX (k_X2_isSomething l D cI cB o bo po th h j ak' su' gt' lf' rf' kn' r1) mi_X2_isSomething rfl ml_RL_280 (RMok.mk) hl.1 rfl (Nat.le_of_ble_eq_true rfl) dL_law_2714 ⟨by omega, by omega⟩ hK hP hD hS hA [5, 6, 7] rfl [0, 1, 2, 3, 4, 8] rfl rfl (by decide) [0, 1, 2, 3, 4, 6, 7, 8, 5] rfl rfl rfl rfl rfl (fun H locs hP hD hS => ?_)
  refine lv_istore (lv' := [(6, .int (v_X2_isSomething r1 h)), (5, .int (hk_isSomething r1)), (4, .int (nI i)), (3, .ref q), (2, .ref o), (1, .ref x), (0, .ref b)]) FX.1 FX.2.1 dL_law_2717 hl (by decide) rfl (fun ls hl => ?_)
  refine lv_aload_n FX.1 FX.2.1 dL_law_2719 rfl (lv_at hl 4 rfl) ?_
  refine c_RDV (i0 := 5) (ci := 4) FX (r_X2_thrown l D cI cB o bo po (wth_X2_isSomething r1) h j ak' su' gt' lf' rf' kn') mi_X2_thrown rfl ml_RL_162 (RMok.mk) hl.1 rfl (Nat.le_of_ble_eq_true rfl) dL_law_2720 ⟨by omega, by omega⟩ hK hP [5, 6, 7] rfl rfl rfl rfl ?_
  refine lv_iload FX.1 FX.2.1 dL_law_2723 (lv_at hl 1 rfl) ?_
  refine lv_icmp_eq (tgt := 2730) FX.1 FX.2.1 dL_law_2725 (by decide) (fun c_1 => ?_) (fun c_1 => ?_)
  · refine lv_iload FX.1 FX.2.1 dL_law_2730 (lv_at hl 1 rfl) ?_
    refine lv_if_ne (tgt := 2755) FX.1 FX.2.1 dL_law_2732 (by decide) (fun c_2 => ?_) (fun c_2 => ?_)
    · refine lv_goto (tgt := 2982) FX.1 FX.2.1 dL_law_2755 (by decide) ?_
      refine W.widen (k := cc + 33) (n := ss + 321) (by omega) (by omega) ?_
      exact kk H locs f g ak su gt lf rf kn ml cn bs (wth_X2_isSomething r1) h j ak' su' gt' lf' rf' kn' (hn_isSomething r1 f n0) sv ls hI2 hb hc hP hD hS (lv_sub hl [2, 3, 4, 5, 6] rfl)
    · refine lv_aload_n FX.1 FX.2.1 dL_law_2735 rfl (lv_at hl 3 rfl) ?_
      refine p_getN (ci := 3) (v := .long (hn_isSomething r1 f n0)) FX inX1 hK hP 8 rfl rfl 0 (by decide) hz.1.2.1 rfl dL_law_2736 ?_
      refine lv_iload FX.1 FX.2.1 dL_law_2739 (lv_at hl 0 rfl) ?_
      refine lv_if_eq (tgt := 2748) FX.1 FX.2.1 dL_law_2741 (by decide) (fun c_3 => ?_) (fun c_3 => ?_)
      · refine lv_lconst (v := 0) FX.1 FX.2.1 dL_law_2748 (by decide) ?_
        refine W.eq (g2 := F0 m 2749 ls [.long 0, .long 0]) (by rw [eA c_2, if_pos c_3]) ?_
        refine W.lcmp FX.1 FX.2.1 dL_law_2749 ?_
        refine W.eq (g2 := F0 m 2750 ls [.int 0]) (by rw [lg_self]) ?_
        refine lv_if_eq (tgt := 2755) FX.1 FX.2.1 dL_law_2750 (by decide) (fun c_4 => ?_) (fun c_4 => ?_)
        · refine lv_goto (tgt := 2982) FX.1 FX.2.1 dL_law_2755 (by decide) ?_
          refine W.widen (k := cc + 33) (n := ss + 321) (by omega) (by omega) ?_
          exact kk H locs f g ak su gt lf rf kn ml cn bs (wth_X2_isSomething r1) h j ak' su' gt' lf' rf' kn' (hn_isSomething r1 f n0) sv ls hI2 hb hc hP hD hS (lv_sub hl [2, 3, 4, 5, 6] rfl)
        · exact absurd c_4 (by decide)
      · refine lv_lconst (v := 1) FX.1 FX.2.1 dL_law_2744 (by decide) ?_
        refine lv_goto (tgt := 2749) FX.1 FX.2.1 dL_law_2745 (by decide) ?_
        refine W.eq (g2 := F0 m 2749 ls [.long 1, .long 1]) (by rw [eA c_2, if_neg c_3]) ?_
        refine W.lcmp FX.1 FX.2.1 dL_law_2749 ?_
        refine W.eq (g2 := F0 m 2750 ls [.int 0]) (by rw [lg_self]) ?_
        refine lv_if_eq (tgt := 2755) FX.1 FX.2.1 dL_law_2750 (by decide) (fun c_5 => ?_) (fun c_5 => ?_)
        · refine lv_goto (tgt := 2982) FX.1 FX.2.1 dL_law_2755 (by decide) ?_
          refine W.widen (k := cc + 33) (n := ss + 321) (by omega) (by omega) ?_
          exact kk H locs f g ak su gt lf rf kn ml cn bs (wth_X2_isSomething r1) h j ak' su' gt' lf' rf' kn' (hn_isSomething r1 f n0) sv ls hI2 hb hc hP hD hS (lv_sub hl [2, 3, 4, 5, 6] rfl)
        · exact absurd c_5 (by decide)
  · exact absurd eT c_1
set_option maxRecDepth 100000 in
set_option maxHeartbeats 4000000 in
theorem case_37 {p : Program} {l : Launch} {e : Env} {s : State} {m : MethodId} {below : List Frame} {meth : Method} {c : Code} (hl0 : l.stackTraces = false) (D : va_G) (cI cB : ClassId) (b L : Nat) (xs : Nat → Int32) (x bx px t bt o bo po q : Nat) (to tt : Nat) (go gu : Nat → Int32) (na nv : Nat) (nf : Nat → Int32) (nb nw : Nat) (nh : Nat → Int32) (ea ew : Nat) (ef : Nat → Int32) (i cc ss : Nat) (hi : i + 6 ≤ L) (hcc : cc + 33 ≤ room_1.cells) (hss : ss + 321 ≤ room_1.slots) (hL : L ≤ 6) (FX : CallFix p m c cL_law 7 s #[.ref b] bigW RL) (hK : va_K D KL (TY cI cB) s) (hX : va_X b L xs s s.heap) (hbl : b < s.heap.size) (hz : zLaw to tt go gu na nv nf nb nw nh ea ew ef (fun q => s.heap.size ≤ q) s s.heap) (hfn : sb_Fit nf) (hfe : sb_Fit ef) (hnn : TL 4 nf nh) (kk : LGo p l e s m below meth c D cI cB b x bx px t bt o bo po q i 2982 (cc + 33) (ss + 321)) : LGo p l e s m below meth c D cI cB b x bx px t bt o bo po q i 2758 cc ss := by
  intro H locs f g ak su gt lf rf kn ml cn bs th h j ak' su' gt' lf' rf' kn' n0 sv ls hI hb hc hP hD hS hl
  have hA : ∀ q : Nat, s.heap.size ≤ q → s.heap.size ≤ q := fun _ h => h
  have hbA : ¬ (fun q : Nat => s.heap.size ≤ q) b := Nat.not_le.mpr hbl
  obtain ⟨r1, ey1⟩ : ∃ y, xs (i + 1) = y := ⟨_, rfl⟩
  have hin1 : i + 1 < L ∧ L < 2 ^ 31 := ⟨by omega, by omega⟩
  have hl : lv_has ls 7 [(4, .int (nI i)), (3, .ref q), (2, .ref o), (1, .ref x), (0, .ref b)] := hl
  have hP : va_P D KL [(x, .inr (2, [.ref bx, .ref px, .ref t, .int ak, .int su, .int gt, .int lf, .int rf, .int kn])), (bx, .inl (cI, 6, .inl f)), (px, .inl (cI, 2, .inl g)), (t, .inr (1, [.ref bt, .int 0, .int ml, .int cn])), (bt, .inl (cB, 16, .inl bs)), (o, .inr (4, [.int th, .ref bo, .ref po, .int ak', .int su', .int gt', .int lf', .int rf', .int kn'])), (bo, .inl (cI, 6, .inl h)), (po, .inl (cI, 2, .inl j)), (q, .inr (3, [.long n0, sv]))] H := hP
  have hD : va_D (fun q => s.heap.size ≤ q) [(x, .inr (2, [.ref bx, .ref px, .ref t, .int ak, .int su, .int gt, .int lf, .int rf, .int kn])), (bx, .inl (cI, 6, .inl f)), (px, .inl (cI, 2, .inl g)), (t, .inr (1, [.ref bt, .int 0, .int ml, .int cn])), (bt, .inl (cB, 16, .inl bs)), (o, .inr (4, [.int th, .ref bo, .ref po, .int ak', .int su', .int gt', .int lf', .int rf', .int kn'])), (bo, .inl (cI, 6, .inl h)), (po, .inl (cI, 2, .inl j)), (q, .inr (3, [.long n0, sv]))] := hD
  refine lv_aload_n FX.1 FX.2.1 dL_law_2758 rfl (lv_at hl 3 rfl) ?_
  refine p_rd (k := 1) (v := r1) FX hX hbl hbA hS (lv_at hl 4 rfl) (lv_at hl 0 rfl) dL_law_2759 dL_law_2760 dL_law_2762 dL_law_2763 dL_law_2764 rfl hin1 ey1 ?_
  refine lv_aload_n FX.1 FX.2.1 dL_law_2765 rfl (lv_at hl 1 rfl) ?_
  by_cases hE : e_X0_told r1 = 0
  · obtain ⟨hF, hm9⟩ := told_c hI hE
    rcases hm9 with ⟨hn0, hm⟩ | ⟨hn9, hv⟩
    · refine c_J (W0 := [(x, .inr (2, [.ref bx, .ref px, .ref t, .int ak, .int su, .int gt, .int lf, .int rf, .int kn])), (bx, .inl (cI, 6, .inl f)), (px, .inl (cI, 2, .inl g)), (t, .inr (1, [.ref bt, .int 0, .int ml, .int cn])), (bt, .inl (cB, 16, .inl bs)), (q, .inr (3, [.long n0, sv]))]) (wr := [(o, .inr (4, [.int th, .ref bo, .ref po, .int ak', .int su', .int gt', .int lf', .int rf', .int kn'])), (bo, .inl (cI, 6, .inl h)), (po, .inl (cI, 2, .inl j))]) (wsN := fun u1 => [(x, .inr (2, [.ref bx, .ref px, .ref t, .int ak, .int su, .int gt, .int lf, .int rf, .int kn])), (bx, .inl (cI, 6, .inl f)), (px, .inl (cI, 2, .inl g)), (t, .inr (1, [.ref bt, .int 0, .int u1.1, .int 4])), (bt, .inl (cB, 16, .inl u1.2.1)), (o, .inr (4, [.int th, .ref bo, .ref po, .int ak', .int su', .int gt', .int lf', .int rf', .int kn'])), (bo, .inl (cI, 6, .inl h)), (po, .inl (cI, 2, .inl j)), (q, .inr (3, [.long n0, (.ref u1.2.2.1)])), (u1.2.2.1, .inr (0, [.ref u1.2.2.2.1, .int 0, .int 0, .int 0])), (u1.2.2.2.1, .inl (cB, 4, .inl u1.2.2.2.2))]) (vx_runSW FX ((j_L_told_0 l hl0 D cI cB x bx px t bt f g ak su gt lf rf kn ml cn bs q n0 sv r1 to tt go gu na nv nf hfn hb hc hE hn0) H.size) (my_cwSW FX.2.2.2.2 mh_L_told ml_RL_281 (RMok.mk)) ⟨PJ.blind (zAnd_ok (zAnd_ok (zAnd_ok zz_ok zN_ok) zF_ok) (zAnd_ok zC_ok (zAnd_ok (zAnd_ok zDg_ok zDg_ok) (zAnd_ok zR_ok zS_ok)))), fun U hU hW => ⟨rfl, my_preJ (zAnd_ok (zAnd_ok (zAnd_ok zz_ok zN_ok) zF_ok) (zAnd_ok zC_ok (zAnd_ok (zAnd_ok zDg_ok zDg_ok) (zAnd_ok zR_ok zS_ok)))) ⟨⟨hz.1.1, hz.1.2.2⟩, hz.2.1⟩ hS hA hK hP hD [0, 1, 2, 3, 4, 8] rfl rfl U hU hW⟩⟩ rfl rfl hl.1 rfl (lv_room (Nat.le_of_ble_eq_true rfl)) dL_law_2766 ⟨by omega, by omega⟩) hP hD hS hA [0, 1, 2, 3, 4, 8] rfl [5, 6, 7] rfl (by decide) [3, 4, 5, 6, 7, 0, 1, 2, 8, 9, 10] (fun _ => rfl) rfl (fun u1 H locs hp_1 hP hD hS => ?_)
      have hP : va_P D KL [(x, .inr (2, [.ref bx, .ref px, .ref t, .int ak, .int su, .int gt, .int lf, .int rf, .int kn])), (bx, .inl (cI, 6, .inl f)), (px, .inl (cI, 2, .inl g)), (t, .inr (1, [.ref bt, .int 0, .int u1.1, .int 4])), (bt, .inl (cB, 16, .inl u1.2.1)), (o, .inr (4, [.int th, .ref bo, .ref po, .int ak', .int su', .int gt', .int lf', .int rf', .int kn'])), (bo, .inl (cI, 6, .inl h)), (po, .inl (cI, 2, .inl j)), (q, .inr (3, [.long n0, (.ref u1.2.2.1)])), (u1.2.2.1, .inr (0, [.ref u1.2.2.2.1, .int 0, .int 0, .int 0])), (u1.2.2.2.1, .inl (cB, 4, .inl u1.2.2.2.2))] H := hP
      have hD : va_D (fun q => s.heap.size ≤ q) [(x, .inr (2, [.ref bx, .ref px, .ref t, .int ak, .int su, .int gt, .int lf, .int rf, .int kn])), (bx, .inl (cI, 6, .inl f)), (px, .inl (cI, 2, .inl g)), (t, .inr (1, [.ref bt, .int 0, .int u1.1, .int 4])), (bt, .inl (cB, 16, .inl u1.2.1)), (o, .inr (4, [.int th, .ref bo, .ref po, .int ak', .int su', .int gt', .int lf', .int rf', .int kn'])), (bo, .inl (cI, 6, .inl h)), (po, .inl (cI, 2, .inl j)), (q, .inr (3, [.long n0, (.ref u1.2.2.1)])), (u1.2.2.1, .inr (0, [.ref u1.2.2.2.1, .int 0, .int 0, .int 0])), (u1.2.2.2.1, .inl (cB, 4, .inl u1.2.2.2.2))] := hD
      refine W.eq (g2 := F0 m 2769 ls [.int 0]) rfl ?_
      refine lv_istore (lv' := [(5, .int 0), (4, .int (nI i)), (3, .ref q), (2, .ref o), (1, .ref x), (0, .ref b)]) FX.1 FX.2.1 dL_law_2769 hl (by decide) rfl (fun ls hl => ?_)
      refine lv_aload_n FX.1 FX.2.1 dL_law_2771 rfl (lv_at hl 3 rfl) ?_
      refine p_rd (k := 1) (v := r1) FX hX hbl hbA hS (lv_at hl 5 rfl) (lv_at hl 1 rfl) dL_law_2772 dL_law_2773 dL_law_2775 dL_law_2776 dL_law_2777 rfl hin1 ey1 ?_
      obtain ⟨eT, eA, hI2⟩ := st_told r1 n0 hI
      have eT0 : wth_X2_told r1 = 0 := eT.trans (if_pos hE)
      refine c_J (W0 := [(o, .inr (4, [.int th, .ref bo, .ref po, .int ak', .int su', .int gt', .int lf', .int rf', .int kn'])), (bo, .inl (cI, 6, .inl h)), (po, .inl (cI, 2, .inl j))]) (wr := [(x, .inr (2, [.ref bx, .ref px, .ref t, .int ak, .int su, .int gt, .int lf, .int rf, .int kn])), (bx, .inl (cI, 6, .inl f)), (px, .inl (cI, 2, .inl g)), (t, .inr (1, [.ref bt, .int 0, .int u1.1, .int 4])), (bt, .inl (cB, 16, .inl u1.2.1)), (q, .inr (3, [.long n0, (.ref u1.2.2.1)])), (u1.2.2.1, .inr (0, [.ref u1.2.2.2.1, .int 0, .int 0, .int 0])), (u1.2.2.2.1, .inl (cB, 4, .inl u1.2.2.2.2))]) (wsN := fun _ => [(x, .inr (2, [.ref bx, .ref px, .ref t, .int ak, .int su, .int gt, .int lf, .int rf, .int kn])), (bx, .inl (cI, 6, .inl f)), (px, .inl (cI, 2, .inl g)), (t, .inr (1, [.ref bt, .int 0, .int u1.1, .int 4])), (bt, .inl (cB, 16, .inl u1.2.1)), (o, .inr (4, [.int (wth_X2_told r1), .ref bo, .ref po, .int ak', .int su', .int gt', .int lf', .int rf', .int kn'])), (bo, .inl (cI, 6, .inl h)), (po, .inl (cI, 2, .inl j)), (q, .inr (3, [.long n0, (.ref u1.2.2.1)])), (u1.2.2.1, .inr (0, [.ref u1.2.2.2.1, .int 0, .int 0, .int 0])), (u1.2.2.2.1, .inl (cB, 4, .inl u1.2.2.2.2))]) (va_runV FX ((j_X2_told_0 l D cI cB o bo po th h j ak' su' gt' lf' rf' kn' r1 to tt go gu nb nw nh ea ew ef hF hm) H.size) (my_cwV FX.2.2.2.2 mi_X2_told ml_RL_283 (RMok.mk)) ⟨PJ.blind (zAnd_ok zC_ok (zAnd_ok (zAnd_ok zDg_ok zDg_ok) (zAnd_ok (zAnd_ok zR_ok zS_ok) (zAnd_ok zR_ok zS_ok)))), (my_recv (i0 := 5) (ci := 4) hK hP rfl rfl rfl), fun U hU hW => ⟨rfl, my_preJ (zAnd_ok zC_ok (zAnd_ok (zAnd_ok zDg_ok zDg_ok) (zAnd_ok (zAnd_ok zR_ok zS_ok) (zAnd_ok zR_ok zS_ok)))) hz.2.2 hS hA hK hP hD [5, 6, 7] rfl rfl U hU hW⟩⟩ rfl rfl hl.1 rfl (lv_room (Nat.le_of_ble_eq_true rfl)) dL_law_2778 ⟨by omega, by omega⟩) hP hD hS hA [5, 6, 7] rfl [0, 1, 2, 3, 4, 8, 9, 10] rfl (by decide) [0, 1, 2, 3, 4, 8, 9, 10, 5, 6, 7] (fun _ => rfl) rfl (fun u2 H locs hp_2 hP hD hS => ?_)
      have hP : va_P D KL [(x, .inr (2, [.ref bx, .ref px, .ref t, .int ak, .int su, .int gt, .int lf, .int rf, .int kn])), (bx, .inl (cI, 6, .inl f)), (px, .inl (cI, 2, .inl g)), (t, .inr (1, [.ref bt, .int 0, .int u1.1, .int 4])), (bt, .inl (cB, 16, .inl u1.2.1)), (o, .inr (4, [.int (wth_X2_told r1), .ref bo, .ref po, .int ak', .int su', .int gt', .int lf', .int rf', .int kn'])), (bo, .inl (cI, 6, .inl h)), (po, .inl (cI, 2, .inl j)), (q, .inr (3, [.long n0, (.ref u1.2.2.1)])), (u1.2.2.1, .inr (0, [.ref u1.2.2.2.1, .int 0, .int 0, .int 0])), (u1.2.2.2.1, .inl (cB, 4, .inl u1.2.2.2.2))] H := hP
      have hD : va_D (fun q => s.heap.size ≤ q) [(x, .inr (2, [.ref bx, .ref px, .ref t, .int ak, .int su, .int gt, .int lf, .int rf, .int kn])), (bx, .inl (cI, 6, .inl f)), (px, .inl (cI, 2, .inl g)), (t, .inr (1, [.ref bt, .int 0, .int u1.1, .int 4])), (bt, .inl (cB, 16, .inl u1.2.1)), (o, .inr (4, [.int (wth_X2_told r1), .ref bo, .ref po, .int ak', .int su', .int gt', .int lf', .int rf', .int kn'])), (bo, .inl (cI, 6, .inl h)), (po, .inl (cI, 2, .inl j)), (q, .inr (3, [.long n0, (.ref u1.2.2.1)])), (u1.2.2.1, .inr (0, [.ref u1.2.2.2.1, .int 0, .int 0, .int 0])), (u1.2.2.2.1, .inl (cB, 4, .inl u1.2.2.2.2))] := hD
      refine W.eq (g2 := F0 m 2781 ls [.ref nb]) rfl ?_
      refine lv_astore (lv' := [(6, .ref nb), (5, .int 0), (4, .int (nI i)), (3, .ref q), (2, .ref o), (1, .ref x), (0, .ref b)]) FX.1 FX.2.1 dL_law_2781 hl (by decide) rfl (fun ls hl => ?_)
      refine lv_aload_n FX.1 FX.2.1 dL_law_2783 rfl (lv_at hl 4 rfl) ?_
      refine c_RDV (i0 := 5) (ci := 4) FX (r_X2_thrown l D cI cB o bo po (wth_X2_told r1) h j ak' su' gt' lf' rf' kn') mi_X2_thrown rfl ml_RL_162 (RMok.mk) hl.1 rfl (Nat.le_of_ble_eq_true rfl) dL_law_2784 ⟨by omega, by omega⟩ hK hP [5, 6, 7] rfl rfl rfl rfl ?_
      refine lv_iload FX.1 FX.2.1 dL_law_2787 (lv_at hl 1 rfl) ?_
      refine lv_icmp_eq (tgt := 2794) FX.1 FX.2.1 dL_law_2789 (by decide) (fun c_1 => ?_) (fun c_1 => ?_)
      · refine lv_iload FX.1 FX.2.1 dL_law_2794 (lv_at hl 1 rfl) ?_
        refine lv_if_ne (tgt := 2813) FX.1 FX.2.1 dL_law_2796 (by decide) (fun c_2 => ?_) (fun c_2 => ?_)
        · exact absurd c_2 (by decide)
        · refine lv_aload_n FX.1 FX.2.1 dL_law_2799 rfl (lv_at hl 3 rfl) ?_
          refine p_getN (ci := 3) (v := .ref u1.2.2.1) FX inX1 hK hP 8 rfl rfl 1 (by decide) hz.1.2.2 rfl dL_law_2800 ?_
          refine lv_aload FX.1 FX.2.1 dL_law_2803 (lv_at hl 0 rfl) ?_
          refine c_J (W0 := [(u1.2.2.1, .inr (0, [.ref u1.2.2.2.1, .int 0, .int 0, .int 0])), (u1.2.2.2.1, .inl (cB, 4, .inl u1.2.2.2.2))]) (wr := [(x, .inr (2, [.ref bx, .ref px, .ref t, .int ak, .int su, .int gt, .int lf, .int rf, .int kn])), (bx, .inl (cI, 6, .inl f)), (px, .inl (cI, 2, .inl g)), (t, .inr (1, [.ref bt, .int 0, .int u1.1, .int 4])), (bt, .inl (cB, 16, .inl u1.2.1)), (o, .inr (4, [.int (wth_X2_told r1), .ref bo, .ref po, .int ak', .int su', .int gt', .int lf', .int rf', .int kn'])), (bo, .inl (cI, 6, .inl h)), (po, .inl (cI, 2, .inl j)), (q, .inr (3, [.long n0, (.ref u1.2.2.1)]))]) (wsN := fun _ => [(x, .inr (2, [.ref bx, .ref px, .ref t, .int ak, .int su, .int gt, .int lf, .int rf, .int kn])), (bx, .inl (cI, 6, .inl f)), (px, .inl (cI, 2, .inl g)), (t, .inr (1, [.ref bt, .int 0, .int u1.1, .int 4])), (bt, .inl (cB, 16, .inl u1.2.1)), (o, .inr (4, [.int (wth_X2_told r1), .ref bo, .ref po, .int ak', .int su', .int gt', .int lf', .int rf', .int kn'])), (bo, .inl (cI, 6, .inl h)), (po, .inl (cI, 2, .inl j)), (q, .inr (3, [.long n0, (.ref u1.2.2.1)])), (u1.2.2.1, .inr (0, [.ref u1.2.2.2.1, .int 0, .int 0, .int 0])), (u1.2.2.2.1, .inl (cB, 4, .inl u1.2.2.2.2))]) (va_runV FX ((j_J0_equals_B l D cI cB u1.2.2.1 u1.2.2.2.1 nb nw 4 u1.2.2.2.2 nh (by decide) (fun j hj => (hp_1.2 j hj).trans (hnn j hj))) H.size) (my_cwV FX.2.2.2.2 mi_J0_equals_9ea2d ml_RL_284 (RMok.mk)) ⟨PJ.blind (zAnd_ok zC_ok zS_ok), (my_recv (i0 := 9) (ci := 0) hK hP rfl rfl rfl), fun U hU hW => ⟨rfl, my_preJ (zAnd_ok zC_ok zS_ok) ⟨hz.2.1.1, hz.2.2.2.2.1.2⟩ hS hA hK hP hD [9, 10] rfl rfl U hU hW⟩⟩ rfl rfl hl.1 rfl (lv_room (Nat.le_of_ble_eq_true rfl)) dL_law_2805 ⟨by omega, by omega⟩) hP hD hS hA [9, 10] rfl [0, 1, 2, 3, 4, 5, 6, 7, 8] rfl (by decide) [0, 1, 2, 3, 4, 5, 6, 7, 8, 9, 10] (fun _ => rfl) rfl (fun u3 H locs hp_3 hP hD hS => ?_)
          have hP : va_P D KL [(x, .inr (2, [.ref bx, .ref px, .ref t, .int ak, .int su, .int gt, .int lf, .int rf, .int kn])), (bx, .inl (cI, 6, .inl f)), (px, .inl (cI, 2, .inl g)), (t, .inr (1, [.ref bt, .int 0, .int u1.1, .int 4])), (bt, .inl (cB, 16, .inl u1.2.1)), (o, .inr (4, [.int (wth_X2_told r1), .ref bo, .ref po, .int ak', .int su', .int gt', .int lf', .int rf', .int kn'])), (bo, .inl (cI, 6, .inl h)), (po, .inl (cI, 2, .inl j)), (q, .inr (3, [.long n0, (.ref u1.2.2.1)])), (u1.2.2.1, .inr (0, [.ref u1.2.2.2.1, .int 0, .int 0, .int 0])), (u1.2.2.2.1, .inl (cB, 4, .inl u1.2.2.2.2))] H := hP
          have hD : va_D (fun q => s.heap.size ≤ q) [(x, .inr (2, [.ref bx, .ref px, .ref t, .int ak, .int su, .int gt, .int lf, .int rf, .int kn])), (bx, .inl (cI, 6, .inl f)), (px, .inl (cI, 2, .inl g)), (t, .inr (1, [.ref bt, .int 0, .int u1.1, .int 4])), (bt, .inl (cB, 16, .inl u1.2.1)), (o, .inr (4, [.int (wth_X2_told r1), .ref bo, .ref po, .int ak', .int su', .int gt', .int lf', .int rf', .int kn'])), (bo, .inl (cI, 6, .inl h)), (po, .inl (cI, 2, .inl j)), (q, .inr (3, [.long n0, (.ref u1.2.2.1)])), (u1.2.2.1, .inr (0, [.ref u1.2.2.2.1, .int 0, .int 0, .int 0])), (u1.2.2.2.1, .inl (cB, 4, .inl u1.2.2.2.2))] := hD
          refine W.eq (g2 := F0 m 2808 ls [.int 1]) rfl ?_
          refine lv_if_ne (tgt := 2813) FX.1 FX.2.1 dL_law_2808 (by decide) (fun c_3 => ?_) (fun c_3 => ?_)
          · refine lv_goto (tgt := 2982) FX.1 FX.2.1 dL_law_2813 (by decide) ?_
            refine W.widen (k := cc + 33) (n := ss + 321) (by omega) (by omega) ?_
            exact kk H locs f g ak su gt lf rf kn u1.1 4 u1.2.1 (wth_X2_told r1) h j ak' su' gt' lf' rf' kn' n0 (.ref u1.2.2.1) ls hI2 hp_1.1 (by decide) (hP.sub (ws' := [(x, .inr (2, [.ref bx, .ref px, .ref t, .int ak, .int su, .int gt, .int lf, .int rf, .int kn])), (bx, .inl (cI, 6, .inl f)), (px, .inl (cI, 2, .inl g)), (t, .inr (1, [.ref bt, .int 0, .int u1.1, .int 4])), (bt, .inl (cB, 16, .inl u1.2.1)), (o, .inr (4, [.int (wth_X2_told r1), .ref bo, .ref po, .int ak', .int su', .int gt', .int lf', .int rf', .int kn'])), (bo, .inl (cI, 6, .inl h)), (po, .inl (cI, 2, .inl j)), (q, .inr (3, [.long n0, (.ref u1.2.2.1)]))]) [0, 1, 2, 3, 4, 5, 6, 7, 8] rfl) (hD.sub (ws' := [(x, .inr (2, [.ref bx, .ref px, .ref t, .int ak, .int su, .int gt, .int lf, .int rf, .int kn])), (bx, .inl (cI, 6, .inl f)), (px, .inl (cI, 2, .inl g)), (t, .inr (1, [.ref bt, .int 0, .int u1.1, .int 4])), (bt, .inl (cB, 16, .inl u1.2.1)), (o, .inr (4, [.int (wth_X2_told r1), .ref bo, .ref po, .int ak', .int su', .int gt', .int lf', .int rf', .int kn'])), (bo, .inl (cI, 6, .inl h)), (po, .inl (cI, 2, .inl j)), (q, .inr (3, [.long n0, (.ref u1.2.2.1)]))]) [0, 1, 2, 3, 4, 5, 6, 7, 8] (by decide) rfl) hS (lv_sub hl [2, 3, 4, 5, 6] rfl)
          · exact absurd c_3 (by decide)
      · exact absurd eT0 c_1
    · obtain ⟨k, hk1, hk, ek⟩ := size_in hv
      refine c_J (W0 := [(x, .inr (2, [.ref bx, .ref px, .ref t, .int ak, .int su, .int gt, .int lf, .int rf, .int kn])), (bx, .inl (cI, 6, .inl f)), (px, .inl (cI, 2, .inl g)), (t, .inr (1, [.ref bt, .int 0, .int ml, .int cn])), (bt, .inl (cB, 16, .inl bs)), (q, .inr (3, [.long n0, sv]))]) (wr := [(o, .inr (4, [.int th, .ref bo, .ref po, .int ak', .int su', .int gt', .int lf', .int rf', .int kn'])), (bo, .inl (cI, 6, .inl h)), (po, .inl (cI, 2, .inl j))]) (wsN := fun u4 => [(x, .inr (2, [.ref bx, .ref px, .ref t, .int ak, .int su, .int gt, .int lf, .int rf, .int kn])), (bx, .inl (cI, 6, .inl f)), (px, .inl (cI, 2, .inl g)), (t, .inr (1, [.ref bt, .int 0, .int u4.1, .int (nI k)])), (bt, .inl (cB, 16, .inl u4.2.1)), (o, .inr (4, [.int th, .ref bo, .ref po, .int ak', .int su', .int gt', .int lf', .int rf', .int kn'])), (bo, .inl (cI, 6, .inl h)), (po, .inl (cI, 2, .inl j)), (q, .inr (3, [.long n0, (.ref u4.2.2.1)])), (u4.2.2.1, .inr (0, [.ref u4.2.2.2.1, .int 0, .int 0, .int 0])), (u4.2.2.2.1, .inl (cB, k, .inl u4.2.2.2.2))]) (vx_runSW FX ((j_L_told_1 l hl0 D cI cB x bx px t bt f g ak su gt lf rf kn ml cn bs q n0 sv r1 k to tt go gu na nv nf hfn hb hc hE (by rw [hn9]; exact hv) hk (by rw [hn9]; exact ek)) H.size) (my_cwSW FX.2.2.2.2 mh_L_told ml_RL_281 (RMok.mk)) ⟨PJ.blind (zAnd_ok (zAnd_ok (zAnd_ok zz_ok zN_ok) zF_ok) (zAnd_ok zC_ok (zAnd_ok (zAnd_ok zDg_ok zDg_ok) (zAnd_ok zR_ok zS_ok)))), fun U hU hW => ⟨rfl, my_preJ (zAnd_ok (zAnd_ok (zAnd_ok zz_ok zN_ok) zF_ok) (zAnd_ok zC_ok (zAnd_ok (zAnd_ok zDg_ok zDg_ok) (zAnd_ok zR_ok zS_ok)))) ⟨⟨hz.1.1, hz.1.2.2⟩, hz.2.1⟩ hS hA hK hP hD [0, 1, 2, 3, 4, 8] rfl rfl U hU hW⟩⟩ rfl rfl hl.1 rfl (lv_room (Nat.le_of_ble_eq_true rfl)) dL_law_2766 ⟨by omega, by omega⟩) hP hD hS hA [0, 1, 2, 3, 4, 8] rfl [5, 6, 7] rfl (by decide) [3, 4, 5, 6, 7, 0, 1, 2, 8, 9, 10] (fun _ => rfl) rfl (fun u4 H locs hp_4 hP hD hS => ?_)
      have hP : va_P D KL [(x, .inr (2, [.ref bx, .ref px, .ref t, .int ak, .int su, .int gt, .int lf, .int rf, .int kn])), (bx, .inl (cI, 6, .inl f)), (px, .inl (cI, 2, .inl g)), (t, .inr (1, [.ref bt, .int 0, .int u4.1, .int (nI k)])), (bt, .inl (cB, 16, .inl u4.2.1)), (o, .inr (4, [.int th, .ref bo, .ref po, .int ak', .int su', .int gt', .int lf', .int rf', .int kn'])), (bo, .inl (cI, 6, .inl h)), (po, .inl (cI, 2, .inl j)), (q, .inr (3, [.long n0, (.ref u4.2.2.1)])), (u4.2.2.1, .inr (0, [.ref u4.2.2.2.1, .int 0, .int 0, .int 0])), (u4.2.2.2.1, .inl (cB, k, .inl u4.2.2.2.2))] H := hP
      have hD : va_D (fun q => s.heap.size ≤ q) [(x, .inr (2, [.ref bx, .ref px, .ref t, .int ak, .int su, .int gt, .int lf, .int rf, .int kn])), (bx, .inl (cI, 6, .inl f)), (px, .inl (cI, 2, .inl g)), (t, .inr (1, [.ref bt, .int 0, .int u4.1, .int (nI k)])), (bt, .inl (cB, 16, .inl u4.2.1)), (o, .inr (4, [.int th, .ref bo, .ref po, .int ak', .int su', .int gt', .int lf', .int rf', .int kn'])), (bo, .inl (cI, 6, .inl h)), (po, .inl (cI, 2, .inl j)), (q, .inr (3, [.long n0, (.ref u4.2.2.1)])), (u4.2.2.1, .inr (0, [.ref u4.2.2.2.1, .int 0, .int 0, .int 0])), (u4.2.2.2.1, .inl (cB, k, .inl u4.2.2.2.2))] := hD
      refine W.eq (g2 := F0 m 2769 ls [.int 0]) rfl ?_
      refine lv_istore (lv' := [(5, .int 0), (4, .int (nI i)), (3, .ref q), (2, .ref o), (1, .ref x), (0, .ref b)]) FX.1 FX.2.1 dL_law_2769 hl (by decide) rfl (fun ls hl => ?_)
      refine lv_aload_n FX.1 FX.2.1 dL_law_2771 rfl (lv_at hl 3 rfl) ?_
      refine p_rd (k := 1) (v := r1) FX hX hbl hbA hS (lv_at hl 5 rfl) (lv_at hl 1 rfl) dL_law_2772 dL_law_2773 dL_law_2775 dL_law_2776 dL_law_2777 rfl hin1 ey1 ?_
      obtain ⟨eT, eA, hI2⟩ := st_told r1 n0 hI
      have eT0 : wth_X2_told r1 = 0 := eT.trans (if_pos hE)
      refine c_J (W0 := [(o, .inr (4, [.int th, .ref bo, .ref po, .int ak', .int su', .int gt', .int lf', .int rf', .int kn'])), (bo, .inl (cI, 6, .inl h)), (po, .inl (cI, 2, .inl j))]) (wr := [(x, .inr (2, [.ref bx, .ref px, .ref t, .int ak, .int su, .int gt, .int lf, .int rf, .int kn])), (bx, .inl (cI, 6, .inl f)), (px, .inl (cI, 2, .inl g)), (t, .inr (1, [.ref bt, .int 0, .int u4.1, .int (nI k)])), (bt, .inl (cB, 16, .inl u4.2.1)), (q, .inr (3, [.long n0, (.ref u4.2.2.1)])), (u4.2.2.1, .inr (0, [.ref u4.2.2.2.1, .int 0, .int 0, .int 0])), (u4.2.2.2.1, .inl (cB, k, .inl u4.2.2.2.2))]) (wsN := fun u5 => [(x, .inr (2, [.ref bx, .ref px, .ref t, .int ak, .int su, .int gt, .int lf, .int rf, .int kn])), (bx, .inl (cI, 6, .inl f)), (px, .inl (cI, 2, .inl g)), (t, .inr (1, [.ref bt, .int 0, .int u4.1, .int (nI k)])), (bt, .inl (cB, 16, .inl u4.2.1)), (o, .inr (4, [.int (wth_X2_told r1), .ref bo, .ref po, .int ak', .int su', .int gt', .int lf', .int rf', .int kn'])), (bo, .inl (cI, 6, .inl h)), (po, .inl (cI, 2, .inl j)), (q, .inr (3, [.long n0, (.ref u4.2.2.1)])), (u4.2.2.1, .inr (0, [.ref u4.2.2.2.1, .int 0, .int 0, .int 0])), (u4.2.2.2.1, .inl (cB, k, .inl u4.2.2.2.2)), (u5.1, .inr (0, [.ref u5.2.1, .int 0, .int 0, .int 0])), (u5.2.1, .inl (cB, k, .inl u5.2.2))]) (va_runV FX ((j_X2_told_1 l D cI cB o bo po th h j ak' su' gt' lf' rf' kn' r1 k to tt go gu nb nw nh ea ew ef hF hv hk ek hfe) H.size) (my_cwV FX.2.2.2.2 mi_X2_told ml_RL_283 (RMok.mk)) ⟨PJ.blind (zAnd_ok zC_ok (zAnd_ok (zAnd_ok zDg_ok zDg_ok) (zAnd_ok (zAnd_ok zR_ok zS_ok) (zAnd_ok zR_ok zS_ok)))), (my_recv (i0 := 5) (ci := 4) hK hP rfl rfl rfl), fun U hU hW => ⟨rfl, my_preJ (zAnd_ok zC_ok (zAnd_ok (zAnd_ok zDg_ok zDg_ok) (zAnd_ok (zAnd_ok zR_ok zS_ok) (zAnd_ok zR_ok zS_ok)))) hz.2.2 hS hA hK hP hD [5, 6, 7] rfl rfl U hU hW⟩⟩ rfl rfl hl.1 rfl (lv_room (Nat.le_of_ble_eq_true rfl)) dL_law_2778 ⟨by omega, by omega⟩) hP hD hS hA [5, 6, 7] rfl [0, 1, 2, 3, 4, 8, 9, 10] rfl (by decide) [0, 1, 2, 3, 4, 8, 9, 10, 5, 6, 7, 11, 12] (fun _ => rfl) rfl (fun u5 H locs hp_5 hP hD hS => ?_)
      have hP : va_P D KL [(x, .inr (2, [.ref bx, .ref px, .ref t, .int ak, .int su, .int gt, .int lf, .int rf, .int kn])), (bx, .inl (cI, 6, .inl f)), (px, .inl (cI, 2, .inl g)), (t, .inr (1, [.ref bt, .int 0, .int u4.1, .int (nI k)])), (bt, .inl (cB, 16, .inl u4.2.1)), (o, .inr (4, [.int (wth_X2_told r1), .ref bo, .ref po, .int ak', .int su', .int gt', .int lf', .int rf', .int kn'])), (bo, .inl (cI, 6, .inl h)), (po, .inl (cI, 2, .inl j)), (q, .inr (3, [.long n0, (.ref u4.2.2.1)])), (u4.2.2.1, .inr (0, [.ref u4.2.2.2.1, .int 0, .int 0, .int 0])), (u4.2.2.2.1, .inl (cB, k, .inl u4.2.2.2.2)), (u5.1, .inr (0, [.ref u5.2.1, .int 0, .int 0, .int 0])), (u5.2.1, .inl (cB, k, .inl u5.2.2))] H := hP
      have hD : va_D (fun q => s.heap.size ≤ q) [(x, .inr (2, [.ref bx, .ref px, .ref t, .int ak, .int su, .int gt, .int lf, .int rf, .int kn])), (bx, .inl (cI, 6, .inl f)), (px, .inl (cI, 2, .inl g)), (t, .inr (1, [.ref bt, .int 0, .int u4.1, .int (nI k)])), (bt, .inl (cB, 16, .inl u4.2.1)), (o, .inr (4, [.int (wth_X2_told r1), .ref bo, .ref po, .int ak', .int su', .int gt', .int lf', .int rf', .int kn'])), (bo, .inl (cI, 6, .inl h)), (po, .inl (cI, 2, .inl j)), (q, .inr (3, [.long n0, (.ref u4.2.2.1)])), (u4.2.2.1, .inr (0, [.ref u4.2.2.2.1, .int 0, .int 0, .int 0])), (u4.2.2.2.1, .inl (cB, k, .inl u4.2.2.2.2)), (u5.1, .inr (0, [.ref u5.2.1, .int 0, .int 0, .int 0])), (u5.2.1, .inl (cB, k, .inl u5.2.2))] := hD
      refine W.eq (g2 := F0 m 2781 ls [.ref u5.1]) rfl ?_
      refine lv_astore (lv' := [(6, .ref u5.1), (5, .int 0), (4, .int (nI i)), (3, .ref q), (2, .ref o), (1, .ref x), (0, .ref b)]) FX.1 FX.2.1 dL_law_2781 hl (by decide) rfl (fun ls hl => ?_)
      refine lv_aload_n FX.1 FX.2.1 dL_law_2783 rfl (lv_at hl 4 rfl) ?_
      refine c_RDV (i0 := 5) (ci := 4) FX (r_X2_thrown l D cI cB o bo po (wth_X2_told r1) h j ak' su' gt' lf' rf' kn') mi_X2_thrown rfl ml_RL_162 (RMok.mk) hl.1 rfl (Nat.le_of_ble_eq_true rfl) dL_law_2784 ⟨by omega, by omega⟩ hK hP [5, 6, 7] rfl rfl rfl rfl ?_
      refine lv_iload FX.1 FX.2.1 dL_law_2787 (lv_at hl 1 rfl) ?_
      refine lv_icmp_eq (tgt := 2794) FX.1 FX.2.1 dL_law_2789 (by decide) (fun c_4 => ?_) (fun c_4 => ?_)
      · refine lv_iload FX.1 FX.2.1 dL_law_2794 (lv_at hl 1 rfl) ?_
        refine lv_if_ne (tgt := 2813) FX.1 FX.2.1 dL_law_2796 (by decide) (fun c_5 => ?_) (fun c_5 => ?_)
        · exact absurd c_5 (by decide)
        · refine lv_aload_n FX.1 FX.2.1 dL_law_2799 rfl (lv_at hl 3 rfl) ?_
          refine p_getN (ci := 3) (v := .ref u4.2.2.1) FX inX1 hK hP 8 rfl rfl 1 (by decide) hz.1.2.2 rfl dL_law_2800 ?_
          refine lv_aload FX.1 FX.2.1 dL_law_2803 (lv_at hl 0 rfl) ?_
          refine c_J (W0 := [(u4.2.2.1, .inr (0, [.ref u4.2.2.2.1, .int 0, .int 0, .int 0])), (u4.2.2.2.1, .inl (cB, k, .inl u4.2.2.2.2)), (u5.1, .inr (0, [.ref u5.2.1, .int 0, .int 0, .int 0])), (u5.2.1, .inl (cB, k, .inl u5.2.2))]) (wr := [(x, .inr (2, [.ref bx, .ref px, .ref t, .int ak, .int su, .int gt, .int lf, .int rf, .int kn])), (bx, .inl (cI, 6, .inl f)), (px, .inl (cI, 2, .inl g)), (t, .inr (1, [.ref bt, .int 0, .int u4.1, .int (nI k)])), (bt, .inl (cB, 16, .inl u4.2.1)), (o, .inr (4, [.int (wth_X2_told r1), .ref bo, .ref po, .int ak', .int su', .int gt', .int lf', .int rf', .int kn'])), (bo, .inl (cI, 6, .inl h)), (po, .inl (cI, 2, .inl j)), (q, .inr (3, [.long n0, (.ref u4.2.2.1)]))]) (wsN := fun _ => [(x, .inr (2, [.ref bx, .ref px, .ref t, .int ak, .int su, .int gt, .int lf, .int rf, .int kn])), (bx, .inl (cI, 6, .inl f)), (px, .inl (cI, 2, .inl g)), (t, .inr (1, [.ref bt, .int 0, .int u4.1, .int (nI k)])), (bt, .inl (cB, 16, .inl u4.2.1)), (o, .inr (4, [.int (wth_X2_told r1), .ref bo, .ref po, .int ak', .int su', .int gt', .int lf', .int rf', .int kn'])), (bo, .inl (cI, 6, .inl h)), (po, .inl (cI, 2, .inl j)), (q, .inr (3, [.long n0, (.ref u4.2.2.1)])), (u4.2.2.1, .inr (0, [.ref u4.2.2.2.1, .int 0, .int 0, .int 0])), (u4.2.2.2.1, .inl (cB, k, .inl u4.2.2.2.2)), (u5.1, .inr (0, [.ref u5.2.1, .int 0, .int 0, .int 0])), (u5.2.1, .inl (cB, k, .inl u5.2.2))]) (va_runV FX ((j_J0_equals_A l D cI cB u4.2.2.1 u4.2.2.2.1 u5.1 u5.2.1 k u4.2.2.2.2 u5.2.2 hk (fun j hj => (hp_4.2 j hj).trans ((congrArg (fun z => tc z go gu j) hn9).trans (hp_5 j hj).symm))) H.size) (my_cwV FX.2.2.2.2 mi_J0_equals_9ea2d ml_RL_284 (RMok.mk)) ⟨PJ.blind zC_ok, (my_recv (i0 := 9) (ci := 0) hK hP rfl rfl rfl), fun U hU hW => ⟨rfl, my_preJ zC_ok hz.2.1.1 hS hA hK hP hD [9, 10, 11, 12] rfl rfl U hU hW⟩⟩ rfl rfl hl.1 rfl (lv_room (Nat.le_of_ble_eq_true rfl)) dL_law_2805 ⟨by omega, by omega⟩) hP hD hS hA [9, 10, 11, 12] rfl [0, 1, 2, 3, 4, 5, 6, 7, 8] rfl (by decide) [0, 1, 2, 3, 4, 5, 6, 7, 8, 9, 10, 11, 12] (fun _ => rfl) rfl (fun u6 H locs hp_6 hP hD hS => ?_)
          have hP : va_P D KL [(x, .inr (2, [.ref bx, .ref px, .ref t, .int ak, .int su, .int gt, .int lf, .int rf, .int kn])), (bx, .inl (cI, 6, .inl f)), (px, .inl (cI, 2, .inl g)), (t, .inr (1, [.ref bt, .int 0, .int u4.1, .int (nI k)])), (bt, .inl (cB, 16, .inl u4.2.1)), (o, .inr (4, [.int (wth_X2_told r1), .ref bo, .ref po, .int ak', .int su', .int gt', .int lf', .int rf', .int kn'])), (bo, .inl (cI, 6, .inl h)), (po, .inl (cI, 2, .inl j)), (q, .inr (3, [.long n0, (.ref u4.2.2.1)])), (u4.2.2.1, .inr (0, [.ref u4.2.2.2.1, .int 0, .int 0, .int 0])), (u4.2.2.2.1, .inl (cB, k, .inl u4.2.2.2.2)), (u5.1, .inr (0, [.ref u5.2.1, .int 0, .int 0, .int 0])), (u5.2.1, .inl (cB, k, .inl u5.2.2))] H := hP
          have hD : va_D (fun q => s.heap.size ≤ q) [(x, .inr (2, [.ref bx, .ref px, .ref t, .int ak, .int su, .int gt, .int lf, .int rf, .int kn])), (bx, .inl (cI, 6, .inl f)), (px, .inl (cI, 2, .inl g)), (t, .inr (1, [.ref bt, .int 0, .int u4.1, .int (nI k)])), (bt, .inl (cB, 16, .inl u4.2.1)), (o, .inr (4, [.int (wth_X2_told r1), .ref bo, .ref po, .int ak', .int su', .int gt', .int lf', .int rf', .int kn'])), (bo, .inl (cI, 6, .inl h)), (po, .inl (cI, 2, .inl j)), (q, .inr (3, [.long n0, (.ref u4.2.2.1)])), (u4.2.2.1, .inr (0, [.ref u4.2.2.2.1, .int 0, .int 0, .int 0])), (u4.2.2.2.1, .inl (cB, k, .inl u4.2.2.2.2)), (u5.1, .inr (0, [.ref u5.2.1, .int 0, .int 0, .int 0])), (u5.2.1, .inl (cB, k, .inl u5.2.2))] := hD
          refine W.eq (g2 := F0 m 2808 ls [.int 1]) rfl ?_
          refine lv_if_ne (tgt := 2813) FX.1 FX.2.1 dL_law_2808 (by decide) (fun c_6 => ?_) (fun c_6 => ?_)
          · refine lv_goto (tgt := 2982) FX.1 FX.2.1 dL_law_2813 (by decide) ?_
            refine W.widen (k := cc + 33) (n := ss + 321) (by omega) (by omega) ?_
            exact kk H locs f g ak su gt lf rf kn u4.1 (nI k) u4.2.1 (wth_X2_told r1) h j ak' su' gt' lf' rf' kn' n0 (.ref u4.2.2.1) ls hI2 hp_4.1 (nk0 hk) (hP.sub (ws' := [(x, .inr (2, [.ref bx, .ref px, .ref t, .int ak, .int su, .int gt, .int lf, .int rf, .int kn])), (bx, .inl (cI, 6, .inl f)), (px, .inl (cI, 2, .inl g)), (t, .inr (1, [.ref bt, .int 0, .int u4.1, .int (nI k)])), (bt, .inl (cB, 16, .inl u4.2.1)), (o, .inr (4, [.int (wth_X2_told r1), .ref bo, .ref po, .int ak', .int su', .int gt', .int lf', .int rf', .int kn'])), (bo, .inl (cI, 6, .inl h)), (po, .inl (cI, 2, .inl j)), (q, .inr (3, [.long n0, (.ref u4.2.2.1)]))]) [0, 1, 2, 3, 4, 5, 6, 7, 8] rfl) (hD.sub (ws' := [(x, .inr (2, [.ref bx, .ref px, .ref t, .int ak, .int su, .int gt, .int lf, .int rf, .int kn])), (bx, .inl (cI, 6, .inl f)), (px, .inl (cI, 2, .inl g)), (t, .inr (1, [.ref bt, .int 0, .int u4.1, .int (nI k)])), (bt, .inl (cB, 16, .inl u4.2.1)), (o, .inr (4, [.int (wth_X2_told r1), .ref bo, .ref po, .int ak', .int su', .int gt', .int lf', .int rf', .int kn'])), (bo, .inl (cI, 6, .inl h)), (po, .inl (cI, 2, .inl j)), (q, .inr (3, [.long n0, (.ref u4.2.2.1)]))]) [0, 1, 2, 3, 4, 5, 6, 7, 8] (by decide) rfl) hS (lv_sub hl [2, 3, 4, 5, 6] rfl)
          · exact absurd c_6 (by decide)
      · exact absurd eT0 c_4
  · have hF := told_x hE
    refine c_J (W0 := [(x, .inr (2, [.ref bx, .ref px, .ref t, .int ak, .int su, .int gt, .int lf, .int rf, .int kn])), (bx, .inl (cI, 6, .inl f)), (px, .inl (cI, 2, .inl g)), (t, .inr (1, [.ref bt, .int 0, .int ml, .int cn])), (bt, .inl (cB, 16, .inl bs)), (q, .inr (3, [.long n0, sv]))]) (wr := [(o, .inr (4, [.int th, .ref bo, .ref po, .int ak', .int su', .int gt', .int lf', .int rf', .int kn'])), (bo, .inl (cI, 6, .inl h)), (po, .inl (cI, 2, .inl j))]) (wsN := fun _ => [(x, .inr (2, [.ref bx, .ref px, .ref t, .int ak, .int su, .int gt, .int lf, .int rf, .int kn])), (bx, .inl (cI, 6, .inl f)), (px, .inl (cI, 2, .inl g)), (t, .inr (1, [.ref bt, .int 0, .int ml, .int cn])), (bt, .inl (cB, 16, .inl bs)), (o, .inr (4, [.int th, .ref bo, .ref po, .int ak', .int su', .int gt', .int lf', .int rf', .int kn'])), (bo, .inl (cI, 6, .inl h)), (po, .inl (cI, 2, .inl j)), (q, .inr (3, [.long n0, sv]))]) (vx_runSW FX ((j_L_told_x l hl0 D cI cB x bx px t bt f g ak su gt lf rf kn ml cn bs q n0 sv r1 to tt go gu na nv nf hE) H.size) (my_cwSW FX.2.2.2.2 mh_L_told ml_RL_281 (RMok.mk)) ⟨PJ.blind (zAnd_ok (zAnd_ok (zAnd_ok zz_ok zN_ok) zF_ok) (zAnd_ok zC_ok (zAnd_ok (zAnd_ok zDg_ok zDg_ok) (zAnd_ok zR_ok zS_ok)))), fun U hU hW => ⟨rfl, my_preJ (zAnd_ok (zAnd_ok (zAnd_ok zz_ok zN_ok) zF_ok) (zAnd_ok zC_ok (zAnd_ok (zAnd_ok zDg_ok zDg_ok) (zAnd_ok zR_ok zS_ok)))) ⟨⟨hz.1.1, hz.1.2.2⟩, hz.2.1⟩ hS hA hK hP hD [0, 1, 2, 3, 4, 8] rfl rfl U hU hW⟩⟩ rfl rfl hl.1 rfl (lv_room (Nat.le_of_ble_eq_true rfl)) dL_law_2766 ⟨by omega, by omega⟩) hP hD hS hA [0, 1, 2, 3, 4, 8] rfl [5, 6, 7] rfl (by decide) [3, 4, 5, 6, 7, 0, 1, 2, 8] (fun _ => rfl) rfl (fun u7 H locs hp_7 hP hD hS => ?_)
    have hP : va_P D KL [(x, .inr (2, [.ref bx, .ref px, .ref t, .int ak, .int su, .int gt, .int lf, .int rf, .int kn])), (bx, .inl (cI, 6, .inl f)), (px, .inl (cI, 2, .inl g)), (t, .inr (1, [.ref bt, .int 0, .int ml, .int cn])), (bt, .inl (cB, 16, .inl bs)), (o, .inr (4, [.int th, .ref bo, .ref po, .int ak', .int su', .int gt', .int lf', .int rf', .int kn'])), (bo, .inl (cI, 6, .inl h)), (po, .inl (cI, 2, .inl j)), (q, .inr (3, [.long n0, sv]))] H := hP
    have hD : va_D (fun q => s.heap.size ≤ q) [(x, .inr (2, [.ref bx, .ref px, .ref t, .int ak, .int su, .int gt, .int lf, .int rf, .int kn])), (bx, .inl (cI, 6, .inl f)), (px, .inl (cI, 2, .inl g)), (t, .inr (1, [.ref bt, .int 0, .int ml, .int cn])), (bt, .inl (cB, 16, .inl bs)), (o, .inr (4, [.int th, .ref bo, .ref po, .int ak', .int su', .int gt', .int lf', .int rf', .int kn'])), (bo, .inl (cI, 6, .inl h)), (po, .inl (cI, 2, .inl j)), (q, .inr (3, [.long n0, sv]))] := hD
    refine W.eq (g2 := F0 m 2769 ls [.int 1]) rfl ?_
    refine lv_istore (lv' := [(5, .int 1), (4, .int (nI i)), (3, .ref q), (2, .ref o), (1, .ref x), (0, .ref b)]) FX.1 FX.2.1 dL_law_2769 hl (by decide) rfl (fun ls hl => ?_)
    refine lv_aload_n FX.1 FX.2.1 dL_law_2771 rfl (lv_at hl 3 rfl) ?_
    refine p_rd (k := 1) (v := r1) FX hX hbl hbA hS (lv_at hl 5 rfl) (lv_at hl 1 rfl) dL_law_2772 dL_law_2773 dL_law_2775 dL_law_2776 dL_law_2777 rfl hin1 ey1 ?_
    obtain ⟨eT, eA, hI2⟩ := st_told r1 n0 hI
    have eT0 : wth_X2_told r1 = 1 := eT.trans (if_neg hE)
    refine c_J (W0 := [(o, .inr (4, [.int th, .ref bo, .ref po, .int ak', .int su', .int gt', .int lf', .int rf', .int kn'])), (bo, .inl (cI, 6, .inl h)), (po, .inl (cI, 2, .inl j))]) (wr := [(x, .inr (2, [.ref bx, .ref px, .ref t, .int ak, .int su, .int gt, .int lf, .int rf, .int kn])), (bx, .inl (cI, 6, .inl f)), (px, .inl (cI, 2, .inl g)), (t, .inr (1, [.ref bt, .int 0, .int ml, .int cn])), (bt, .inl (cB, 16, .inl bs)), (q, .inr (3, [.long n0, sv]))]) (wsN := fun _ => [(x, .inr (2, [.ref bx, .ref px, .ref t, .int ak, .int su, .int gt, .int lf, .int rf, .int kn])), (bx, .inl (cI, 6, .inl f)), (px, .inl (cI, 2, .inl g)), (t, .inr (1, [.ref bt, .int 0, .int ml, .int cn])), (bt, .inl (cB, 16, .inl bs)), (o, .inr (4, [.int (wth_X2_told r1), .ref bo, .ref po, .int ak', .int su', .int gt', .int lf', .int rf', .int kn'])), (bo, .inl (cI, 6, .inl h)), (po, .inl (cI, 2, .inl j)), (q, .inr (3, [.long n0, sv]))]) (va_runV FX ((j_X2_told_f l D cI cB o bo po th h j ak' su' gt' lf' rf' kn' r1 to tt go gu nb nw nh ea ew ef hF) H.size) (my_cwV FX.2.2.2.2 mi_X2_told ml_RL_283 (RMok.mk)) ⟨PJ.blind (zAnd_ok zC_ok (zAnd_ok (zAnd_ok zDg_ok zDg_ok) (zAnd_ok (zAnd_ok zR_ok zS_ok) (zAnd_ok zR_ok zS_ok)))), (my_recv (i0 := 5) (ci := 4) hK hP rfl rfl rfl), fun U hU hW => ⟨rfl, my_preJ (zAnd_ok zC_ok (zAnd_ok (zAnd_ok zDg_ok zDg_ok) (zAnd_ok (zAnd_ok zR_ok zS_ok) (zAnd_ok zR_ok zS_ok)))) hz.2.2 hS hA hK hP hD [5, 6, 7] rfl rfl U hU hW⟩⟩ rfl rfl hl.1 rfl (lv_room (Nat.le_of_ble_eq_true rfl)) dL_law_2778 ⟨by omega, by omega⟩) hP hD hS hA [5, 6, 7] rfl [0, 1, 2, 3, 4, 8] rfl (by decide) [0, 1, 2, 3, 4, 6, 7, 8, 5] (fun _ => rfl) rfl (fun u8 H locs hp_8 hP hD hS => ?_)
    have hP : va_P D KL [(x, .inr (2, [.ref bx, .ref px, .ref t, .int ak, .int su, .int gt, .int lf, .int rf, .int kn])), (bx, .inl (cI, 6, .inl f)), (px, .inl (cI, 2, .inl g)), (t, .inr (1, [.ref bt, .int 0, .int ml, .int cn])), (bt, .inl (cB, 16, .inl bs)), (o, .inr (4, [.int (wth_X2_told r1), .ref bo, .ref po, .int ak', .int su', .int gt', .int lf', .int rf', .int kn'])), (bo, .inl (cI, 6, .inl h)), (po, .inl (cI, 2, .inl j)), (q, .inr (3, [.long n0, sv]))] H := hP
    have hD : va_D (fun q => s.heap.size ≤ q) [(x, .inr (2, [.ref bx, .ref px, .ref t, .int ak, .int su, .int gt, .int lf, .int rf, .int kn])), (bx, .inl (cI, 6, .inl f)), (px, .inl (cI, 2, .inl g)), (t, .inr (1, [.ref bt, .int 0, .int ml, .int cn])), (bt, .inl (cB, 16, .inl bs)), (o, .inr (4, [.int (wth_X2_told r1), .ref bo, .ref po, .int ak', .int su', .int gt', .int lf', .int rf', .int kn'])), (bo, .inl (cI, 6, .inl h)), (po, .inl (cI, 2, .inl j)), (q, .inr (3, [.long n0, sv]))] := hD
    refine W.eq (g2 := F0 m 2781 ls [.ref ea]) rfl ?_
    refine lv_astore (lv' := [(6, .ref ea), (5, .int 1), (4, .int (nI i)), (3, .ref q), (2, .ref o), (1, .ref x), (0, .ref b)]) FX.1 FX.2.1 dL_law_2781 hl (by decide) rfl (fun ls hl => ?_)
    refine lv_aload_n FX.1 FX.2.1 dL_law_2783 rfl (lv_at hl 4 rfl) ?_
    refine c_RDV (i0 := 5) (ci := 4) FX (r_X2_thrown l D cI cB o bo po (wth_X2_told r1) h j ak' su' gt' lf' rf' kn') mi_X2_thrown rfl ml_RL_162 (RMok.mk) hl.1 rfl (Nat.le_of_ble_eq_true rfl) dL_law_2784 ⟨by omega, by omega⟩ hK hP [5, 6, 7] rfl rfl rfl rfl ?_
    refine lv_iload FX.1 FX.2.1 dL_law_2787 (lv_at hl 1 rfl) ?_
    refine lv_icmp_eq (tgt := 2794) FX.1 FX.2.1 dL_law_2789 (by decide) (fun c_7 => ?_) (fun c_7 => ?_)
    · refine lv_iload FX.1 FX.2.1 dL_law_2794 (lv_at hl 1 rfl) ?_
      refine lv_if_ne (tgt := 2813) FX.1 FX.2.1 dL_law_2796 (by decide) (fun c_8 => ?_) (fun c_8 => ?_)
      · refine lv_goto (tgt := 2982) FX.1 FX.2.1 dL_law_2813 (by decide) ?_
        refine W.widen (k := cc + 33) (n := ss + 321) (by omega) (by omega) ?_
        exact kk H locs f g ak su gt lf rf kn ml cn bs (wth_X2_told r1) h j ak' su' gt' lf' rf' kn' n0 sv ls hI2 hb hc hP hD hS (lv_sub hl [2, 3, 4, 5, 6] rfl)
      · exact absurd c_8 (by decide)
    · exact absurd eT0 c_7
set_option maxRecDepth 100000 in
set_option maxHeartbeats 4000000 in
theorem case_38 {p : Program} {l : Launch} {e : Env} {s : State} {m : MethodId} {below : List Frame} {meth : Method} {c : Code} (hl0 : l.stackTraces = false) (D : va_G) (cI cB : ClassId) (b L : Nat) (xs : Nat → Int32) (x bx px t bt o bo po q : Nat) (to tt : Nat) (go gu : Nat → Int32) (na nv : Nat) (nf : Nat → Int32) (nb nw : Nat) (nh : Nat → Int32) (ea ew : Nat) (ef : Nat → Int32) (i cc ss : Nat) (hi : i + 6 ≤ L) (hcc : cc + 33 ≤ room_1.cells) (hss : ss + 321 ≤ room_1.slots) (hL : L ≤ 6) (FX : CallFix p m c cL_law 7 s #[.ref b] bigW RL) (hK : va_K D KL (TY cI cB) s) (hX : va_X b L xs s s.heap) (hbl : b < s.heap.size) (hz : zLaw to tt go gu na nv nf nb nw nh ea ew ef (fun q => s.heap.size ≤ q) s s.heap) (hfn : sb_Fit nf) (hfe : sb_Fit ef) (hnn : TL 4 nf nh) (kk : LGo p l e s m below meth c D cI cB b x bx px t bt o bo po q i 2982 (cc + 33) (ss + 321)) : LGo p l e s m below meth c D cI cB b x bx px t bt o bo po q i 2816 cc ss := by
  intro H locs f g ak su gt lf rf kn ml cn bs th h j ak' su' gt' lf' rf' kn' n0 sv ls hI hb hc hP hD hS hl
  have hA : ∀ q : Nat, s.heap.size ≤ q → s.heap.size ≤ q := fun _ h => h
  have hbA : ¬ (fun q : Nat => s.heap.size ≤ q) b := Nat.not_le.mpr hbl
  obtain ⟨r1, ey1⟩ : ∃ y, xs (i + 1) = y := ⟨_, rfl⟩
  have hin1 : i + 1 < L ∧ L < 2 ^ 31 := ⟨by omega, by omega⟩
  obtain ⟨r2, ey2⟩ : ∃ y, xs (i + 2) = y := ⟨_, rfl⟩
  have hin2 : i + 2 < L ∧ L < 2 ^ 31 := ⟨by omega, by omega⟩
  have hl : lv_has ls 7 [(4, .int (nI i)), (3, .ref q), (2, .ref o), (1, .ref x), (0, .ref b)] := hl
  have hP : va_P D KL [(x, .inr (2, [.ref bx, .ref px, .ref t, .int ak, .int su, .int gt, .int lf, .int rf, .int kn])), (bx, .inl (cI, 6, .inl f)), (px, .inl (cI, 2, .inl g)), (t, .inr (1, [.ref bt, .int 0, .int ml, .int cn])), (bt, .inl (cB, 16, .inl bs)), (o, .inr (4, [.int th, .ref bo, .ref po, .int ak', .int su', .int gt', .int lf', .int rf', .int kn'])), (bo, .inl (cI, 6, .inl h)), (po, .inl (cI, 2, .inl j)), (q, .inr (3, [.long n0, sv]))] H := hP
  have hD : va_D (fun q => s.heap.size ≤ q) [(x, .inr (2, [.ref bx, .ref px, .ref t, .int ak, .int su, .int gt, .int lf, .int rf, .int kn])), (bx, .inl (cI, 6, .inl f)), (px, .inl (cI, 2, .inl g)), (t, .inr (1, [.ref bt, .int 0, .int ml, .int cn])), (bt, .inl (cB, 16, .inl bs)), (o, .inr (4, [.int th, .ref bo, .ref po, .int ak', .int su', .int gt', .int lf', .int rf', .int kn'])), (bo, .inl (cI, 6, .inl h)), (po, .inl (cI, 2, .inl j)), (q, .inr (3, [.long n0, sv]))] := hD
  refine lv_aload_n FX.1 FX.2.1 dL_law_2816 rfl (lv_at hl 3 rfl) ?_
  refine p_rd (k := 1) (v := r1) FX hX hbl hbA hS (lv_at hl 4 rfl) (lv_at hl 0 rfl) dL_law_2817 dL_law_2818 dL_law_2820 dL_law_2821 dL_law_2822 rfl hin1 ey1 ?_
  refine p_rd (k := 2) (v := r2) FX hX hbl hbA hS (lv_at hl 4 rfl) (lv_at hl 0 rfl) dL_law_2823 dL_law_2824 dL_law_2826 dL_law_2827 dL_law_2828 rfl hin2 ey2 ?_
  refine lv_aload_n FX.1 FX.2.1 dL_law_2829 rfl (lv_at hl 1 rfl) ?_
  refine c_J (W0 := [(x, .inr (2, [.ref bx, .ref px, .ref t, .int ak, .int su, .int gt, .int lf, .int rf, .int kn])), (bx, .inl (cI, 6, .inl f)), (px, .inl (cI, 2, .inl g)), (q, .inr (3, [.long n0, sv]))]) (wr := [(t, .inr (1, [.ref bt, .int 0, .int ml, .int cn])), (bt, .inl (cB, 16, .inl bs)), (o, .inr (4, [.int th, .ref bo, .ref po, .int ak', .int su', .int gt', .int lf', .int rf', .int kn'])), (bo, .inl (cI, 6, .inl h)), (po, .inl (cI, 2, .inl j))]) (wsN := fun _ => [(x, .inr (2, [.ref bx, .ref px, .ref t, .int ak, .int su, .int gt, .int lf, .int rf, .int kn])), (bx, .inl (cI, 6, .inl f)), (px, .inl (cI, 2, .inl g)), (t, .inr (1, [.ref bt, .int 0, .int ml, .int cn])), (bt, .inl (cB, 16, .inl bs)), (o, .inr (4, [.int th, .ref bo, .ref po, .int ak', .int su', .int gt', .int lf', .int rf', .int kn'])), (bo, .inl (cI, 6, .inl h)), (po, .inl (cI, 2, .inl j)), (q, .inr (3, [.long (hn_place r1 r2 n0), sv]))]) (vx_runSW FX ((j_L_place l hl0 D cI cB x bx px t f g ak su gt lf rf kn q n0 sv r1 r2) H.size) (my_cwSW FX.2.2.2.2 mh_L_place ml_RL_290 (RMok.mk)) ⟨PJ.blind (zAnd_ok (zAnd_ok zz_ok zN_ok) zF_ok), fun U hU hW => ⟨rfl, my_preJ (zAnd_ok (zAnd_ok zz_ok zN_ok) zF_ok) ⟨hz.1.1, hz.1.2.1⟩ hS hA hK hP hD [0, 1, 2, 8] rfl rfl U hU hW⟩⟩ rfl rfl hl.1 rfl (lv_room (Nat.le_of_ble_eq_true rfl)) dL_law_2830 ⟨by omega, by omega⟩) hP hD hS hA [0, 1, 2, 8] rfl [3, 4, 5, 6, 7] rfl (by decide) [5, 6, 7, 0, 1, 2, 3, 4, 8] (fun _ => rfl) rfl (fun u1 H locs hp_1 hP hD hS => ?_)
  have hP : va_P D KL [(x, .inr (2, [.ref bx, .ref px, .ref t, .int ak, .int su, .int gt, .int lf, .int rf, .int kn])), (bx, .inl (cI, 6, .inl f)), (px, .inl (cI, 2, .inl g)), (t, .inr (1, [.ref bt, .int 0, .int ml, .int cn])), (bt, .inl (cB, 16, .inl bs)), (o, .inr (4, [.int th, .ref bo, .ref po, .int ak', .int su', .int gt', .int lf', .int rf', .int kn'])), (bo, .inl (cI, 6, .inl h)), (po, .inl (cI, 2, .inl j)), (q, .inr (3, [.long (hn_place r1 r2 n0), sv]))] H := hP
  have hD : va_D (fun q => s.heap.size ≤ q) [(x, .inr (2, [.ref bx, .ref px, .ref t, .int ak, .int su, .int gt, .int lf, .int rf, .int kn])), (bx, .inl (cI, 6, .inl f)), (px, .inl (cI, 2, .inl g)), (t, .inr (1, [.ref bt, .int 0, .int ml, .int cn])), (bt, .inl (cB, 16, .inl bs)), (o, .inr (4, [.int th, .ref bo, .ref po, .int ak', .int su', .int gt', .int lf', .int rf', .int kn'])), (bo, .inl (cI, 6, .inl h)), (po, .inl (cI, 2, .inl j)), (q, .inr (3, [.long (hn_place r1 r2 n0), sv]))] := hD
  refine W.eq (g2 := F0 m 2833 ls [.int (hk_place r1 r2)]) rfl ?_
  refine lv_istore (lv' := [(5, .int (hk_place r1 r2)), (4, .int (nI i)), (3, .ref q), (2, .ref o), (1, .ref x), (0, .ref b)]) FX.1 FX.2.1 dL_law_2833 hl (by decide) rfl (fun ls hl => ?_)
  refine lv_aload_n FX.1 FX.2.1 dL_law_2835 rfl (lv_at hl 3 rfl) ?_
  refine p_rd (k := 1) (v := r1) FX hX hbl hbA hS (lv_at hl 5 rfl) (lv_at hl 1 rfl) dL_law_2836 dL_law_2837 dL_law_2839 dL_law_2840 dL_law_2841 rfl hin1 ey1 ?_
  refine p_rd (k := 2) (v := r2) FX hX hbl hbA hS (lv_at hl 5 rfl) (lv_at hl 1 rfl) dL_law_2842 dL_law_2843 dL_law_2845 dL_law_2846 dL_law_2847 rfl hin2 ey2 ?_
  obtain ⟨eT, eA, hI2⟩ := st_place r1 r2 n0 hI
  refine c_WRV (wr := [(x, .inr (2, [.ref bx, .ref px, .ref t, .int ak, .int su, .int gt, .int lf, .int rf, .int kn])), (bx, .inl (cI, 6, .inl f)), (px, .inl (cI, 2, .inl g)), (t, .inr (1, [.ref bt, .int 0, .int ml, .int cn])), (bt, .inl (cB, 16, .inl bs)), (q, .inr (3, [.long (hn_place r1 r2 n0), sv]))]) (wsN := [(x, .inr (2, [.ref bx, .ref px, .ref t, .int ak, .int su, .int gt, .int lf, .int rf, .int kn])), (bx, .inl (cI, 6, .inl f)), (px, .inl (cI, 2, .inl g)), (t, .inr (1, [.ref bt, .int 0, .int ml, .int cn])), (bt, .inl (cB, 16, .inl bs)), (o, .inr (4, [.int (wth_X2_place r1 r2), .ref bo, .ref po, .int ak', .int su', .int gt', .int lf', .int rf', .int kn'])), (bo, .inl (cI, 6, .inl h)), (po, .inl (cI, 2, .inl j)), (q, .inr (3, [.long (hn_place r1 r2 n0), sv]))]) (i0 := 5) (ci := 4) FX (k_X2_place l D cI cB o bo po th h j ak' su' gt' lf' rf' kn' r1 r2) mi_X2_place rfl ml_RL_292 (RMok.mk) hl.1 rfl (Nat.le_of_ble_eq_true rfl) dL_law_2848 ⟨by omega, by omega⟩ hK hP hD hS hA [5, 6, 7] rfl [0, 1, 2, 3, 4, 8] rfl rfl (by decide) [0, 1, 2, 3, 4, 6, 7, 8, 5] rfl rfl rfl rfl rfl (fun H locs hP hD hS => ?_)
  refine lv_istore (lv' := [(6, .int (v_X2_place r1 r2)), (5, .int (hk_place r1 r2)), (4, .int (nI i)), (3, .ref q), (2, .ref o), (1, .ref x), (0, .ref b)]) FX.1 FX.2.1 dL_law_2851 hl (by decide) rfl (fun ls hl => ?_)
  refine lv_aload_n FX.1 FX.2.1 dL_law_2853 rfl (lv_at hl 4 rfl) ?_
  refine c_RDV (i0 := 5) (ci := 4) FX (r_X2_thrown l D cI cB o bo po (wth_X2_place r1 r2) h j ak' su' gt' lf' rf' kn') mi_X2_thrown rfl ml_RL_162 (RMok.mk) hl.1 rfl (Nat.le_of_ble_eq_true rfl) dL_law_2854 ⟨by omega, by omega⟩ hK hP [5, 6, 7] rfl rfl rfl rfl ?_
  refine lv_iload FX.1 FX.2.1 dL_law_2857 (lv_at hl 1 rfl) ?_
  refine lv_icmp_eq (tgt := 2864) FX.1 FX.2.1 dL_law_2859 (by decide) (fun c_1 => ?_) (fun c_1 => ?_)
  · refine lv_iload FX.1 FX.2.1 dL_law_2864 (lv_at hl 1 rfl) ?_
    refine lv_if_ne (tgt := 2882) FX.1 FX.2.1 dL_law_2866 (by decide) (fun c_2 => ?_) (fun c_2 => ?_)
    · refine lv_goto (tgt := 2982) FX.1 FX.2.1 dL_law_2882 (by decide) ?_
      refine W.widen (k := cc + 33) (n := ss + 321) (by omega) (by omega) ?_
      exact kk H locs f g ak su gt lf rf kn ml cn bs (wth_X2_place r1 r2) h j ak' su' gt' lf' rf' kn' (hn_place r1 r2 n0) sv ls hI2 hb hc hP hD hS (lv_sub hl [2, 3, 4, 5, 6] rfl)
    · refine lv_aload_n FX.1 FX.2.1 dL_law_2869 rfl (lv_at hl 3 rfl) ?_
      refine p_getN (ci := 3) (v := .long (hn_place r1 r2 n0)) FX inX1 hK hP 8 rfl rfl 0 (by decide) hz.1.2.1 rfl dL_law_2870 ?_
      refine lv_iload FX.1 FX.2.1 dL_law_2873 (lv_at hl 0 rfl) ?_
      refine lv_i2l (v := (v_X2_place r1 r2).toInt64) FX.1 FX.2.1 dL_law_2875 rfl ?_
      refine W.eq (g2 := F0 m 2876 ls [.long ((v_X2_place r1 r2).toInt64), .long ((v_X2_place r1 r2).toInt64)]) (by rw [eA c_2]) ?_
      refine W.lcmp FX.1 FX.2.1 dL_law_2876 ?_
      refine W.eq (g2 := F0 m 2877 ls [.int 0]) (by rw [lg_self]) ?_
      refine lv_if_eq (tgt := 2882) FX.1 FX.2.1 dL_law_2877 (by decide) (fun c_3 => ?_) (fun c_3 => ?_)
      · refine lv_goto (tgt := 2982) FX.1 FX.2.1 dL_law_2882 (by decide) ?_
        refine W.widen (k := cc + 33) (n := ss + 321) (by omega) (by omega) ?_
        exact kk H locs f g ak su gt lf rf kn ml cn bs (wth_X2_place r1 r2) h j ak' su' gt' lf' rf' kn' (hn_place r1 r2 n0) sv ls hI2 hb hc hP hD hS (lv_sub hl [2, 3, 4, 5, 6] rfl)
      · exact absurd c_3 (by decide)
  · exact absurd eT c_1
set_option maxRecDepth 100000 in
set_option maxHeartbeats 4000000 in
theorem case_39 {p : Program} {l : Launch} {e : Env} {s : State} {m : MethodId} {below : List Frame} {meth : Method} {c : Code} (hl0 : l.stackTraces = false) (D : va_G) (cI cB : ClassId) (b L : Nat) (xs : Nat → Int32) (x bx px t bt o bo po q : Nat) (to tt : Nat) (go gu : Nat → Int32) (na nv : Nat) (nf : Nat → Int32) (nb nw : Nat) (nh : Nat → Int32) (ea ew : Nat) (ef : Nat → Int32) (i cc ss : Nat) (hi : i + 6 ≤ L) (hcc : cc + 33 ≤ room_1.cells) (hss : ss + 321 ≤ room_1.slots) (hL : L ≤ 6) (FX : CallFix p m c cL_law 7 s #[.ref b] bigW RL) (hK : va_K D KL (TY cI cB) s) (hX : va_X b L xs s s.heap) (hbl : b < s.heap.size) (hz : zLaw to tt go gu na nv nf nb nw nh ea ew ef (fun q => s.heap.size ≤ q) s s.heap) (hfn : sb_Fit nf) (hfe : sb_Fit ef) (hnn : TL 4 nf nh) (kk : LGo p l e s m below meth c D cI cB b x bx px t bt o bo po q i 2982 (cc + 33) (ss + 321)) : LGo p l e s m below meth c D cI cB b x bx px t bt o bo po q i 2885 cc ss := by
  intro H locs f g ak su gt lf rf kn ml cn bs th h j ak' su' gt' lf' rf' kn' n0 sv ls hI hb hc hP hD hS hl
  have hA : ∀ q : Nat, s.heap.size ≤ q → s.heap.size ≤ q := fun _ h => h
  have hbA : ¬ (fun q : Nat => s.heap.size ≤ q) b := Nat.not_le.mpr hbl
  have hl : lv_has ls 7 [(4, .int (nI i)), (3, .ref q), (2, .ref o), (1, .ref x), (0, .ref b)] := hl
  have hP : va_P D KL [(x, .inr (2, [.ref bx, .ref px, .ref t, .int ak, .int su, .int gt, .int lf, .int rf, .int kn])), (bx, .inl (cI, 6, .inl f)), (px, .inl (cI, 2, .inl g)), (t, .inr (1, [.ref bt, .int 0, .int ml, .int cn])), (bt, .inl (cB, 16, .inl bs)), (o, .inr (4, [.int th, .ref bo, .ref po, .int ak', .int su', .int gt', .int lf', .int rf', .int kn'])), (bo, .inl (cI, 6, .inl h)), (po, .inl (cI, 2, .inl j)), (q, .inr (3, [.long n0, sv]))] H := hP
  have hD : va_D (fun q => s.heap.size ≤ q) [(x, .inr (2, [.ref bx, .ref px, .ref t, .int ak, .int su, .int gt, .int lf, .int rf, .int kn])), (bx, .inl (cI, 6, .inl f)), (px, .inl (cI, 2, .inl g)), (t, .inr (1, [.ref bt, .int 0, .int ml, .int cn])), (bt, .inl (cB, 16, .inl bs)), (o, .inr (4, [.int th, .ref bo, .ref po, .int ak', .int su', .int gt', .int lf', .int rf', .int kn'])), (bo, .inl (cI, 6, .inl h)), (po, .inl (cI, 2, .inl j)), (q, .inr (3, [.long n0, sv]))] := hD
  refine lv_aload_n FX.1 FX.2.1 dL_law_2885 rfl (lv_at hl 3 rfl) ?_
  refine c_WRV (wr := [(t, .inr (1, [.ref bt, .int 0, .int ml, .int cn])), (bt, .inl (cB, 16, .inl bs)), (o, .inr (4, [.int th, .ref bo, .ref po, .int ak', .int su', .int gt', .int lf', .int rf', .int kn'])), (bo, .inl (cI, 6, .inl h)), (po, .inl (cI, 2, .inl j)), (q, .inr (3, [.long n0, sv]))]) (wsN := [(x, .inr (2, [.ref bx, .ref px, .ref t, .int ak, .int su, .int gt, .int lf, .int rf, .int (wkn_X0_knock kn)])), (bx, .inl (cI, 6, .inl f)), (px, .inl (cI, 2, .inl g)), (t, .inr (1, [.ref bt, .int 0, .int ml, .int cn])), (bt, .inl (cB, 16, .inl bs)), (o, .inr (4, [.int th, .ref bo, .ref po, .int ak', .int su', .int gt', .int lf', .int rf', .int kn'])), (bo, .inl (cI, 6, .inl h)), (po, .inl (cI, 2, .inl j)), (q, .inr (3, [.long n0, sv]))]) (i0 := 0) (ci := 2) FX (k_X0_knock l D cI cB x bx px t f g ak su gt lf rf kn) mi_X0_knock rfl ml_RL_293 (RMok.mk) hl.1 rfl (Nat.le_of_ble_eq_true rfl) dL_law_2886 ⟨by omega, by omega⟩ hK hP hD hS hA [0, 1, 2] rfl [3, 4, 5, 6, 7, 8] rfl rfl (by decide) [6, 7, 8, 0, 1, 2, 3, 4, 5] rfl rfl rfl rfl rfl (fun H locs hP hD hS => ?_)
  refine lv_aload_n FX.1 FX.2.1 dL_law_2889 rfl (lv_at hl 2 rfl) ?_
  have hI2 := (st_knock hI).2
  refine c_WRV (wr := [(x, .inr (2, [.ref bx, .ref px, .ref t, .int ak, .int su, .int gt, .int lf, .int rf, .int (wkn_X0_knock kn)])), (bx, .inl (cI, 6, .inl f)), (px, .inl (cI, 2, .inl g)), (t, .inr (1, [.ref bt, .int 0, .int ml, .int cn])), (bt, .inl (cB, 16, .inl bs)), (q, .inr (3, [.long n0, sv]))]) (wsN := [(x, .inr (2, [.ref bx, .ref px, .ref t, .int ak, .int su, .int gt, .int lf, .int rf, .int (wkn_X0_knock kn)])), (bx, .inl (cI, 6, .inl f)), (px, .inl (cI, 2, .inl g)), (t, .inr (1, [.ref bt, .int 0, .int ml, .int cn])), (bt, .inl (cB, 16, .inl bs)), (o, .inr (4, [.int wth_X2_knock, .ref bo, .ref po, .int ak', .int su', .int gt', .int lf', .int rf', .int (wkn_X2_knock kn')])), (bo, .inl (cI, 6, .inl h)), (po, .inl (cI, 2, .inl j)), (q, .inr (3, [.long n0, sv]))]) (i0 := 5) (ci := 4) FX (k_X2_knock l D cI cB o bo po th h j ak' su' gt' lf' rf' kn') mi_X2_knock rfl ml_RL_296 (RMok.mk) hl.1 rfl (Nat.le_of_ble_eq_true rfl) dL_law_2890 ⟨by omega, by omega⟩ hK hP hD hS hA [5, 6, 7] rfl [0, 1, 2, 3, 4, 8] rfl rfl (by decide) [0, 1, 2, 3, 4, 6, 7, 8, 5] rfl rfl rfl rfl rfl (fun H locs hP hD hS => ?_)
  refine lv_icmp_eq (tgt := 2982) FX.1 FX.2.1 dL_law_2893 (by decide) (fun c_1 => ?_) (fun c_1 => ?_)
  · refine W.widen (k := cc + 33) (n := ss + 321) (by omega) (by omega) ?_
    exact kk H locs f g ak su gt lf rf (wkn_X0_knock kn) ml cn bs wth_X2_knock h j ak' su' gt' lf' rf' (wkn_X2_knock kn') n0 sv ls hI2 hb hc hP hD hS (lv_sub hl [0, 1, 2, 3, 4] rfl)
  · exact absurd (st_knock hI).1 c_1
set_option maxRecDepth 100000 in
set_option maxHeartbeats 4000000 in
theorem case_40 {p : Program} {l : Launch} {e : Env} {s : State} {m : MethodId} {below : List Frame} {meth : Method} {c : Code} (hl0 : l.stackTraces = false) (D : va_G) (cI cB : ClassId) (b L : Nat) (xs : Nat → Int32) (x bx px t bt o bo po q : Nat) (to tt : Nat) (go gu : Nat → Int32) (na nv : Nat) (nf : Nat → Int32) (nb nw : Nat) (nh : Nat → Int32) (ea ew : Nat) (ef : Nat → Int32) (i cc ss : Nat) (hi : i + 6 ≤ L) (hcc : cc + 33 ≤ room_1.cells) (hss : ss + 321 ≤ room_1.slots) (hL : L ≤ 6) (FX : CallFix p m c cL_law 7 s #[.ref b] bigW RL) (hK : va_K D KL (TY cI cB) s) (hX : va_X b L xs s s.heap) (hbl : b < s.heap.size) (hz : zLaw to tt go gu na nv nf nb nw nh ea ew ef (fun q => s.heap.size ≤ q) s s.heap) (hfn : sb_Fit nf) (hfe : sb_Fit ef) (hnn : TL 4 nf nh) (kk : LGo p l e s m below meth c D cI cB b x bx px t bt o bo po q i 2982 (cc + 33) (ss + 321)) : LGo p l e s m below meth c D cI cB b x bx px t bt o bo po q i 2898 cc ss := by
  intro H locs f g ak su gt lf rf kn ml cn bs th h j ak' su' gt' lf' rf' kn' n0 sv ls hI hb hc hP hD hS hl
  have hA : ∀ q : Nat, s.heap.size ≤ q → s.heap.size ≤ q := fun _ h => h
  have hbA : ¬ (fun q : Nat => s.heap.size ≤ q) b := Nat.not_le.mpr hbl
  obtain ⟨r1, ey1⟩ : ∃ y, xs (i + 1) = y := ⟨_, rfl⟩
  have hin1 : i + 1 < L ∧ L < 2 ^ 31 := ⟨by omega, by omega⟩
  have hl : lv_has ls 7 [(4, .int (nI i)), (3, .ref q), (2, .ref o), (1, .ref x), (0, .ref b)] := hl
  have hP : va_P D KL [(x, .inr (2, [.ref bx, .ref px, .ref t, .int ak, .int su, .int gt, .int lf, .int rf, .int kn])), (bx, .inl (cI, 6, .inl f)), (px, .inl (cI, 2, .inl g)), (t, .inr (1, [.ref bt, .int 0, .int ml, .int cn])), (bt, .inl (cB, 16, .inl bs)), (o, .inr (4, [.int th, .ref bo, .ref po, .int ak', .int su', .int gt', .int lf', .int rf', .int kn'])), (bo, .inl (cI, 6, .inl h)), (po, .inl (cI, 2, .inl j)), (q, .inr (3, [.long n0, sv]))] H := hP
  have hD : va_D (fun q => s.heap.size ≤ q) [(x, .inr (2, [.ref bx, .ref px, .ref t, .int ak, .int su, .int gt, .int lf, .int rf, .int kn])), (bx, .inl (cI, 6, .inl f)), (px, .inl (cI, 2, .inl g)), (t, .inr (1, [.ref bt, .int 0, .int ml, .int cn])), (bt, .inl (cB, 16, .inl bs)), (o, .inr (4, [.int th, .ref bo, .ref po, .int ak', .int su', .int gt', .int lf', .int rf', .int kn'])), (bo, .inl (cI, 6, .inl h)), (po, .inl (cI, 2, .inl j)), (q, .inr (3, [.long n0, sv]))] := hD
  refine lv_aload_n FX.1 FX.2.1 dL_law_2898 rfl (lv_at hl 3 rfl) ?_
  refine p_rd (k := 1) (v := r1) FX hX hbl hbA hS (lv_at hl 4 rfl) (lv_at hl 0 rfl) dL_law_2899 dL_law_2900 dL_law_2902 dL_law_2903 dL_law_2904 rfl hin1 ey1 ?_
  refine lv_aload_n FX.1 FX.2.1 dL_law_2905 rfl (lv_at hl 1 rfl) ?_
  refine c_J (W0 := [(x, .inr (2, [.ref bx, .ref px, .ref t, .int ak, .int su, .int gt, .int lf, .int rf, .int kn])), (bx, .inl (cI, 6, .inl f)), (px, .inl (cI, 2, .inl g)), (q, .inr (3, [.long n0, sv]))]) (wr := [(t, .inr (1, [.ref bt, .int 0, .int ml, .int cn])), (bt, .inl (cB, 16, .inl bs)), (o, .inr (4, [.int th, .ref bo, .ref po, .int ak', .int su', .int gt', .int lf', .int rf', .int kn'])), (bo, .inl (cI, 6, .inl h)), (po, .inl (cI, 2, .inl j))]) (wsN := fun _ => [(x, .inr (2, [.ref bx, .ref px, .ref t, .int ak, .int su, .int gt, .int lf, .int rf, .int kn])), (bx, .inl (cI, 6, .inl f)), (px, .inl (cI, 2, .inl g)), (t, .inr (1, [.ref bt, .int 0, .int ml, .int cn])), (bt, .inl (cB, 16, .inl bs)), (o, .inr (4, [.int th, .ref bo, .ref po, .int ak', .int su', .int gt', .int lf', .int rf', .int kn'])), (bo, .inl (cI, 6, .inl h)), (po, .inl (cI, 2, .inl j)), (q, .inr (3, [.long (hn_house r1 f g ak su gt lf rf kn n0), sv]))]) (vx_runSW FX ((j_L_house l hl0 D cI cB x bx px t f g ak su gt lf rf kn q n0 sv r1) H.size) (my_cwSW FX.2.2.2.2 mh_L_house ml_RL_297 (RMok.mk)) ⟨PJ.blind (zAnd_ok (zAnd_ok zz_ok zN_ok) zF_ok), fun U hU hW => ⟨rfl, my_preJ (zAnd_ok (zAnd_ok zz_ok zN_ok) zF_ok) ⟨hz.1.1, hz.1.2.1⟩ hS hA hK hP hD [0, 1, 2, 8] rfl rfl U hU hW⟩⟩ rfl rfl hl.1 rfl (lv_room (Nat.le_of_ble_eq_true rfl)) dL_law_2906 ⟨by omega, by omega⟩) hP hD hS hA [0, 1, 2, 8] rfl [3, 4, 5, 6, 7] rfl (by decide) [5, 6, 7, 0, 1, 2, 3, 4, 8] (fun _ => rfl) rfl (fun u1 H locs hp_1 hP hD hS => ?_)
  have hP : va_P D KL [(x, .inr (2, [.ref bx, .ref px, .ref t, .int ak, .int su, .int gt, .int lf, .int rf, .int kn])), (bx, .inl (cI, 6, .inl f)), (px, .inl (cI, 2, .inl g)), (t, .inr (1, [.ref bt, .int 0, .int ml, .int cn])), (bt, .inl (cB, 16, .inl bs)), (o, .inr (4, [.int th, .ref bo, .ref po, .int ak', .int su', .int gt', .int lf', .int rf', .int kn'])), (bo, .inl (cI, 6, .inl h)), (po, .inl (cI, 2, .inl j)), (q, .inr (3, [.long (hn_house r1 f g ak su gt lf rf kn n0), sv]))] H := hP
  have hD : va_D (fun q => s.heap.size ≤ q) [(x, .inr (2, [.ref bx, .ref px, .ref t, .int ak, .int su, .int gt, .int lf, .int rf, .int kn])), (bx, .inl (cI, 6, .inl f)), (px, .inl (cI, 2, .inl g)), (t, .inr (1, [.ref bt, .int 0, .int ml, .int cn])), (bt, .inl (cB, 16, .inl bs)), (o, .inr (4, [.int th, .ref bo, .ref po, .int ak', .int su', .int gt', .int lf', .int rf', .int kn'])), (bo, .inl (cI, 6, .inl h)), (po, .inl (cI, 2, .inl j)), (q, .inr (3, [.long (hn_house r1 f g ak su gt lf rf kn n0), sv]))] := hD
  refine W.eq (g2 := F0 m 2909 ls [.int (hk_house r1)]) rfl ?_
  refine lv_istore (lv' := [(5, .int (hk_house r1)), (4, .int (nI i)), (3, .ref q), (2, .ref o), (1, .ref x), (0, .ref b)]) FX.1 FX.2.1 dL_law_2909 hl (by decide) rfl (fun ls hl => ?_)
  refine lv_aload_n FX.1 FX.2.1 dL_law_2911 rfl (lv_at hl 3 rfl) ?_
  refine p_rd (k := 1) (v := r1) FX hX hbl hbA hS (lv_at hl 5 rfl) (lv_at hl 1 rfl) dL_law_2912 dL_law_2913 dL_law_2915 dL_law_2916 dL_law_2917 rfl hin1 ey1 ?_
  obtain ⟨eT, eA, hI2⟩ := st_house r1 n0 hI
  refine c_WRV (wr := [(x, .inr (2, [.ref bx, .ref px, .ref t, .int ak, .int su, .int gt, .int lf, .int rf, .int kn])), (bx, .inl (cI, 6, .inl f)), (px, .inl (cI, 2, .inl g)), (t, .inr (1, [.ref bt, .int 0, .int ml, .int cn])), (bt, .inl (cB, 16, .inl bs)), (q, .inr (3, [.long (hn_house r1 f g ak su gt lf rf kn n0), sv]))]) (wsN := [(x, .inr (2, [.ref bx, .ref px, .ref t, .int ak, .int su, .int gt, .int lf, .int rf, .int kn])), (bx, .inl (cI, 6, .inl f)), (px, .inl (cI, 2, .inl g)), (t, .inr (1, [.ref bt, .int 0, .int ml, .int cn])), (bt, .inl (cB, 16, .inl bs)), (o, .inr (4, [.int (wth_X2_house r1), .ref bo, .ref po, .int ak', .int su', .int gt', .int lf', .int rf', .int kn'])), (bo, .inl (cI, 6, .inl h)), (po, .inl (cI, 2, .inl j)), (q, .inr (3, [.long (hn_house r1 f g ak su gt lf rf kn n0), sv]))]) (i0 := 5) (ci := 4) FX (k_X2_house l D cI cB o bo po th h j ak' su' gt' lf' rf' kn' r1) mi_X2_house rfl ml_RL_299 (RMok.mk) hl.1 rfl (Nat.le_of_ble_eq_true rfl) dL_law_2918 ⟨by omega, by omega⟩ hK hP hD hS hA [5, 6, 7] rfl [0, 1, 2, 3, 4, 8] rfl rfl (by decide) [0, 1, 2, 3, 4, 6, 7, 8, 5] rfl rfl rfl rfl rfl (fun H locs hP hD hS => ?_)
  refine lv_istore (lv' := [(6, .int (v_X2_house r1 h j ak' su' gt' lf' rf' kn')), (5, .int (hk_house r1)), (4, .int (nI i)), (3, .ref q), (2, .ref o), (1, .ref x), (0, .ref b)]) FX.1 FX.2.1 dL_law_2921 hl (by decide) rfl (fun ls hl => ?_)
  refine lv_aload_n FX.1 FX.2.1 dL_law_2923 rfl (lv_at hl 4 rfl) ?_
  refine c_RDV (i0 := 5) (ci := 4) FX (r_X2_thrown l D cI cB o bo po (wth_X2_house r1) h j ak' su' gt' lf' rf' kn') mi_X2_thrown rfl ml_RL_162 (RMok.mk) hl.1 rfl (Nat.le_of_ble_eq_true rfl) dL_law_2924 ⟨by omega, by omega⟩ hK hP [5, 6, 7] rfl rfl rfl rfl ?_
  refine lv_iload FX.1 FX.2.1 dL_law_2927 (lv_at hl 1 rfl) ?_
  refine lv_icmp_eq (tgt := 2934) FX.1 FX.2.1 dL_law_2929 (by decide) (fun c_1 => ?_) (fun c_1 => ?_)
  · refine lv_iload FX.1 FX.2.1 dL_law_2934 (lv_at hl 1 rfl) ?_
    refine lv_if_ne (tgt := 2952) FX.1 FX.2.1 dL_law_2936 (by decide) (fun c_2 => ?_) (fun c_2 => ?_)
    · refine lv_goto (tgt := 2982) FX.1 FX.2.1 dL_law_2952 (by decide) ?_
      refine W.widen (k := cc + 33) (n := ss + 321) (by omega) (by omega) ?_
      exact kk H locs f g ak su gt lf rf kn ml cn bs (wth_X2_house r1) h j ak' su' gt' lf' rf' kn' (hn_house r1 f g ak su gt lf rf kn n0) sv ls hI2 hb hc hP hD hS (lv_sub hl [2, 3, 4, 5, 6] rfl)
    · refine lv_aload_n FX.1 FX.2.1 dL_law_2939 rfl (lv_at hl 3 rfl) ?_
      refine p_getN (ci := 3) (v := .long (hn_house r1 f g ak su gt lf rf kn n0)) FX inX1 hK hP 8 rfl rfl 0 (by decide) hz.1.2.1 rfl dL_law_2940 ?_
      refine lv_iload FX.1 FX.2.1 dL_law_2943 (lv_at hl 0 rfl) ?_
      refine lv_i2l (v := (v_X2_house r1 h j ak' su' gt' lf' rf' kn').toInt64) FX.1 FX.2.1 dL_law_2945 rfl ?_
      refine W.eq (g2 := F0 m 2946 ls [.long ((v_X2_house r1 h j ak' su' gt' lf' rf' kn').toInt64), .long ((v_X2_house r1 h j ak' su' gt' lf' rf' kn').toInt64)]) (by rw [eA c_2]) ?_
      refine W.lcmp FX.1 FX.2.1 dL_law_2946 ?_
      refine W.eq (g2 := F0 m 2947 ls [.int 0]) (by rw [lg_self]) ?_
      refine lv_if_eq (tgt := 2952) FX.1 FX.2.1 dL_law_2947 (by decide) (fun c_3 => ?_) (fun c_3 => ?_)
      · refine lv_goto (tgt := 2982) FX.1 FX.2.1 dL_law_2952 (by decide) ?_
        refine W.widen (k := cc + 33) (n := ss + 321) (by omega) (by omega) ?_
        exact kk H locs f g ak su gt lf rf kn ml cn bs (wth_X2_house r1) h j ak' su' gt' lf' rf' kn' (hn_house r1 f g ak su gt lf rf kn n0) sv ls hI2 hb hc hP hD hS (lv_sub hl [2, 3, 4, 5, 6] rfl)
      · exact absurd c_3 (by decide)
  · exact absurd eT c_1
set_option maxRecDepth 100000 in
set_option maxHeartbeats 4000000 in
theorem case_41 {p : Program} {l : Launch} {e : Env} {s : State} {m : MethodId} {below : List Frame} {meth : Method} {c : Code} (hl0 : l.stackTraces = false) (D : va_G) (cI cB : ClassId) (b L : Nat) (xs : Nat → Int32) (x bx px t bt o bo po q : Nat) (to tt : Nat) (go gu : Nat → Int32) (na nv : Nat) (nf : Nat → Int32) (nb nw : Nat) (nh : Nat → Int32) (ea ew : Nat) (ef : Nat → Int32) (i cc ss : Nat) (hi : i + 6 ≤ L) (hcc : cc + 33 ≤ room_1.cells) (hss : ss + 321 ≤ room_1.slots) (hL : L ≤ 6) (FX : CallFix p m c cL_law 7 s #[.ref b] bigW RL) (hK : va_K D KL (TY cI cB) s) (hX : va_X b L xs s s.heap) (hbl : b < s.heap.size) (hz : zLaw to tt go gu na nv nf nb nw nh ea ew ef (fun q => s.heap.size ≤ q) s s.heap) (hfn : sb_Fit nf) (hfe : sb_Fit ef) (hnn : TL 4 nf nh) (kk : LGo p l e s m below meth c D cI cB b x bx px t bt o bo po q i 2982 (cc + 33) (ss + 321)) : LGo p l e s m below meth c D cI cB b x bx px t bt o bo po q i 2955 cc ss := by
  intro H locs f g ak su gt lf rf kn ml cn bs th h j ak' su' gt' lf' rf' kn' n0 sv ls hI hb hc hP hD hS hl
  have hA : ∀ q : Nat, s.heap.size ≤ q → s.heap.size ≤ q := fun _ h => h
  have hbA : ¬ (fun q : Nat => s.heap.size ≤ q) b := Nat.not_le.mpr hbl
  have hl : lv_has ls 7 [(4, .int (nI i)), (3, .ref q), (2, .ref o), (1, .ref x), (0, .ref b)] := hl
  have hP : va_P D KL [(x, .inr (2, [.ref bx, .ref px, .ref t, .int ak, .int su, .int gt, .int lf, .int rf, .int kn])), (bx, .inl (cI, 6, .inl f)), (px, .inl (cI, 2, .inl g)), (t, .inr (1, [.ref bt, .int 0, .int ml, .int cn])), (bt, .inl (cB, 16, .inl bs)), (o, .inr (4, [.int th, .ref bo, .ref po, .int ak', .int su', .int gt', .int lf', .int rf', .int kn'])), (bo, .inl (cI, 6, .inl h)), (po, .inl (cI, 2, .inl j)), (q, .inr (3, [.long n0, sv]))] H := hP
  have hD : va_D (fun q => s.heap.size ≤ q) [(x, .inr (2, [.ref bx, .ref px, .ref t, .int ak, .int su, .int gt, .int lf, .int rf, .int kn])), (bx, .inl (cI, 6, .inl f)), (px, .inl (cI, 2, .inl g)), (t, .inr (1, [.ref bt, .int 0, .int ml, .int cn])), (bt, .inl (cB, 16, .inl bs)), (o, .inr (4, [.int th, .ref bo, .ref po, .int ak', .int su', .int gt', .int lf', .int rf', .int kn'])), (bo, .inl (cI, 6, .inl h)), (po, .inl (cI, 2, .inl j)), (q, .inr (3, [.long n0, sv]))] := hD
  refine lv_aload_n FX.1 FX.2.1 dL_law_2955 rfl (lv_at hl 3 rfl) ?_
  refine c_RDV (i0 := 0) (ci := 2) FX (r_X0_isSound l D cI cB x bx px t f g ak su gt lf rf kn hI.ok6) mi_X0_isSound rfl ml_RL_300 (RMok.mk) hl.1 rfl (Nat.le_of_ble_eq_true rfl) dL_law_2956 ⟨by omega, by omega⟩ hK hP [0, 1, 2] rfl rfl rfl rfl ?_
  refine lv_aload_n FX.1 FX.2.1 dL_law_2959 rfl (lv_at hl 2 rfl) ?_
  refine c_WRV (wr := [(x, .inr (2, [.ref bx, .ref px, .ref t, .int ak, .int su, .int gt, .int lf, .int rf, .int kn])), (bx, .inl (cI, 6, .inl f)), (px, .inl (cI, 2, .inl g)), (t, .inr (1, [.ref bt, .int 0, .int ml, .int cn])), (bt, .inl (cB, 16, .inl bs)), (q, .inr (3, [.long n0, sv]))]) (wsN := [(x, .inr (2, [.ref bx, .ref px, .ref t, .int ak, .int su, .int gt, .int lf, .int rf, .int kn])), (bx, .inl (cI, 6, .inl f)), (px, .inl (cI, 2, .inl g)), (t, .inr (1, [.ref bt, .int 0, .int ml, .int cn])), (bt, .inl (cB, 16, .inl bs)), (o, .inr (4, [.int wth_X2_isSound, .ref bo, .ref po, .int ak', .int su', .int gt', .int lf', .int rf', .int kn'])), (bo, .inl (cI, 6, .inl h)), (po, .inl (cI, 2, .inl j)), (q, .inr (3, [.long n0, sv]))]) (i0 := 5) (ci := 4) FX (k_X2_isSound l D cI cB o bo po th h j ak' su' gt' lf' rf' kn') mi_X2_isSound rfl ml_RL_303 (RMok.mk) hl.1 rfl (Nat.le_of_ble_eq_true rfl) dL_law_2960 ⟨by omega, by omega⟩ hK hP hD hS hA [5, 6, 7] rfl [0, 1, 2, 3, 4, 8] rfl rfl (by decide) [0, 1, 2, 3, 4, 6, 7, 8, 5] rfl rfl rfl rfl rfl (fun H locs hP hD hS => ?_)
  refine lv_icmp_eq (tgt := 2982) FX.1 FX.2.1 dL_law_2963 (by decide) (fun c_1 => ?_) (fun c_1 => ?_)
  · refine W.widen (k := cc + 33) (n := ss + 321) (by omega) (by omega) ?_
    exact kk H locs f g ak su gt lf rf kn ml cn bs wth_X2_isSound h j ak' su' gt' lf' rf' kn' n0 sv ls hI hb hc hP hD hS (lv_sub hl [0, 1, 2, 3, 4] rfl)
  · exact absurd c_1 (by decide)
set_option maxRecDepth 100000 in
set_option maxHeartbeats 4000000 in
theorem case_42 {p : Program} {l : Launch} {e : Env} {s : State} {m : MethodId} {below : List Frame} {meth : Method} {c : Code} (hl0 : l.stackTraces = false) (D : va_G) (cI cB : ClassId) (b L : Nat) (xs : Nat → Int32) (x bx px t bt o bo po q : Nat) (to tt : Nat) (go gu : Nat → Int32) (na nv : Nat) (nf : Nat → Int32) (nb nw : Nat) (nh : Nat → Int32) (ea ew : Nat) (ef : Nat → Int32) (i cc ss : Nat) (hi : i + 6 ≤ L) (hcc : cc + 33 ≤ room_1.cells) (hss : ss + 321 ≤ room_1.slots) (hL : L ≤ 6) (FX : CallFix p m c cL_law 7 s #[.ref b] bigW RL) (hK : va_K D KL (TY cI cB) s) (hX : va_X b L xs s s.heap) (hbl : b < s.heap.size) (hz : zLaw to tt go gu na nv nf nb nw nh ea ew ef (fun q => s.heap.size ≤ q) s s.heap) (hfn : sb_Fit nf) (hfe : sb_Fit ef) (hnn : TL 4 nf nh) (kk : LGo p l e s m below meth c D cI cB b x bx px t bt o bo po q i 2982 (cc + 33) (ss + 321)) : LGo p l e s m below meth c D cI cB b x bx px t bt o bo po q i 2968 cc ss := by
  intro H locs f g ak su gt lf rf kn ml cn bs th h j ak' su' gt' lf' rf' kn' n0 sv ls hI hb hc hP hD hS hl
  have hA : ∀ q : Nat, s.heap.size ≤ q → s.heap.size ≤ q := fun _ h => h
  have hbA : ¬ (fun q : Nat => s.heap.size ≤ q) b := Nat.not_le.mpr hbl
  have hl : lv_has ls 7 [(4, .int (nI i)), (3, .ref q), (2, .ref o), (1, .ref x), (0, .ref b)] := hl
  have hP : va_P D KL [(x, .inr (2, [.ref bx, .ref px, .ref t, .int ak, .int su, .int gt, .int lf, .int rf, .int kn])), (bx, .inl (cI, 6, .inl f)), (px, .inl (cI, 2, .inl g)), (t, .inr (1, [.ref bt, .int 0, .int ml, .int cn])), (bt, .inl (cB, 16, .inl bs)), (o, .inr (4, [.int th, .ref bo, .ref po, .int ak', .int su', .int gt', .int lf', .int rf', .int kn'])), (bo, .inl (cI, 6, .inl h)), (po, .inl (cI, 2, .inl j)), (q, .inr (3, [.long n0, sv]))] H := hP
  have hD : va_D (fun q => s.heap.size ≤ q) [(x, .inr (2, [.ref bx, .ref px, .ref t, .int ak, .int su, .int gt, .int lf, .int rf, .int kn])), (bx, .inl (cI, 6, .inl f)), (px, .inl (cI, 2, .inl g)), (t, .inr (1, [.ref bt, .int 0, .int ml, .int cn])), (bt, .inl (cB, 16, .inl bs)), (o, .inr (4, [.int th, .ref bo, .ref po, .int ak', .int su', .int gt', .int lf', .int rf', .int kn'])), (bo, .inl (cI, 6, .inl h)), (po, .inl (cI, 2, .inl j)), (q, .inr (3, [.long n0, sv]))] := hD
  refine lv_aload_n FX.1 FX.2.1 dL_law_2968 rfl (lv_at hl 3 rfl) ?_
  refine c_J (W0 := [(x, .inr (2, [.ref bx, .ref px, .ref t, .int ak, .int su, .int gt, .int lf, .int rf, .int kn])), (bx, .inl (cI, 6, .inl f)), (px, .inl (cI, 2, .inl g)), (t, .inr (1, [.ref bt, .int 0, .int ml, .int cn])), (bt, .inl (cB, 16, .inl bs))]) (wr := [(o, .inr (4, [.int th, .ref bo, .ref po, .int ak', .int su', .int gt', .int lf', .int rf', .int kn'])), (bo, .inl (cI, 6, .inl h)), (po, .inl (cI, 2, .inl j)), (q, .inr (3, [.long n0, sv]))]) (wsN := fun u1 => [(x, .inr (2, [.ref bx, .ref px, .ref t, .int ak, .int su, .int gt, .int lf, .int rf, .int kn])), (bx, .inl (cI, 6, .inl f)), (px, .inl (cI, 2, .inl g)), (t, .inr (1, [.ref bt, .int 0, .int u1.1, .int u1.2.1])), (bt, .inl (cB, 16, .inl u1.2.2)), (o, .inr (4, [.int th, .ref bo, .ref po, .int ak', .int su', .int gt', .int lf', .int rf', .int kn'])), (bo, .inl (cI, 6, .inl h)), (po, .inl (cI, 2, .inl j)), (q, .inr (3, [.long n0, sv]))]) (va_runV FX ((j_X0_digest l D cI cB x bx px t bt f g ak su gt lf rf kn ml cn bs to tt go gu na nv nf hfn hb hc hI.ok6) H.size) (my_cwV FX.2.2.2.2 mi_X0_digest ml_RL_304 (RMok.mk)) ⟨PJ.blind (zAnd_ok zC_ok (zAnd_ok (zAnd_ok zDg_ok zDg_ok) (zAnd_ok zR_ok zS_ok))), (my_recv (i0 := 0) (ci := 2) hK hP rfl rfl rfl), fun U hU hW => ⟨rfl, my_preJ (zAnd_ok zC_ok (zAnd_ok (zAnd_ok zDg_ok zDg_ok) (zAnd_ok zR_ok zS_ok))) hz.2.1 hS hA hK hP hD [0, 1, 2, 3, 4] rfl rfl U hU hW⟩⟩ rfl rfl hl.1 rfl (lv_room (Nat.le_of_ble_eq_true rfl)) dL_law_2969 ⟨by omega, by omega⟩) hP hD hS hA [0, 1, 2, 3, 4] rfl [5, 6, 7, 8] rfl (by decide) [4, 5, 6, 7, 8, 0, 1, 2, 3] (fun _ => rfl) rfl (fun u1 H locs hp_1 hP hD hS => ?_)
  have hP : va_P D KL [(x, .inr (2, [.ref bx, .ref px, .ref t, .int ak, .int su, .int gt, .int lf, .int rf, .int kn])), (bx, .inl (cI, 6, .inl f)), (px, .inl (cI, 2, .inl g)), (t, .inr (1, [.ref bt, .int 0, .int u1.1, .int u1.2.1])), (bt, .inl (cB, 16, .inl u1.2.2)), (o, .inr (4, [.int th, .ref bo, .ref po, .int ak', .int su', .int gt', .int lf', .int rf', .int kn'])), (bo, .inl (cI, 6, .inl h)), (po, .inl (cI, 2, .inl j)), (q, .inr (3, [.long n0, sv]))] H := hP
  have hD : va_D (fun q => s.heap.size ≤ q) [(x, .inr (2, [.ref bx, .ref px, .ref t, .int ak, .int su, .int gt, .int lf, .int rf, .int kn])), (bx, .inl (cI, 6, .inl f)), (px, .inl (cI, 2, .inl g)), (t, .inr (1, [.ref bt, .int 0, .int u1.1, .int u1.2.1])), (bt, .inl (cB, 16, .inl u1.2.2)), (o, .inr (4, [.int th, .ref bo, .ref po, .int ak', .int su', .int gt', .int lf', .int rf', .int kn'])), (bo, .inl (cI, 6, .inl h)), (po, .inl (cI, 2, .inl j)), (q, .inr (3, [.long n0, sv]))] := hD
  refine W.eq (g2 := F0 m 2972 ls [.long (y_dig f g ak su gt lf rf kn)]) rfl ?_
  refine lv_aload_n FX.1 FX.2.1 dL_law_2972 rfl (lv_at hl 2 rfl) ?_
  refine c_J (W0 := [(o, .inr (4, [.int th, .ref bo, .ref po, .int ak', .int su', .int gt', .int lf', .int rf', .int kn'])), (bo, .inl (cI, 6, .inl h)), (po, .inl (cI, 2, .inl j))]) (wr := [(x, .inr (2, [.ref bx, .ref px, .ref t, .int ak, .int su, .int gt, .int lf, .int rf, .int kn])), (bx, .inl (cI, 6, .inl f)), (px, .inl (cI, 2, .inl g)), (t, .inr (1, [.ref bt, .int 0, .int u1.1, .int u1.2.1])), (bt, .inl (cB, 16, .inl u1.2.2)), (q, .inr (3, [.long n0, sv]))]) (wsN := fun _ => [(x, .inr (2, [.ref bx, .ref px, .ref t, .int ak, .int su, .int gt, .int lf, .int rf, .int kn])), (bx, .inl (cI, 6, .inl f)), (px, .inl (cI, 2, .inl g)), (t, .inr (1, [.ref bt, .int 0, .int u1.1, .int u1.2.1])), (bt, .inl (cB, 16, .inl u1.2.2)), (o, .inr (4, [.int 0, .ref bo, .ref po, .int ak', .int su', .int gt', .int lf', .int rf', .int kn'])), (bo, .inl (cI, 6, .inl h)), (po, .inl (cI, 2, .inl j)), (q, .inr (3, [.long n0, sv]))]) (va_runV FX ((j_X2_digest l D cI cB o bo po th h j ak' su' gt' lf' rf' kn' to tt go gu nb nw nh ea ew ef hfe hI.okm6) H.size) (my_cwV FX.2.2.2.2 mi_X2_digest ml_RL_308 (RMok.mk)) ⟨PJ.blind (zAnd_ok zC_ok (zAnd_ok (zAnd_ok zDg_ok zDg_ok) (zAnd_ok (zAnd_ok zR_ok zS_ok) (zAnd_ok zR_ok zS_ok)))), (my_recv (i0 := 5) (ci := 4) hK hP rfl rfl rfl), fun U hU hW => ⟨rfl, my_preJ (zAnd_ok zC_ok (zAnd_ok (zAnd_ok zDg_ok zDg_ok) (zAnd_ok (zAnd_ok zR_ok zS_ok) (zAnd_ok zR_ok zS_ok)))) hz.2.2 hS hA hK hP hD [5, 6, 7] rfl rfl U hU hW⟩⟩ rfl rfl hl.1 rfl (lv_room (Nat.le_of_ble_eq_true rfl)) dL_law_2973 ⟨by omega, by omega⟩) hP hD hS hA [5, 6, 7] rfl [0, 1, 2, 3, 4, 8] rfl (by decide) [0, 1, 2, 3, 4, 6, 7, 8, 5] (fun _ => rfl) rfl (fun u2 H locs hp_2 hP hD hS => ?_)
  have hP : va_P D KL [(x, .inr (2, [.ref bx, .ref px, .ref t, .int ak, .int su, .int gt, .int lf, .int rf, .int kn])), (bx, .inl (cI, 6, .inl f)), (px, .inl (cI, 2, .inl g)), (t, .inr (1, [.ref bt, .int 0, .int u1.1, .int u1.2.1])), (bt, .inl (cB, 16, .inl u1.2.2)), (o, .inr (4, [.int 0, .ref bo, .ref po, .int ak', .int su', .int gt', .int lf', .int rf', .int kn'])), (bo, .inl (cI, 6, .inl h)), (po, .inl (cI, 2, .inl j)), (q, .inr (3, [.long n0, sv]))] H := hP
  have hD : va_D (fun q => s.heap.size ≤ q) [(x, .inr (2, [.ref bx, .ref px, .ref t, .int ak, .int su, .int gt, .int lf, .int rf, .int kn])), (bx, .inl (cI, 6, .inl f)), (px, .inl (cI, 2, .inl g)), (t, .inr (1, [.ref bt, .int 0, .int u1.1, .int u1.2.1])), (bt, .inl (cB, 16, .inl u1.2.2)), (o, .inr (4, [.int 0, .ref bo, .ref po, .int ak', .int su', .int gt', .int lf', .int rf', .int kn'])), (bo, .inl (cI, 6, .inl h)), (po, .inl (cI, 2, .inl j)), (q, .inr (3, [.long n0, sv]))] := hD
  refine W.eq (g2 := F0 m 2976 ls [.long (m_dig h j ak' su' gt' lf' rf' kn'), .long (y_dig f g ak su gt lf rf kn)]) rfl ?_
  refine W.eq (g2 := F0 m 2976 ls [.long (m_dig h j ak' su' gt' lf' rf' kn'), .long (m_dig h j ak' su' gt' lf' rf' kn')]) (by rw [st_digest hI]) ?_
  refine W.lcmp FX.1 FX.2.1 dL_law_2976 ?_
  refine W.eq (g2 := F0 m 2977 ls [.int 0]) (by rw [lg_self]) ?_
  refine lv_if_eq (tgt := 2982) FX.1 FX.2.1 dL_law_2977 (by decide) (fun c_1 => ?_) (fun c_1 => ?_)
  · refine W.widen (k := cc + 33) (n := ss + 321) (by omega) (by omega) ?_
    exact kk H locs f g ak su gt lf rf kn u1.1 u1.2.1 u1.2.2 0 h j ak' su' gt' lf' rf' kn' n0 sv ls hI hp_1.1 hp_1.2 hP hD hS (lv_sub hl [0, 1, 2, 3, 4] rfl)
  · exact absurd c_1 (by decide)
