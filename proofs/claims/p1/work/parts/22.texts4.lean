set_option maxRecDepth 20000 in
theorem ml_RX2_160 : Cond.methodLink RX2 160 yX2_add ∈ bigW := bt6 5 rfl rfl
set_option maxRecDepth 20000 in
theorem mi_X2_add : MIs yX2_add cX2_add 4 (some .long) 2 := ⟨⟨bt6 7 rfl rfl, bt1 6 rfl rfl, by decide, by decide, by decide +kernel⟩, bt6 6 rfl rfl⟩
set_option maxRecDepth 20000 in
theorem ml_RX2_164 : Cond.methodLink RX2 164 yJ0_length_8abf5 ∈ bigW := bt6 9 rfl rfl
set_option maxRecDepth 20000 in
theorem cL_RX2_158 : Cond.constantLong RX2 158 (7715) ∈ bigW := bt6 4 rfl rfl
theorem dX2_digest_0 : decode cX2_digest 0 = .ok (.aload_n 0, 1) := by decide +kernel
theorem dX2_digest_1 : decode cX2_digest 1 = .ok (.iconst 0, 1) := by decide +kernel
theorem dX2_digest_2 : decode cX2_digest 2 = .ok (.putfield 17, 3) := by decide +kernel
theorem dX2_digest_5 : decode cX2_digest 5 = .ok (.ldc2_w 158, 3) := by decide +kernel
theorem dX2_digest_8 : decode cX2_digest 8 = .ok (.lstore_n 1, 1) := by decide +kernel
theorem dX2_digest_9 : decode cX2_digest 9 = .ok (.iconst 0, 1) := by decide +kernel
theorem dX2_digest_10 : decode cX2_digest 10 = .ok (.istore_n 3, 1) := by decide +kernel
theorem dX2_digest_11 : decode cX2_digest 11 = .ok (.iload_n 3, 1) := by decide +kernel
theorem dX2_digest_12 : decode cX2_digest 12 = .ok (.bipush 9, 2) := by decide +kernel
theorem dX2_digest_14 : decode cX2_digest 14 = .ok (.if_icmp .ge 20, 3) := by decide +kernel
theorem dX2_digest_17 : decode cX2_digest 17 = .ok (.lload_n 1, 1) := by decide +kernel
theorem dX2_digest_18 : decode cX2_digest 18 = .ok (.aload_n 0, 1) := by decide +kernel
theorem dX2_digest_19 : decode cX2_digest 19 = .ok (.iload_n 3, 1) := by decide +kernel
theorem dX2_digest_20 : decode cX2_digest 20 = .ok (.invokevirtual 149, 3) := by decide +kernel
theorem dX2_digest_23 : decode cX2_digest 23 = .ok (.i2l, 1) := by decide +kernel
theorem dX2_digest_24 : decode cX2_digest 24 = .ok (.invokestatic 160, 3) := by decide +kernel
theorem dX2_digest_27 : decode cX2_digest 27 = .ok (.lstore_n 1, 1) := by decide +kernel
theorem dX2_digest_28 : decode cX2_digest 28 = .ok (.iinc 3 1, 3) := by decide +kernel
theorem dX2_digest_31 : decode cX2_digest 31 = .ok (.goto (-20), 3) := by decide +kernel
theorem dX2_digest_34 : decode cX2_digest 34 = .ok (.aload_n 0, 1) := by decide +kernel
theorem dX2_digest_35 : decode cX2_digest 35 = .ok (.getfield 10, 3) := by decide +kernel
theorem dX2_digest_38 : decode cX2_digest 38 = .ok (.astore_n 3, 1) := by decide +kernel
theorem dX2_digest_39 : decode cX2_digest 39 = .ok (.aload_n 3, 1) := by decide +kernel
theorem dX2_digest_40 : decode cX2_digest 40 = .ok (.arraylength, 1) := by decide +kernel
theorem dX2_digest_41 : decode cX2_digest 41 = .ok (.istore 4, 2) := by decide +kernel
theorem dX2_digest_43 : decode cX2_digest 43 = .ok (.iconst 0, 1) := by decide +kernel
theorem dX2_digest_44 : decode cX2_digest 44 = .ok (.istore 5, 2) := by decide +kernel
theorem dX2_digest_46 : decode cX2_digest 46 = .ok (.iload 5, 2) := by decide +kernel
theorem dX2_digest_48 : decode cX2_digest 48 = .ok (.iload 4, 2) := by decide +kernel
theorem dX2_digest_50 : decode cX2_digest 50 = .ok (.if_icmp .ge 121, 3) := by decide +kernel
theorem dX2_digest_53 : decode cX2_digest 53 = .ok (.aload_n 3, 1) := by decide +kernel
theorem dX2_digest_54 : decode cX2_digest 54 = .ok (.iload 5, 2) := by decide +kernel
theorem dX2_digest_56 : decode cX2_digest 56 = .ok (.iaload, 1) := by decide +kernel
theorem dX2_digest_57 : decode cX2_digest 57 = .ok (.istore 6, 2) := by decide +kernel
theorem dX2_digest_59 : decode cX2_digest 59 = .ok (.lload_n 1, 1) := by decide +kernel
theorem dX2_digest_60 : decode cX2_digest 60 = .ok (.iload 6, 2) := by decide +kernel
theorem dX2_digest_62 : decode cX2_digest 62 = .ok (.ldc 9, 2) := by decide +kernel
theorem dX2_digest_64 : decode cX2_digest 64 = .ok (.if_icmp .eq 7, 3) := by decide +kernel
theorem dX2_digest_67 : decode cX2_digest 67 = .ok (.iconst 1, 1) := by decide +kernel
theorem dX2_digest_68 : decode cX2_digest 68 = .ok (.goto 4, 3) := by decide +kernel
theorem dX2_digest_71 : decode cX2_digest 71 = .ok (.iconst 0, 1) := by decide +kernel
theorem dX2_digest_72 : decode cX2_digest 72 = .ok (.invokestatic 32, 3) := by decide +kernel
theorem dX2_digest_75 : decode cX2_digest 75 = .ok (.i2l, 1) := by decide +kernel
theorem dX2_digest_76 : decode cX2_digest 76 = .ok (.invokestatic 160, 3) := by decide +kernel
theorem dX2_digest_79 : decode cX2_digest 79 = .ok (.iload 6, 2) := by decide +kernel
theorem dX2_digest_81 : decode cX2_digest 81 = .ok (.invokestatic 88, 3) := by decide +kernel
theorem dX2_digest_84 : decode cX2_digest 84 = .ok (.i2l, 1) := by decide +kernel
theorem dX2_digest_85 : decode cX2_digest 85 = .ok (.invokestatic 160, 3) := by decide +kernel
theorem dX2_digest_88 : decode cX2_digest 88 = .ok (.iload 6, 2) := by decide +kernel
theorem dX2_digest_90 : decode cX2_digest 90 = .ok (.invokestatic 142, 3) := by decide +kernel
theorem dX2_digest_93 : decode cX2_digest 93 = .ok (.invokevirtual 164, 3) := by decide +kernel
theorem dX2_digest_96 : decode cX2_digest 96 = .ok (.i2l, 1) := by decide +kernel
theorem dX2_digest_97 : decode cX2_digest 97 = .ok (.invokestatic 160, 3) := by decide +kernel
theorem dX2_digest_100 : decode cX2_digest 100 = .ok (.lstore_n 1, 1) := by decide +kernel
theorem dX2_digest_101 : decode cX2_digest 101 = .ok (.aload_n 0, 1) := by decide +kernel
theorem dX2_digest_102 : decode cX2_digest 102 = .ok (.getfield 10, 3) := by decide +kernel
theorem dX2_digest_105 : decode cX2_digest 105 = .ok (.astore 7, 2) := by decide +kernel
theorem dX2_digest_107 : decode cX2_digest 107 = .ok (.aload 7, 2) := by decide +kernel
theorem dX2_digest_109 : decode cX2_digest 109 = .ok (.arraylength, 1) := by decide +kernel
theorem dX2_digest_110 : decode cX2_digest 110 = .ok (.istore 8, 2) := by decide +kernel
theorem dX2_digest_112 : decode cX2_digest 112 = .ok (.iconst 0, 1) := by decide +kernel
theorem dX2_digest_113 : decode cX2_digest 113 = .ok (.istore 9, 2) := by decide +kernel
theorem dX2_digest_115 : decode cX2_digest 115 = .ok (.iload 9, 2) := by decide +kernel
theorem dX2_digest_117 : decode cX2_digest 117 = .ok (.iload 8, 2) := by decide +kernel
theorem dX2_digest_119 : decode cX2_digest 119 = .ok (.if_icmp .ge 46, 3) := by decide +kernel
theorem dX2_digest_122 : decode cX2_digest 122 = .ok (.aload 7, 2) := by decide +kernel
theorem dX2_digest_124 : decode cX2_digest 124 = .ok (.iload 9, 2) := by decide +kernel
theorem dX2_digest_126 : decode cX2_digest 126 = .ok (.iaload, 1) := by decide +kernel
theorem dX2_digest_127 : decode cX2_digest 127 = .ok (.istore 10, 2) := by decide +kernel
theorem dX2_digest_129 : decode cX2_digest 129 = .ok (.iconst 0, 1) := by decide +kernel
theorem dX2_digest_130 : decode cX2_digest 130 = .ok (.istore 11, 2) := by decide +kernel
theorem dX2_digest_132 : decode cX2_digest 132 = .ok (.iload 11, 2) := by decide +kernel
theorem dX2_digest_134 : decode cX2_digest 134 = .ok (.iconst 3, 1) := by decide +kernel
theorem dX2_digest_135 : decode cX2_digest 135 = .ok (.if_icmp .ge 24, 3) := by decide +kernel
theorem dX2_digest_138 : decode cX2_digest 138 = .ok (.lload_n 1, 1) := by decide +kernel
theorem dX2_digest_139 : decode cX2_digest 139 = .ok (.iload 6, 2) := by decide +kernel
theorem dX2_digest_141 : decode cX2_digest 141 = .ok (.iload 10, 2) := by decide +kernel
theorem dX2_digest_143 : decode cX2_digest 143 = .ok (.iload 11, 2) := by decide +kernel
theorem dX2_digest_145 : decode cX2_digest 145 = .ok (.invokestatic 103, 3) := by decide +kernel
theorem dX2_digest_148 : decode cX2_digest 148 = .ok (.i2l, 1) := by decide +kernel
theorem dX2_digest_149 : decode cX2_digest 149 = .ok (.invokestatic 160, 3) := by decide +kernel
theorem dX2_digest_152 : decode cX2_digest 152 = .ok (.lstore_n 1, 1) := by decide +kernel
theorem dX2_digest_153 : decode cX2_digest 153 = .ok (.iinc 11 1, 3) := by decide +kernel
theorem dX2_digest_156 : decode cX2_digest 156 = .ok (.goto (-24), 3) := by decide +kernel
theorem dX2_digest_159 : decode cX2_digest 159 = .ok (.iinc 9 1, 3) := by decide +kernel
theorem dX2_digest_162 : decode cX2_digest 162 = .ok (.goto (-47), 3) := by decide +kernel
theorem dX2_digest_165 : decode cX2_digest 165 = .ok (.iinc 5 1, 3) := by decide +kernel
theorem dX2_digest_168 : decode cX2_digest 168 = .ok (.goto (-122), 3) := by decide +kernel
theorem dX2_digest_171 : decode cX2_digest 171 = .ok (.lload_n 1, 1) := by decide +kernel
theorem dX2_digest_172 : decode cX2_digest 172 = .ok (.aload_n 0, 1) := by decide +kernel
theorem dX2_digest_173 : decode cX2_digest 173 = .ok (.iconst 0, 1) := by decide +kernel
theorem dX2_digest_174 : decode cX2_digest 174 = .ok (.iconst 1, 1) := by decide +kernel
theorem dX2_digest_175 : decode cX2_digest 175 = .ok (.iconst 2, 1) := by decide +kernel
theorem dX2_digest_176 : decode cX2_digest 176 = .ok (.invokevirtual 106, 3) := by decide +kernel
theorem dX2_digest_179 : decode cX2_digest 179 = .ok (.i2l, 1) := by decide +kernel
theorem dX2_digest_180 : decode cX2_digest 180 = .ok (.invokestatic 160, 3) := by decide +kernel
theorem dX2_digest_183 : decode cX2_digest 183 = .ok (.aload_n 0, 1) := by decide +kernel
theorem dX2_digest_184 : decode cX2_digest 184 = .ok (.iconst 3, 1) := by decide +kernel
theorem dX2_digest_185 : decode cX2_digest 185 = .ok (.iconst 4, 1) := by decide +kernel
theorem dX2_digest_186 : decode cX2_digest 186 = .ok (.iconst 5, 1) := by decide +kernel
theorem dX2_digest_187 : decode cX2_digest 187 = .ok (.invokevirtual 106, 3) := by decide +kernel
theorem dX2_digest_190 : decode cX2_digest 190 = .ok (.i2l, 1) := by decide +kernel
theorem dX2_digest_191 : decode cX2_digest 191 = .ok (.invokestatic 160, 3) := by decide +kernel
theorem dX2_digest_194 : decode cX2_digest 194 = .ok (.lstore_n 1, 1) := by decide +kernel
theorem dX2_digest_195 : decode cX2_digest 195 = .ok (.aload_n 0, 1) := by decide +kernel
theorem dX2_digest_196 : decode cX2_digest 196 = .ok (.getfield 14, 3) := by decide +kernel
theorem dX2_digest_199 : decode cX2_digest 199 = .ok (.astore_n 3, 1) := by decide +kernel
theorem dX2_digest_200 : decode cX2_digest 200 = .ok (.aload_n 3, 1) := by decide +kernel
theorem dX2_digest_201 : decode cX2_digest 201 = .ok (.arraylength, 1) := by decide +kernel
theorem dX2_digest_202 : decode cX2_digest 202 = .ok (.istore 4, 2) := by decide +kernel
theorem dX2_digest_204 : decode cX2_digest 204 = .ok (.iconst 0, 1) := by decide +kernel
theorem dX2_digest_205 : decode cX2_digest 205 = .ok (.istore 5, 2) := by decide +kernel
theorem dX2_digest_207 : decode cX2_digest 207 = .ok (.iload 5, 2) := by decide +kernel
theorem dX2_digest_209 : decode cX2_digest 209 = .ok (.iload 4, 2) := by decide +kernel
theorem dX2_digest_211 : decode cX2_digest 211 = .ok (.if_icmp .ge 45, 3) := by decide +kernel
theorem dX2_digest_214 : decode cX2_digest 214 = .ok (.aload_n 3, 1) := by decide +kernel
theorem dX2_digest_215 : decode cX2_digest 215 = .ok (.iload 5, 2) := by decide +kernel
theorem dX2_digest_217 : decode cX2_digest 217 = .ok (.iaload, 1) := by decide +kernel
theorem dX2_digest_218 : decode cX2_digest 218 = .ok (.istore 6, 2) := by decide +kernel
theorem dX2_digest_220 : decode cX2_digest 220 = .ok (.lload_n 1, 1) := by decide +kernel
theorem dX2_digest_221 : decode cX2_digest 221 = .ok (.iload 6, 2) := by decide +kernel
theorem dX2_digest_223 : decode cX2_digest 223 = .ok (.ldc 9, 2) := by decide +kernel
theorem dX2_digest_225 : decode cX2_digest 225 = .ok (.if_icmp .eq 7, 3) := by decide +kernel
theorem dX2_digest_228 : decode cX2_digest 228 = .ok (.iconst 1, 1) := by decide +kernel
theorem dX2_digest_229 : decode cX2_digest 229 = .ok (.goto 4, 3) := by decide +kernel
theorem dX2_digest_232 : decode cX2_digest 232 = .ok (.iconst 0, 1) := by decide +kernel
theorem dX2_digest_233 : decode cX2_digest 233 = .ok (.invokestatic 32, 3) := by decide +kernel
theorem dX2_digest_236 : decode cX2_digest 236 = .ok (.i2l, 1) := by decide +kernel
theorem dX2_digest_237 : decode cX2_digest 237 = .ok (.invokestatic 160, 3) := by decide +kernel
theorem dX2_digest_240 : decode cX2_digest 240 = .ok (.iload 6, 2) := by decide +kernel
theorem dX2_digest_242 : decode cX2_digest 242 = .ok (.invokestatic 88, 3) := by decide +kernel
theorem dX2_digest_245 : decode cX2_digest 245 = .ok (.i2l, 1) := by decide +kernel
theorem dX2_digest_246 : decode cX2_digest 246 = .ok (.invokestatic 160, 3) := by decide +kernel
theorem dX2_digest_249 : decode cX2_digest 249 = .ok (.lstore_n 1, 1) := by decide +kernel
theorem dX2_digest_250 : decode cX2_digest 250 = .ok (.iinc 5 1, 3) := by decide +kernel
theorem dX2_digest_253 : decode cX2_digest 253 = .ok (.goto (-46), 3) := by decide +kernel
theorem dX2_digest_256 : decode cX2_digest 256 = .ok (.lload_n 1, 1) := by decide +kernel
theorem dX2_digest_257 : decode cX2_digest 257 = .ok (.aload_n 0, 1) := by decide +kernel
theorem dX2_digest_258 : decode cX2_digest 258 = .ok (.invokevirtual 152, 3) := by decide +kernel
theorem dX2_digest_261 : decode cX2_digest 261 = .ok (.invokestatic 32, 3) := by decide +kernel
theorem dX2_digest_264 : decode cX2_digest 264 = .ok (.i2l, 1) := by decide +kernel
theorem dX2_digest_265 : decode cX2_digest 265 = .ok (.invokestatic 160, 3) := by decide +kernel
theorem dX2_digest_268 : decode cX2_digest 268 = .ok (.lreturn, 1) := by decide +kernel
set_option maxRecDepth 100000 in
set_option maxHeartbeats 4000000 in
theorem j_J0_coder_in (l : Launch) (D : va_G) (cI cB : ClassId) (sx sv : Nat) : JW (S := Unit) l yJ0_coder_7d493 cJ0_coder_7d493 1 (some .byte) ({ frames := 0, cells := 0, slots := 0, locals := 0 } : Room) D cI cB [.ref sx] [(sx, .inr (0, [.ref sv, .int 0, .int 0, .int 0]))] zC (fun _ => some (.int 0)) (fun _ => True) (fun _ => [(sx, .inr (0, [.ref sv, .int 0, .int 0, .int 0]))]) 0 0 := by
  refine bodyJ (by decide +kernel) (Nat.le_of_ble_eq_true rfl) (fun p e s m args below meth c ls A ZZ => ?_)
  obtain ⟨FX, hr, hlk, hK, hP, hD, hS, hA, hz, hnm, hl⟩ := ZZ
  have hl : lv_has ls 1 [(0, .ref sx)] := hl
  have hP : va_P D KL [(sx, .inr (0, [.ref sv, .int 0, .int 0, .int 0]))] s.heap := hP
  refine va_gets FX.1 FX.2.1 hz hS FX.2.2.2.1 (FX.2.2.2.2 _ fl_RJ0_38) (fun _ h9 => h9) dJ0_coder_7d493_0 ?_
  refine lv_if_eq (tgt := 13) FX.1 FX.2.1 dJ0_coder_7d493_3 (by decide) (fun c_1 => ?_) (fun c_1 => ?_)
  · exact absurd c_1 (by decide)
  · refine lv_aload_n FX.1 FX.2.1 dJ0_coder_7d493_6 rfl (lv_at hl 0 rfl) ?_
    refine va_get (D := D) (ci := 0) (v := .int 0) (C := RJ0) (T := TJ0) (N := 4) FX.1 FX.2.1 FX.2.2.2.2 inJ0 FX.2.2.2.1 hK hP 0 rfl rfl 1 (by decide) (FX.2.2.2.2 _ fl_RJ0_15) (fun _ h9 => h9) rfl dJ0_coder_7d493_7 ?_
    refine lv_goto (tgt := 14) FX.1 FX.2.1 dJ0_coder_7d493_10 (by decide) ?_
    exact retJi () FX hr hlk dJ0_coder_7d493_14 rfl hP hK hD hS (by decide) (by decide) rfl trivial
set_option maxRecDepth 100000 in
set_option maxHeartbeats 4000000 in
theorem j_J0_length_in (l : Launch) (D : va_G) (cI cB : ClassId) (sx sv k : Nat) (sf : Nat → Int32) : JW (S := Unit) l yJ0_length_8abf5 cJ0_length_8abf5 1 (some .int) ({ frames := 1, cells := 0, slots := 0, locals := 20 } : Room) D cI cB [.ref sx] [(sx, .inr (0, [.ref sv, .int 0, .int 0, .int 0])), (sv, .inl (cB, k, .inl sf))] zC (fun _ => some (.int (nI k))) (fun _ => True) (fun _ => [(sx, .inr (0, [.ref sv, .int 0, .int 0, .int 0])), (sv, .inl (cB, k, .inl sf))]) 0 0 := by
  refine bodyJ (by decide +kernel) (Nat.le_of_ble_eq_true rfl) (fun p e s m args below meth c ls A ZZ => ?_)
  obtain ⟨FX, hr, hlk, hK, hP, hD, hS, hA, hz, hnm, hl⟩ := ZZ
  have hl : lv_has ls 1 [(0, .ref sx)] := hl
  have hP : va_P D KL [(sx, .inr (0, [.ref sv, .int 0, .int 0, .int 0])), (sv, .inl (cB, k, .inl sf))] s.heap := hP
  refine lv_aload_n FX.1 FX.2.1 dJ0_length_8abf5_0 rfl (lv_at hl 0 rfl) ?_
  refine va_get (D := D) (ci := 0) (v := .ref sv) (C := RJ0) (T := TJ0) (N := 4) FX.1 FX.2.1 FX.2.2.2.2 inJ0 FX.2.2.2.1 hK hP 0 rfl rfl 0 (by decide) (FX.2.2.2.2 _ fl_RJ0_9) (fun _ h9 => h9) rfl dJ0_length_8abf5_1 ?_
  refine va_alen FX.1 FX.2.1 hK hP 1 1 rfl rfl (v := nI k) (by rfl) dJ0_length_8abf5_4 ?_
  refine lv_aload_n FX.1 FX.2.1 dJ0_length_8abf5_5 rfl (lv_at hl 0 rfl) ?_
  refine c_J (W0 := [(sx, .inr (0, [.ref sv, .int 0, .int 0, .int 0]))]) (wr := [(sv, .inl (cB, k, .inl sf))]) (wsN := fun _ => [(sx, .inr (0, [.ref sv, .int 0, .int 0, .int 0])), (sv, .inl (cB, k, .inl sf))]) (va_runV FX ((j_J0_coder_in l D cI cB sx sv) s.heap.size) (my_cwV FX.2.2.2.2 mi_J0_coder_7d493 ml_RJ0_335 (RMok.mk)) ⟨PJ.blind zC_ok, (my_recv (i0 := 0) (ci := 0) hK hP rfl rfl rfl), fun U hU hW => ⟨rfl, my_preJ zC_ok hz hS hA hK hP hD [0] rfl rfl U hU hW⟩⟩ rfl rfl hl.1 rfl (lv_room (Nat.le_of_ble_eq_true rfl)) dJ0_length_8abf5_6 (by decide)) hP hD hS hA [0] rfl [1] rfl (by decide) [1, 0] (fun _ => rfl) rfl (fun u1 H locs hp_1 hP hD hS => ?_)
  have hP : va_P D KL [(sx, .inr (0, [.ref sv, .int 0, .int 0, .int 0])), (sv, .inl (cB, k, .inl sf))] H := hP
  have hD : va_D A [(sx, .inr (0, [.ref sv, .int 0, .int 0, .int 0])), (sv, .inl (cB, k, .inl sf))] := hD
  refine W.eq (g2 := F0 m 9 ls [.int 0, .int (nI k)]) rfl ?_
  refine p_ishr0 FX dJ0_length_8abf5_9 ?_
  exact retJi () FX hr hlk dJ0_length_8abf5_10 rfl hP hK hD hS (by decide) (by decide) rfl trivial
def mlen (v : Int32) : Int32 := if v = -100000 then 4 else v_J6_stringSize_0f7a4 v
def m_hs (f g : Nat → Int32) (ak su gt lf rf kn : Int32) : Nat → Int64
  | 0 => 7715
  | n + 1 => v_X2_add (m_hs f g ak su gt lf rf kn n) (v_X2_houseTold (nI n) f g ak su gt lf rf kn).toInt64
def m_in (a b : Int32) (d : Int64) : Nat → Int64
  | 0 => d
  | n + 1 => v_X2_add (m_in a b d n) (v_X2_compared a b (nI n)).toInt64
def m_out (f : Nat → Int32) (a : Int32) (d : Int64) : Nat → Int64
  | 0 => d
  | n + 1 => m_in a (f n) (m_out f a d n) 3
def m_bx (f : Nat → Int32) (d : Int64) : Nat → Int64
  | 0 => d
  | n + 1 => m_out f (f n) (v_X2_add (v_X2_add (v_X2_add (m_bx f d n) (mfull (f n)).toInt64) (v_X2_codeTold (f n)).toInt64) (mlen (f n)).toInt64) 6
def m_pl (g : Nat → Int32) (d : Int64) : Nat → Int64
  | 0 => d
  | n + 1 => v_X2_add (v_X2_add (m_pl g d n) (mfull (g n)).toInt64) (v_X2_codeTold (g n)).toInt64
def m_dig (f g : Nat → Int32) (ak su gt lf rf kn : Int32) : Int64 :=
  v_X2_add (m_pl g (v_X2_add (v_X2_add (m_bx f (m_hs f g ak su gt lf rf kn 9) 6) (v_X2_codesTold 0 1 2 f).toInt64) (v_X2_codesTold 3 4 5 f).toInt64) 2) (v_X2_one 1).toInt64
set_option maxRecDepth 100000 in
set_option maxHeartbeats 4000000 in
theorem LJ_X2_digest_11 {p : Program} {l : Launch} {e : Env} {R : Room} {s : State} {m : MethodId} {args : Array Value} {below : List Frame} {meth : Method} {c : Code} {Q : State → Prop} {A : Nat → Prop} (D : va_G) (cI cB : ClassId) (o bo po : Nat) (th : Int32) (f g : Nat → Int32) (ak su gt lf rf kn : Int32) (to tt : Nat) (go gu : Nat → Int32) (na nv : Nat) (nf : Nat → Int32) (ea ew : Nat) (ef : Nat → Int32) (hfe : sb_Fit ef) (ho6 : okm6 f) (c0 s0 : Nat) (hRf : 2 ≤ R.frames) (hRl : 47 ≤ R.locals) (hRc : c0 + 9 ≤ R.cells) (hRs : s0 + 81 ≤ R.slots) (FX : CallFix p m c cX2_digest 12 s args bigW RX2) (hK : va_K D KL (TY cI cB) s) (hA : ∀ q : Nat, s.heap.size ≤ q → A q) (hz : (zAnd zC (zAnd (zAnd (zDg "DigitOnes" to go) (zDg "DigitTens" tt gu)) (zAnd (zAnd (zR RX2 124 "none" na) (zS na nv 4 nf)) (zAnd (zR RX2 129 "" ea) (zS ea ew 0 ef))))) A s s.heap)
    (kk : ∀ (ls : Array Slot) (H : Heap) (locs : List Loc), va_P D KL [(o, .inr (4, [.int 0, .ref bo, .ref po, .int ak, .int su, .int gt, .int lf, .int rf, .int kn])), (bo, .inl (cI, 6, .inl f)), (po, .inl (cI, 2, .inl g))] H → va_D A [(o, .inr (4, [.int 0, .ref bo, .ref po, .int ak, .int su, .int gt, .int lf, .int rf, .int kn])), (bo, .inl (cI, 6, .inl f)), (po, .inl (cI, 2, .inl g))] → va_S A s.heap H locs → lv_has ls 12 [(3, .int 9), (0, .ref o), (1, .long (m_hs f g ak su gt lf rf kn (9)))] → W p l e R s m args below meth c H locs (c0 + 1 * 9) (s0 + 9 * 9) Q (F0 m 34 ls [])) : ∀ (j i : Nat), i + j = 9 → ∀ (H : Heap) (locs : List Loc), va_P D KL [(o, .inr (4, [.int 0, .ref bo, .ref po, .int ak, .int su, .int gt, .int lf, .int rf, .int kn])), (bo, .inl (cI, 6, .inl f)), (po, .inl (cI, 2, .inl g))] H → va_D A [(o, .inr (4, [.int 0, .ref bo, .ref po, .int ak, .int su, .int gt, .int lf, .int rf, .int kn])), (bo, .inl (cI, 6, .inl f)), (po, .inl (cI, 2, .inl g))] → va_S A s.heap H locs → ∀ ls : Array Slot, lv_has ls 12 [(3, .int (nI i)), (0, .ref o), (1, .long (m_hs f g ak su gt lf rf kn (i)))] → W p l e R s m args below meth c H locs (c0 + 1 * i) (s0 + 9 * i) Q (F0 m 11 ls []) := by
  intro j
  induction j with
  | zero =>
    intro i hij H locs hP hD hS ls hl
    obtain rfl : i = 9 := by omega
    have hl : lv_has ls 12 [(3, .int 9), (0, .ref o), (1, .long (m_hs f g ak su gt lf rf kn (9)))] := hl
    refine lv_iload_n FX.1 FX.2.1 dX2_digest_11 rfl (lv_at hl 0 rfl) ?_
    refine lv_bipush (v := 9) FX.1 FX.2.1 dX2_digest_12 (by decide) ?_
    refine lv_icmp_ge (tgt := 34) FX.1 FX.2.1 dX2_digest_14 (by decide) (fun c_101 => ?_) (fun c_101 => ?_)
    · exact kk ls H locs hP hD hS (lv_sub hl [0, 1, 2] rfl)
    · exact absurd c_101 (by decide)
  | succ j ih =>
    intro i hij H locs hP hD hS ls hl
    have hlt : i < 9 := by omega
    refine lv_iload_n FX.1 FX.2.1 dX2_digest_11 rfl (lv_at hl 0 rfl) ?_
    refine lv_bipush (v := 9) FX.1 FX.2.1 dX2_digest_12 (by decide) ?_
    refine lv_icmp_ge (tgt := 34) FX.1 FX.2.1 dX2_digest_14 (by decide) (fun c_1 => ?_) (fun c_1 => ?_)
    · exact absurd c_1 (nI_ge (b := 9) hlt (by decide))
    · refine lv_lload_n FX.1 FX.2.1 dX2_digest_17 rfl (lv_at hl 2 rfl) ?_
      refine lv_aload_n FX.1 FX.2.1 dX2_digest_18 rfl (lv_at hl 1 rfl) ?_
      refine lv_iload_n FX.1 FX.2.1 dX2_digest_19 rfl (lv_at hl 0 rfl) ?_
      refine c_WRV (wr := []) (wsN := [(o, .inr (4, [.int 0, .ref bo, .ref po, .int ak, .int su, .int gt, .int lf, .int rf, .int kn])), (bo, .inl (cI, 6, .inl f)), (po, .inl (cI, 2, .inl g))]) (i0 := 0) (ci := 4) FX (k_X2_houseTold l D cI cB o bo po 0 f g ak su gt lf rf kn (nI i) (vp_in_nI hlt (by decide))) mi_X2_houseTold rfl ml_RX2_149 (RMk2.mk hRf hRl) hl.1 rfl (Nat.le_of_ble_eq_true rfl) dX2_digest_20 ⟨by omega, by omega⟩ hK hP hD hS hA [0, 1, 2] rfl [] rfl rfl (by decide) [0, 1, 2] rfl rfl rfl rfl rfl (fun H locs hP hD hS => ?_)
      refine lv_i2l (v := (v_X2_houseTold (nI i) f g ak su gt lf rf kn).toInt64) FX.1 FX.2.1 dX2_digest_23 rfl ?_
      refine c_RDls FX (r_X2_add l D cI cB (m_hs f g ak su gt lf rf kn (i)) ((v_X2_houseTold (nI i) f g ak su gt lf rf kn).toInt64)) mi_X2_add rfl ml_RX2_160 (RMk2.mk hRf hRl) hl.1 rfl (Nat.le_of_ble_eq_true rfl) dX2_digest_24 ⟨by omega, by omega⟩ hK hP [] rfl ?_
      refine lv_lstore_n (lv' := [(1, .long (v_X2_add (m_hs f g ak su gt lf rf kn (i)) ((v_X2_houseTold (nI i) f g ak su gt lf rf kn).toInt64))), (3, .int (nI i)), (0, .ref o)]) FX.1 FX.2.1 dX2_digest_27 rfl hl (by decide) rfl (fun ls hl => ?_)
      refine lv_iinc (v := nI (i + 1)) (lv' := [(3, .int (nI (i + 1))), (1, .long (v_X2_add (m_hs f g ak su gt lf rf kn (i)) ((v_X2_houseTold (nI i) f g ak su gt lf rf kn).toInt64))), (0, .ref o)]) FX.1 FX.2.1 dX2_digest_28 hl (k := 1) rfl (by exact nI_1 _) (by decide) rfl (fun ls hl => ?_)
      refine lv_goto (tgt := 11) FX.1 FX.2.1 dX2_digest_31 (by decide) ?_
      refine W.widen (k := c0 + 1 * (i + 1)) (n := s0 + 9 * (i + 1)) (by omega) (by omega) ?_
      exact ih (i + 1) (by omega) _ _ (hP.sub (ws' := [(o, .inr (4, [.int 0, .ref bo, .ref po, .int ak, .int su, .int gt, .int lf, .int rf, .int kn])), (bo, .inl (cI, 6, .inl f)), (po, .inl (cI, 2, .inl g))]) [0, 1, 2] rfl) (hD.sub (ws' := [(o, .inr (4, [.int 0, .ref bo, .ref po, .int ak, .int su, .int gt, .int lf, .int rf, .int kn])), (bo, .inl (cI, 6, .inl f)), (po, .inl (cI, 2, .inl g))]) [0, 1, 2] (by decide) rfl) hS ls (lv_sub hl [0, 2, 1] rfl)
set_option maxRecDepth 100000 in
set_option maxHeartbeats 4000000 in
theorem L_X2_digest_132 {p : Program} {l : Launch} {e : Env} {R : Room} {s : State} {m : MethodId} {args : Array Value} {below : List Frame} {meth : Method} {c : Code} {H : Heap} {locs : List Loc} {cells slots : Nat} {Q : State → Prop} (D : va_G) (cI cB : ClassId) (o bo po : Nat) (th : Int32) (f g : Nat → Int32) (ak su gt lf rf kn : Int32) (i : Nat) (hlti : i < 6) (k : Nat) (hltk : k < 6) (d0 : Int64) (hRf : 2 ≤ R.frames) (hRl : 49 ≤ R.locals) (hf : cells ≤ R.cells ∧ slots ≤ R.slots) (FX : CallFix p m c cX2_digest 12 s args bigW RX2) (hK : va_K D KL (TY cI cB) s) (hP : va_P D KL (wM cI o bo po th f g ak su gt lf rf kn) H)
    (kk : ∀ ls : Array Slot, lv_has ls 12 [(0, .ref o), (3, .ref bo), (4, .int 6), (5, .int (nI i)), (6, .int (f i)), (7, .ref bo), (8, .int 6), (11, .int 3), (9, .int (nI k)), (10, .int (f k)), (1, .long (m_in (f i) (f k) d0 (3)))] → W p l e R s m args below meth c H locs cells slots Q (F0 m 159 ls [])) : ∀ (j r : Nat), r + j = 3 → ∀ ls : Array Slot, lv_has ls 12 [(0, .ref o), (3, .ref bo), (4, .int 6), (5, .int (nI i)), (6, .int (f i)), (7, .ref bo), (8, .int 6), (11, .int (nI r)), (9, .int (nI k)), (10, .int (f k)), (1, .long (m_in (f i) (f k) d0 (r)))] → W p l e R s m args below meth c H locs cells slots Q (F0 m 132 ls []) := by
  intro j
  induction j with
  | zero =>
    intro r hij ls hl
    obtain rfl : r = 3 := by omega
    have hl : lv_has ls 12 [(0, .ref o), (3, .ref bo), (4, .int 6), (5, .int (nI i)), (6, .int (f i)), (7, .ref bo), (8, .int 6), (11, .int 3), (9, .int (nI k)), (10, .int (f k)), (1, .long (m_in (f i) (f k) d0 (3)))] := hl
    refine lv_iload FX.1 FX.2.1 dX2_digest_132 (lv_at hl 7 rfl) ?_
    refine lv_iconst (v := 3) FX.1 FX.2.1 dX2_digest_134 (by decide) ?_
    refine lv_icmp_ge (tgt := 159) FX.1 FX.2.1 dX2_digest_135 (by decide) (fun c_101 => ?_) (fun c_101 => ?_)
    · exact kk ls (lv_sub hl [0, 1, 2, 3, 4, 5, 6, 7, 8, 9, 10] rfl)
    · exact absurd c_101 (by decide)
  | succ j ih =>
    intro r hij ls hl
    have hlt : r < 3 := by omega
    refine lv_iload FX.1 FX.2.1 dX2_digest_132 (lv_at hl 7 rfl) ?_
    refine lv_iconst (v := 3) FX.1 FX.2.1 dX2_digest_134 (by decide) ?_
    refine lv_icmp_ge (tgt := 159) FX.1 FX.2.1 dX2_digest_135 (by decide) (fun c_1 => ?_) (fun c_1 => ?_)
    · exact absurd c_1 (nI_ge (b := 3) hlt (by decide))
    · refine lv_lload_n FX.1 FX.2.1 dX2_digest_138 rfl (lv_at hl 10 rfl) ?_
      refine lv_iload FX.1 FX.2.1 dX2_digest_139 (lv_at hl 4 rfl) ?_
      refine lv_iload FX.1 FX.2.1 dX2_digest_141 (lv_at hl 9 rfl) ?_
      refine lv_iload FX.1 FX.2.1 dX2_digest_143 (lv_at hl 7 rfl) ?_
      refine c_RDs FX (r_X2_compared l D cI cB (f i) (f k) (nI r)) mi_X2_compared rfl ml_RX2_103 (RMk.mk hRf hRl) hl.1 rfl (Nat.le_of_ble_eq_true rfl) dX2_digest_145 hf hK hP [] rfl ?_
      refine lv_i2l (v := (v_X2_compared (f i) (f k) (nI r)).toInt64) FX.1 FX.2.1 dX2_digest_148 rfl ?_
      refine c_RDls FX (r_X2_add l D cI cB (m_in (f i) (f k) d0 (r)) ((v_X2_compared (f i) (f k) (nI r)).toInt64)) mi_X2_add rfl ml_RX2_160 (RMk.mk hRf hRl) hl.1 rfl (Nat.le_of_ble_eq_true rfl) dX2_digest_149 hf hK hP [] rfl ?_
      refine lv_lstore_n (lv' := [(1, .long (v_X2_add (m_in (f i) (f k) d0 (r)) ((v_X2_compared (f i) (f k) (nI r)).toInt64))), (0, .ref o), (3, .ref bo), (4, .int 6), (5, .int (nI i)), (6, .int (f i)), (7, .ref bo), (8, .int 6), (11, .int (nI r)), (9, .int (nI k)), (10, .int (f k))]) FX.1 FX.2.1 dX2_digest_152 rfl hl (by decide) rfl (fun ls hl => ?_)
      refine lv_iinc (v := nI (r + 1)) (lv' := [(11, .int (nI (r + 1))), (1, .long (v_X2_add (m_in (f i) (f k) d0 (r)) ((v_X2_compared (f i) (f k) (nI r)).toInt64))), (0, .ref o), (3, .ref bo), (4, .int 6), (5, .int (nI i)), (6, .int (f i)), (7, .ref bo), (8, .int 6), (9, .int (nI k)), (10, .int (f k))]) FX.1 FX.2.1 dX2_digest_153 hl (k := 8) rfl (by exact nI_1 _) (by decide) rfl (fun ls hl => ?_)
      refine lv_goto (tgt := 132) FX.1 FX.2.1 dX2_digest_156 (by decide) ?_
      exact ih (r + 1) (by omega) ls (lv_sub hl [2, 3, 4, 5, 6, 7, 8, 0, 9, 10, 1] rfl)
set_option maxRecDepth 100000 in
set_option maxHeartbeats 4000000 in
theorem L_X2_digest_115 {p : Program} {l : Launch} {e : Env} {R : Room} {s : State} {m : MethodId} {args : Array Value} {below : List Frame} {meth : Method} {c : Code} {H : Heap} {locs : List Loc} {cells slots : Nat} {Q : State → Prop} (D : va_G) (cI cB : ClassId) (o bo po : Nat) (th : Int32) (f g : Nat → Int32) (ak su gt lf rf kn : Int32) (i : Nat) (hlti : i < 6) (d8 : Int64) (hRf : 2 ≤ R.frames) (hRl : 49 ≤ R.locals) (hf : cells ≤ R.cells ∧ slots ≤ R.slots) (FX : CallFix p m c cX2_digest 12 s args bigW RX2) (hK : va_K D KL (TY cI cB) s) (hP : va_P D KL (wM cI o bo po th f g ak su gt lf rf kn) H)
    (kk : ∀ ls : Array Slot, lv_has ls 12 [(0, .ref o), (3, .ref bo), (4, .int 6), (5, .int (nI i)), (6, .int (f i)), (7, .ref bo), (8, .int 6), (9, .int 6), (1, .long (m_out f (f i) d8 (6)))] → W p l e R s m args below meth c H locs cells slots Q (F0 m 165 ls [])) : ∀ (j k : Nat), k + j = 6 → ∀ ls : Array Slot, lv_has ls 12 [(0, .ref o), (3, .ref bo), (4, .int 6), (5, .int (nI i)), (6, .int (f i)), (7, .ref bo), (8, .int 6), (9, .int (nI k)), (1, .long (m_out f (f i) d8 (k)))] → W p l e R s m args below meth c H locs cells slots Q (F0 m 115 ls []) := by
  intro j
  induction j with
  | zero =>
    intro k hij ls hl
    obtain rfl : k = 6 := by omega
    have hl : lv_has ls 12 [(0, .ref o), (3, .ref bo), (4, .int 6), (5, .int (nI i)), (6, .int (f i)), (7, .ref bo), (8, .int 6), (9, .int 6), (1, .long (m_out f (f i) d8 (6)))] := hl
    refine lv_iload FX.1 FX.2.1 dX2_digest_115 (lv_at hl 7 rfl) ?_
    refine lv_iload FX.1 FX.2.1 dX2_digest_117 (lv_at hl 6 rfl) ?_
    refine lv_icmp_ge (tgt := 165) FX.1 FX.2.1 dX2_digest_119 (by decide) (fun c_101 => ?_) (fun c_101 => ?_)
    · exact kk ls (lv_sub hl [0, 1, 2, 3, 4, 5, 6, 7, 8] rfl)
    · exact absurd c_101 (by decide)
  | succ j ih =>
    intro k hij ls hl
    have hlt : k < 6 := by omega
    refine lv_iload FX.1 FX.2.1 dX2_digest_115 (lv_at hl 7 rfl) ?_
    refine lv_iload FX.1 FX.2.1 dX2_digest_117 (lv_at hl 6 rfl) ?_
    refine lv_icmp_ge (tgt := 165) FX.1 FX.2.1 dX2_digest_119 (by decide) (fun c_1 => ?_) (fun c_1 => ?_)
    · exact absurd c_1 (nI_ge (b := 6) hlt (by decide))
    · refine lv_aload FX.1 FX.2.1 dX2_digest_122 (lv_at hl 5 rfl) ?_
      refine lv_iload FX.1 FX.2.1 dX2_digest_124 (lv_at hl 7 rfl) ?_
      refine p_iald (v := f k) FX hK hP 1 rfl (vp_in_nI hlt (by decide)) dX2_digest_126 (congrArg f (nI_clamp (by omega))) ?_
      refine lv_istore (lv' := [(10, .int (f k)), (0, .ref o), (3, .ref bo), (4, .int 6), (5, .int (nI i)), (6, .int (f i)), (7, .ref bo), (8, .int 6), (9, .int (nI k)), (1, .long (m_out f (f i) d8 (k)))]) FX.1 FX.2.1 dX2_digest_127 hl (by decide) rfl (fun ls hl => ?_)
      refine lv_iconst (v := 0) FX.1 FX.2.1 dX2_digest_129 (by decide) ?_
      refine lv_istore (lv' := [(11, .int 0), (10, .int (f k)), (0, .ref o), (3, .ref bo), (4, .int 6), (5, .int (nI i)), (6, .int (f i)), (7, .ref bo), (8, .int 6), (9, .int (nI k)), (1, .long (m_out f (f i) d8 (k)))]) FX.1 FX.2.1 dX2_digest_130 hl (by decide) rfl (fun ls hl => ?_)
      refine L_X2_digest_132 D cI cB o bo po th f g ak su gt lf rf kn i hlti k hlt (m_out f (f i) d8 (k)) (Nat.le_trans (Nat.le_of_ble_eq_true rfl) hRf) (Nat.le_trans (Nat.le_of_ble_eq_true rfl) hRl) hf FX hK hP (fun ls hl => ?_) 3 0 (by omega) ls (lv_sub hl [2, 3, 4, 5, 6, 7, 8, 0, 9, 1, 10] rfl)
      refine lv_iinc (v := nI (k + 1)) (lv' := [(9, .int (nI (k + 1))), (0, .ref o), (3, .ref bo), (4, .int 6), (5, .int (nI i)), (6, .int (f i)), (7, .ref bo), (8, .int 6), (11, .int 3), (10, .int (f k)), (1, .long (m_in (f i) (f k) (m_out f (f i) d8 (k)) (3)))]) FX.1 FX.2.1 dX2_digest_159 hl (k := 8) rfl (by exact nI_1 _) (by decide) rfl (fun ls hl => ?_)
      refine lv_goto (tgt := 115) FX.1 FX.2.1 dX2_digest_162 (by decide) ?_
      exact ih (k + 1) (by omega) ls (lv_sub hl [1, 2, 3, 4, 5, 6, 7, 0, 10] rfl)
set_option maxRecDepth 100000 in
set_option maxHeartbeats 4000000 in
theorem LJ_X2_digest_46 {p : Program} {l : Launch} {e : Env} {R : Room} {s : State} {m : MethodId} {args : Array Value} {below : List Frame} {meth : Method} {c : Code} {Q : State → Prop} {A : Nat → Prop} (D : va_G) (cI cB : ClassId) (o bo po : Nat) (th : Int32) (f g : Nat → Int32) (ak su gt lf rf kn : Int32) (to tt : Nat) (go gu : Nat → Int32) (na nv : Nat) (nf : Nat → Int32) (ea ew : Nat) (ef : Nat → Int32) (d9 : Int64) (hfe : sb_Fit ef) (ho6 : okm6 f) (c0 s0 : Nat) (hRf : 7 ≤ R.frames) (hRl : 191 ≤ R.locals) (hRc : c0 + 24 ≤ R.cells) (hRs : s0 + 240 ≤ R.slots) (FX : CallFix p m c cX2_digest 12 s args bigW RX2) (hK : va_K D KL (TY cI cB) s) (hA : ∀ q : Nat, s.heap.size ≤ q → A q) (hz : (zAnd zC (zAnd (zAnd (zDg "DigitOnes" to go) (zDg "DigitTens" tt gu)) (zAnd (zAnd (zR RX2 124 "none" na) (zS na nv 4 nf)) (zAnd (zR RX2 129 "" ea) (zS ea ew 0 ef))))) A s s.heap)
    (kk : ∀ (ls : Array Slot) (H : Heap) (locs : List Loc), va_P D KL [(o, .inr (4, [.int 0, .ref bo, .ref po, .int ak, .int su, .int gt, .int lf, .int rf, .int kn])), (bo, .inl (cI, 6, .inl f)), (po, .inl (cI, 2, .inl g))] H → va_D A [(o, .inr (4, [.int 0, .ref bo, .ref po, .int ak, .int su, .int gt, .int lf, .int rf, .int kn])), (bo, .inl (cI, 6, .inl f)), (po, .inl (cI, 2, .inl g))] → va_S A s.heap H locs → lv_has ls 12 [(0, .ref o), (1, .long (m_bx f d9 (6))), (3, .ref bo), (4, .int 6), (5, .int 6)] → W p l e R s m args below meth c H locs (c0 + 4 * 6) (s0 + 40 * 6) Q (F0 m 171 ls [])) : ∀ (j i : Nat), i + j = 6 → ∀ (H : Heap) (locs : List Loc), va_P D KL [(o, .inr (4, [.int 0, .ref bo, .ref po, .int ak, .int su, .int gt, .int lf, .int rf, .int kn])), (bo, .inl (cI, 6, .inl f)), (po, .inl (cI, 2, .inl g))] H → va_D A [(o, .inr (4, [.int 0, .ref bo, .ref po, .int ak, .int su, .int gt, .int lf, .int rf, .int kn])), (bo, .inl (cI, 6, .inl f)), (po, .inl (cI, 2, .inl g))] → va_S A s.heap H locs → ∀ ls : Array Slot, lv_has ls 12 [(0, .ref o), (1, .long (m_bx f d9 (i))), (3, .ref bo), (4, .int 6), (5, .int (nI i))] → W p l e R s m args below meth c H locs (c0 + 4 * i) (s0 + 40 * i) Q (F0 m 46 ls []) := by
  intro j
  induction j with
  | zero =>
    intro i hij H locs hP hD hS ls hl
    obtain rfl : i = 6 := by omega
    have hl : lv_has ls 12 [(0, .ref o), (1, .long (m_bx f d9 (6))), (3, .ref bo), (4, .int 6), (5, .int 6)] := hl
    refine lv_iload FX.1 FX.2.1 dX2_digest_46 (lv_at hl 4 rfl) ?_
    refine lv_iload FX.1 FX.2.1 dX2_digest_48 (lv_at hl 3 rfl) ?_
    refine lv_icmp_ge (tgt := 171) FX.1 FX.2.1 dX2_digest_50 (by decide) (fun c_101 => ?_) (fun c_101 => ?_)
    · exact kk ls H locs hP hD hS (lv_sub hl [0, 1, 2, 3, 4] rfl)
    · exact absurd c_101 (by decide)
  | succ j ih =>
    intro i hij H locs hP hD hS ls hl
    have hlt : i < 6 := by omega
    refine lv_iload FX.1 FX.2.1 dX2_digest_46 (lv_at hl 4 rfl) ?_
    refine lv_iload FX.1 FX.2.1 dX2_digest_48 (lv_at hl 3 rfl) ?_
    refine lv_icmp_ge (tgt := 171) FX.1 FX.2.1 dX2_digest_50 (by decide) (fun c_1 => ?_) (fun c_1 => ?_)
    · exact absurd c_1 (nI_ge (b := 6) hlt (by decide))
    · refine lv_aload_n FX.1 FX.2.1 dX2_digest_53 rfl (lv_at hl 2 rfl) ?_
      refine lv_iload FX.1 FX.2.1 dX2_digest_54 (lv_at hl 4 rfl) ?_
      refine p_iald (v := f i) FX hK hP 1 rfl (vp_in_nI hlt (by decide)) dX2_digest_56 (congrArg f (nI_clamp (by omega))) ?_
      refine lv_istore (lv' := [(6, .int (f i)), (0, .ref o), (1, .long (m_bx f d9 (i))), (3, .ref bo), (4, .int 6), (5, .int (nI i))]) FX.1 FX.2.1 dX2_digest_57 hl (by decide) rfl (fun ls hl => ?_)
      refine lv_lload_n FX.1 FX.2.1 dX2_digest_59 rfl (lv_at hl 2 rfl) ?_
      refine lv_iload FX.1 FX.2.1 dX2_digest_60 (lv_at hl 0 rfl) ?_
      refine lv_ldc (v := (-100000)) FX.1 FX.2.1 FX.2.2.2.1 (FX.2.2.2.2 _ co_RX2_9) dX2_digest_62 ?_
      refine lv_icmp_eq (tgt := 71) FX.1 FX.2.1 dX2_digest_64 (by decide) (fun c_2 => ?_) (fun c_2 => ?_)
      · refine lv_iconst (v := 0) FX.1 FX.2.1 dX2_digest_71 (by decide) ?_
        refine c_RDs FX (r_X2_one l D cI cB 0) mi_X2_one rfl ml_RX2_32 (RMk2.mk hRf hRl) hl.1 rfl (Nat.le_of_ble_eq_true rfl) dX2_digest_72 ⟨by omega, by omega⟩ hK hP [] rfl ?_
        refine lv_i2l (v := (v_X2_one 0).toInt64) FX.1 FX.2.1 dX2_digest_75 rfl ?_
        refine c_RDls FX (r_X2_add l D cI cB (m_bx f d9 (i)) ((v_X2_one 0).toInt64)) mi_X2_add rfl ml_RX2_160 (RMk2.mk hRf hRl) hl.1 rfl (Nat.le_of_ble_eq_true rfl) dX2_digest_76 ⟨by omega, by omega⟩ hK hP [] rfl ?_
        refine lv_iload FX.1 FX.2.1 dX2_digest_79 (lv_at hl 0 rfl) ?_
        refine c_RDs FX (r_X2_codeTold l D cI cB (f i)) mi_X2_codeTold rfl ml_RX2_88 (RMk2.mk hRf hRl) hl.1 rfl (Nat.le_of_ble_eq_true rfl) dX2_digest_81 ⟨by omega, by omega⟩ hK hP [] rfl ?_
        refine lv_i2l (v := (v_X2_codeTold (f i)).toInt64) FX.1 FX.2.1 dX2_digest_84 rfl ?_
        refine c_RDls FX (r_X2_add l D cI cB (v_X2_add (m_bx f d9 (i)) ((v_X2_one 0).toInt64)) ((v_X2_codeTold (f i)).toInt64)) mi_X2_add rfl ml_RX2_160 (RMk2.mk hRf hRl) hl.1 rfl (Nat.le_of_ble_eq_true rfl) dX2_digest_85 ⟨by omega, by omega⟩ hK hP [] rfl ?_
        refine lv_iload FX.1 FX.2.1 dX2_digest_88 (lv_at hl 0 rfl) ?_
        refine W.eq (g2 := F0 m 90 ls [.int (-100000), .long (v_X2_add (v_X2_add (m_bx f d9 (i)) ((v_X2_one 0).toInt64)) ((v_X2_codeTold (f i)).toInt64))]) (by rw [c_2]) ?_
        refine c_J (W0 := []) (wr := [(o, .inr (4, [.int 0, .ref bo, .ref po, .int ak, .int su, .int gt, .int lf, .int rf, .int kn])), (bo, .inl (cI, 6, .inl f)), (po, .inl (cI, 2, .inl g))]) (wsN := fun _ => [(o, .inr (4, [.int 0, .ref bo, .ref po, .int ak, .int su, .int gt, .int lf, .int rf, .int kn])), (bo, .inl (cI, 6, .inl f)), (po, .inl (cI, 2, .inl g))]) (va_runS FX ((j_X2_toldOf_0 l D cI cB to tt go gu na nv nf ea ew ef) H.size) (my_cwS FX.2.2.2.2 mi_X2_toldOf ml_RX2_142 (RMk2.mk hRf hRl)) ⟨PJ.blind (zAnd_ok zC_ok (zAnd_ok (zAnd_ok zDg_ok zDg_ok) (zAnd_ok (zAnd_ok zR_ok zS_ok) (zAnd_ok zR_ok zS_ok)))), fun U hU hW => ⟨rfl, my_preJ (zAnd_ok zC_ok (zAnd_ok (zAnd_ok zDg_ok zDg_ok) (zAnd_ok (zAnd_ok zR_ok zS_ok) (zAnd_ok zR_ok zS_ok)))) hz hS hA hK hP hD [] rfl rfl U hU hW⟩⟩ rfl rfl hl.1 rfl (lv_room (Nat.le_of_ble_eq_true rfl)) dX2_digest_90 ⟨by omega, by omega⟩) hP hD hS hA [] rfl [0, 1, 2] rfl (by decide) [0, 1, 2] (fun _ => rfl) rfl (fun u1 H locs hp_1 hP hD hS => ?_)
        have hP : va_P D KL [(o, .inr (4, [.int 0, .ref bo, .ref po, .int ak, .int su, .int gt, .int lf, .int rf, .int kn])), (bo, .inl (cI, 6, .inl f)), (po, .inl (cI, 2, .inl g))] H := hP
        have hD : va_D A [(o, .inr (4, [.int 0, .ref bo, .ref po, .int ak, .int su, .int gt, .int lf, .int rf, .int kn])), (bo, .inl (cI, 6, .inl f)), (po, .inl (cI, 2, .inl g))] := hD
        refine W.eq (g2 := F0 m 93 ls [.ref na, .long (v_X2_add (v_X2_add (m_bx f d9 (i)) ((v_X2_one 0).toInt64)) ((v_X2_codeTold (f i)).toInt64))]) rfl ?_
        refine c_J (W0 := []) (wr := [(o, .inr (4, [.int 0, .ref bo, .ref po, .int ak, .int su, .int gt, .int lf, .int rf, .int kn])), (bo, .inl (cI, 6, .inl f)), (po, .inl (cI, 2, .inl g))]) (wsN := fun _ => [(o, .inr (4, [.int 0, .ref bo, .ref po, .int ak, .int su, .int gt, .int lf, .int rf, .int kn])), (bo, .inl (cI, 6, .inl f)), (po, .inl (cI, 2, .inl g))]) (va_runV FX ((j_J0_length_8abf5 l D cI cB na nv 4 nf) H.size) (my_cwV FX.2.2.2.2 mi_J0_length_8abf5 ml_RX2_164 (RMk2.mk hRf hRl)) ⟨PJ.blind (zAnd_ok zC_ok zS_ok), (zS_recv hz.2.2.1.2 hS), fun U hU hW => ⟨rfl, my_preJ (zAnd_ok zC_ok zS_ok) ⟨hz.1, hz.2.2.1.2⟩ hS hA hK hP hD [] rfl rfl U hU hW⟩⟩ rfl rfl hl.1 rfl (lv_room (Nat.le_of_ble_eq_true rfl)) dX2_digest_93 ⟨by omega, by omega⟩) hP hD hS hA [] rfl [0, 1, 2] rfl (by decide) [0, 1, 2] (fun _ => rfl) rfl (fun u2 H locs hp_2 hP hD hS => ?_)
        have hP : va_P D KL [(o, .inr (4, [.int 0, .ref bo, .ref po, .int ak, .int su, .int gt, .int lf, .int rf, .int kn])), (bo, .inl (cI, 6, .inl f)), (po, .inl (cI, 2, .inl g))] H := hP
        have hD : va_D A [(o, .inr (4, [.int 0, .ref bo, .ref po, .int ak, .int su, .int gt, .int lf, .int rf, .int kn])), (bo, .inl (cI, 6, .inl f)), (po, .inl (cI, 2, .inl g))] := hD
        refine W.eq (g2 := F0 m 96 ls [.int 4, .long (v_X2_add (v_X2_add (m_bx f d9 (i)) ((v_X2_one 0).toInt64)) ((v_X2_codeTold (f i)).toInt64))]) rfl ?_
        refine lv_i2l (v := (4 : Int32).toInt64) FX.1 FX.2.1 dX2_digest_96 rfl ?_
        refine c_RDls FX (r_X2_add l D cI cB (v_X2_add (v_X2_add (m_bx f d9 (i)) ((v_X2_one 0).toInt64)) ((v_X2_codeTold (f i)).toInt64)) ((4 : Int32).toInt64)) mi_X2_add rfl ml_RX2_160 (RMk2.mk hRf hRl) hl.1 rfl (Nat.le_of_ble_eq_true rfl) dX2_digest_97 ⟨by omega, by omega⟩ hK hP [] rfl ?_
        refine lv_lstore_n (lv' := [(1, .long (v_X2_add (v_X2_add (v_X2_add (m_bx f d9 (i)) ((v_X2_one 0).toInt64)) ((v_X2_codeTold (f i)).toInt64)) ((4 : Int32).toInt64))), (6, .int (f i)), (0, .ref o), (3, .ref bo), (4, .int 6), (5, .int (nI i))]) FX.1 FX.2.1 dX2_digest_100 rfl hl (by decide) rfl (fun ls hl => ?_)
        refine lv_aload_n FX.1 FX.2.1 dX2_digest_101 rfl (lv_at hl 2 rfl) ?_
        refine va_get (D := D) (ci := 4) (v := .ref bo) (C := RX2) (T := TX2) (N := 9) FX.1 FX.2.1 FX.2.2.2.2 inX2 FX.2.2.2.1 hK hP 0 rfl rfl 1 (by decide) (FX.2.2.2.2 _ fl_RX2_10) (fun _ h9 => h9) rfl dX2_digest_102 ?_
        refine lv_astore (lv' := [(7, .ref bo), (1, .long (v_X2_add (v_X2_add (v_X2_add (m_bx f d9 (i)) ((v_X2_one 0).toInt64)) ((v_X2_codeTold (f i)).toInt64)) ((4 : Int32).toInt64))), (6, .int (f i)), (0, .ref o), (3, .ref bo), (4, .int 6), (5, .int (nI i))]) FX.1 FX.2.1 dX2_digest_105 hl (by decide) rfl (fun ls hl => ?_)
        refine lv_aload FX.1 FX.2.1 dX2_digest_107 (lv_at hl 0 rfl) ?_
        refine va_alen FX.1 FX.2.1 hK hP 1 0 rfl rfl (v := 6) (by rfl) dX2_digest_109 ?_
        refine lv_istore (lv' := [(8, .int 6), (7, .ref bo), (1, .long (v_X2_add (v_X2_add (v_X2_add (m_bx f d9 (i)) ((v_X2_one 0).toInt64)) ((v_X2_codeTold (f i)).toInt64)) ((4 : Int32).toInt64))), (6, .int (f i)), (0, .ref o), (3, .ref bo), (4, .int 6), (5, .int (nI i))]) FX.1 FX.2.1 dX2_digest_110 hl (by decide) rfl (fun ls hl => ?_)
        refine lv_iconst (v := 0) FX.1 FX.2.1 dX2_digest_112 (by decide) ?_
        refine lv_istore (lv' := [(9, .int 0), (8, .int 6), (7, .ref bo), (1, .long (v_X2_add (v_X2_add (v_X2_add (m_bx f d9 (i)) ((v_X2_one 0).toInt64)) ((v_X2_codeTold (f i)).toInt64)) ((4 : Int32).toInt64))), (6, .int (f i)), (0, .ref o), (3, .ref bo), (4, .int 6), (5, .int (nI i))]) FX.1 FX.2.1 dX2_digest_113 hl (by decide) rfl (fun ls hl => ?_)
        refine L_X2_digest_115 D cI cB o bo po 0 f g ak su gt lf rf kn i hlt (v_X2_add (v_X2_add (v_X2_add (m_bx f d9 (i)) ((v_X2_one 0).toInt64)) ((v_X2_codeTold (f i)).toInt64)) ((4 : Int32).toInt64)) (Nat.le_trans (Nat.le_of_ble_eq_true rfl) hRf) (Nat.le_trans (Nat.le_of_ble_eq_true rfl) hRl) ⟨by omega, by omega⟩ FX hK (hP.sub (ws' := (wM cI o bo po 0 f g ak su gt lf rf kn)) [0, 1, 2] rfl) (fun ls hl => ?_) 6 0 (by omega) ls (lv_sub hl [5, 6, 7, 8, 4, 2, 1, 0, 3] rfl)
        refine lv_iinc (v := nI (i + 1)) (lv' := [(5, .int (nI (i + 1))), (0, .ref o), (3, .ref bo), (4, .int 6), (6, .int (f i)), (7, .ref bo), (8, .int 6), (9, .int 6), (1, .long (m_out f (f i) (v_X2_add (v_X2_add (v_X2_add (m_bx f d9 (i)) ((v_X2_one 0).toInt64)) ((v_X2_codeTold (f i)).toInt64)) ((4 : Int32).toInt64)) (6)))]) FX.1 FX.2.1 dX2_digest_165 hl (k := 3) rfl (by exact nI_1 _) (by decide) rfl (fun ls hl => ?_)
        refine lv_goto (tgt := 46) FX.1 FX.2.1 dX2_digest_168 (by decide) ?_
        have ez : m_out f (f i) (v_X2_add (v_X2_add (v_X2_add (m_bx f d9 (i)) ((v_X2_one 0).toInt64)) ((v_X2_codeTold (f i)).toInt64)) ((4 : Int32).toInt64)) (6) = m_bx f d9 (i + 1) := by rw [m_bx, mfull, mlen, if_pos c_2, if_pos c_2]
        rw [ez] at hl
        refine W.widen (k := c0 + 4 * (i + 1)) (n := s0 + 40 * (i + 1)) (by omega) (by omega) ?_
        exact ih (i + 1) (by omega) _ _ (hP.sub (ws' := [(o, .inr (4, [.int 0, .ref bo, .ref po, .int ak, .int su, .int gt, .int lf, .int rf, .int kn])), (bo, .inl (cI, 6, .inl f)), (po, .inl (cI, 2, .inl g))]) [0, 1, 2] rfl) (hD.sub (ws' := [(o, .inr (4, [.int 0, .ref bo, .ref po, .int ak, .int su, .int gt, .int lf, .int rf, .int kn])), (bo, .inl (cI, 6, .inl f)), (po, .inl (cI, 2, .inl g))]) [0, 1, 2] (by decide) rfl) hS ls (lv_sub hl [1, 8, 2, 3, 0] rfl)
      · refine lv_iconst (v := 1) FX.1 FX.2.1 dX2_digest_67 (by decide) ?_
        refine lv_goto (tgt := 72) FX.1 FX.2.1 dX2_digest_68 (by decide) ?_
        refine c_RDs FX (r_X2_one l D cI cB 1) mi_X2_one rfl ml_RX2_32 (RMk2.mk hRf hRl) hl.1 rfl (Nat.le_of_ble_eq_true rfl) dX2_digest_72 ⟨by omega, by omega⟩ hK hP [] rfl ?_
        refine lv_i2l (v := (v_X2_one 1).toInt64) FX.1 FX.2.1 dX2_digest_75 rfl ?_
        refine c_RDls FX (r_X2_add l D cI cB (m_bx f d9 (i)) ((v_X2_one 1).toInt64)) mi_X2_add rfl ml_RX2_160 (RMk2.mk hRf hRl) hl.1 rfl (Nat.le_of_ble_eq_true rfl) dX2_digest_76 ⟨by omega, by omega⟩ hK hP [] rfl ?_
        refine lv_iload FX.1 FX.2.1 dX2_digest_79 (lv_at hl 0 rfl) ?_
        refine c_RDs FX (r_X2_codeTold l D cI cB (f i)) mi_X2_codeTold rfl ml_RX2_88 (RMk2.mk hRf hRl) hl.1 rfl (Nat.le_of_ble_eq_true rfl) dX2_digest_81 ⟨by omega, by omega⟩ hK hP [] rfl ?_
        refine lv_i2l (v := (v_X2_codeTold (f i)).toInt64) FX.1 FX.2.1 dX2_digest_84 rfl ?_
        refine c_RDls FX (r_X2_add l D cI cB (v_X2_add (m_bx f d9 (i)) ((v_X2_one 1).toInt64)) ((v_X2_codeTold (f i)).toInt64)) mi_X2_add rfl ml_RX2_160 (RMk2.mk hRf hRl) hl.1 rfl (Nat.le_of_ble_eq_true rfl) dX2_digest_85 ⟨by omega, by omega⟩ hK hP [] rfl ?_
        refine lv_iload FX.1 FX.2.1 dX2_digest_88 (lv_at hl 0 rfl) ?_
        have hv := (ho6 i hlt).resolve_left c_2
        obtain ⟨k, hk1, hk, ek⟩ := size_in hv
        refine c_J (W0 := []) (wr := [(o, .inr (4, [.int 0, .ref bo, .ref po, .int ak, .int su, .int gt, .int lf, .int rf, .int kn])), (bo, .inl (cI, 6, .inl f)), (po, .inl (cI, 2, .inl g))]) (wsN := fun u3 => [(o, .inr (4, [.int 0, .ref bo, .ref po, .int ak, .int su, .int gt, .int lf, .int rf, .int kn])), (bo, .inl (cI, 6, .inl f)), (po, .inl (cI, 2, .inl g)), (u3.1, .inr (0, [.ref u3.2.1, .int 0, .int 0, .int 0])), (u3.2.1, .inl (cB, k, .inl u3.2.2))]) (va_runS FX ((j_X2_toldOf_1 l D cI cB (f i) k to tt go gu na nv nf ea ew ef hv hk ek hfe) H.size) (my_cwS FX.2.2.2.2 mi_X2_toldOf ml_RX2_142 (RMk2.mk hRf hRl)) ⟨PJ.blind (zAnd_ok zC_ok (zAnd_ok (zAnd_ok zDg_ok zDg_ok) (zAnd_ok (zAnd_ok zR_ok zS_ok) (zAnd_ok zR_ok zS_ok)))), fun U hU hW => ⟨rfl, my_preJ (zAnd_ok zC_ok (zAnd_ok (zAnd_ok zDg_ok zDg_ok) (zAnd_ok (zAnd_ok zR_ok zS_ok) (zAnd_ok zR_ok zS_ok)))) hz hS hA hK hP hD [] rfl rfl U hU hW⟩⟩ rfl rfl hl.1 rfl (lv_room (Nat.le_of_ble_eq_true rfl)) dX2_digest_90 ⟨by omega, by omega⟩) hP hD hS hA [] rfl [0, 1, 2] rfl (by decide) [0, 1, 2, 3, 4] (fun _ => rfl) rfl (fun u3 H locs hp_3 hP hD hS => ?_)
        have hP : va_P D KL [(o, .inr (4, [.int 0, .ref bo, .ref po, .int ak, .int su, .int gt, .int lf, .int rf, .int kn])), (bo, .inl (cI, 6, .inl f)), (po, .inl (cI, 2, .inl g)), (u3.1, .inr (0, [.ref u3.2.1, .int 0, .int 0, .int 0])), (u3.2.1, .inl (cB, k, .inl u3.2.2))] H := hP
        have hD : va_D A [(o, .inr (4, [.int 0, .ref bo, .ref po, .int ak, .int su, .int gt, .int lf, .int rf, .int kn])), (bo, .inl (cI, 6, .inl f)), (po, .inl (cI, 2, .inl g)), (u3.1, .inr (0, [.ref u3.2.1, .int 0, .int 0, .int 0])), (u3.2.1, .inl (cB, k, .inl u3.2.2))] := hD
        refine W.eq (g2 := F0 m 93 ls [.ref u3.1, .long (v_X2_add (v_X2_add (m_bx f d9 (i)) ((v_X2_one 1).toInt64)) ((v_X2_codeTold (f i)).toInt64))]) rfl ?_
        refine c_J (W0 := [(u3.1, .inr (0, [.ref u3.2.1, .int 0, .int 0, .int 0])), (u3.2.1, .inl (cB, k, .inl u3.2.2))]) (wr := [(o, .inr (4, [.int 0, .ref bo, .ref po, .int ak, .int su, .int gt, .int lf, .int rf, .int kn])), (bo, .inl (cI, 6, .inl f)), (po, .inl (cI, 2, .inl g))]) (wsN := fun _ => [(o, .inr (4, [.int 0, .ref bo, .ref po, .int ak, .int su, .int gt, .int lf, .int rf, .int kn])), (bo, .inl (cI, 6, .inl f)), (po, .inl (cI, 2, .inl g)), (u3.1, .inr (0, [.ref u3.2.1, .int 0, .int 0, .int 0])), (u3.2.1, .inl (cB, k, .inl u3.2.2))]) (va_runV FX ((j_J0_length_in l D cI cB u3.1 u3.2.1 k u3.2.2) H.size) (my_cwV FX.2.2.2.2 mi_J0_length_8abf5 ml_RX2_164 (RMk2.mk hRf hRl)) ⟨PJ.blind zC_ok, (my_recv (i0 := 3) (ci := 0) hK hP rfl rfl rfl), fun U hU hW => ⟨rfl, my_preJ zC_ok hz.1 hS hA hK hP hD [3, 4] rfl rfl U hU hW⟩⟩ rfl rfl hl.1 rfl (lv_room (Nat.le_of_ble_eq_true rfl)) dX2_digest_93 ⟨by omega, by omega⟩) hP hD hS hA [3, 4] rfl [0, 1, 2] rfl (by decide) [0, 1, 2, 3, 4] (fun _ => rfl) rfl (fun u4 H locs hp_4 hP hD hS => ?_)
        have hP : va_P D KL [(o, .inr (4, [.int 0, .ref bo, .ref po, .int ak, .int su, .int gt, .int lf, .int rf, .int kn])), (bo, .inl (cI, 6, .inl f)), (po, .inl (cI, 2, .inl g)), (u3.1, .inr (0, [.ref u3.2.1, .int 0, .int 0, .int 0])), (u3.2.1, .inl (cB, k, .inl u3.2.2))] H := hP
        have hD : va_D A [(o, .inr (4, [.int 0, .ref bo, .ref po, .int ak, .int su, .int gt, .int lf, .int rf, .int kn])), (bo, .inl (cI, 6, .inl f)), (po, .inl (cI, 2, .inl g)), (u3.1, .inr (0, [.ref u3.2.1, .int 0, .int 0, .int 0])), (u3.2.1, .inl (cB, k, .inl u3.2.2))] := hD
        refine W.eq (g2 := F0 m 96 ls [.int (nI k), .long (v_X2_add (v_X2_add (m_bx f d9 (i)) ((v_X2_one 1).toInt64)) ((v_X2_codeTold (f i)).toInt64))]) rfl ?_
        refine lv_i2l (v := (nI k).toInt64) FX.1 FX.2.1 dX2_digest_96 rfl ?_
        refine c_RDls FX (r_X2_add l D cI cB (v_X2_add (v_X2_add (m_bx f d9 (i)) ((v_X2_one 1).toInt64)) ((v_X2_codeTold (f i)).toInt64)) ((nI k).toInt64)) mi_X2_add rfl ml_RX2_160 (RMk2.mk hRf hRl) hl.1 rfl (Nat.le_of_ble_eq_true rfl) dX2_digest_97 ⟨by omega, by omega⟩ hK hP [] rfl ?_
        refine lv_lstore_n (lv' := [(1, .long (v_X2_add (v_X2_add (v_X2_add (m_bx f d9 (i)) ((v_X2_one 1).toInt64)) ((v_X2_codeTold (f i)).toInt64)) ((nI k).toInt64))), (6, .int (f i)), (0, .ref o), (3, .ref bo), (4, .int 6), (5, .int (nI i))]) FX.1 FX.2.1 dX2_digest_100 rfl hl (by decide) rfl (fun ls hl => ?_)
        refine lv_aload_n FX.1 FX.2.1 dX2_digest_101 rfl (lv_at hl 2 rfl) ?_
        refine va_get (D := D) (ci := 4) (v := .ref bo) (C := RX2) (T := TX2) (N := 9) FX.1 FX.2.1 FX.2.2.2.2 inX2 FX.2.2.2.1 hK hP 0 rfl rfl 1 (by decide) (FX.2.2.2.2 _ fl_RX2_10) (fun _ h9 => h9) rfl dX2_digest_102 ?_
        refine lv_astore (lv' := [(7, .ref bo), (1, .long (v_X2_add (v_X2_add (v_X2_add (m_bx f d9 (i)) ((v_X2_one 1).toInt64)) ((v_X2_codeTold (f i)).toInt64)) ((nI k).toInt64))), (6, .int (f i)), (0, .ref o), (3, .ref bo), (4, .int 6), (5, .int (nI i))]) FX.1 FX.2.1 dX2_digest_105 hl (by decide) rfl (fun ls hl => ?_)
        refine lv_aload FX.1 FX.2.1 dX2_digest_107 (lv_at hl 0 rfl) ?_
        refine va_alen FX.1 FX.2.1 hK hP 1 0 rfl rfl (v := 6) (by rfl) dX2_digest_109 ?_
        refine lv_istore (lv' := [(8, .int 6), (7, .ref bo), (1, .long (v_X2_add (v_X2_add (v_X2_add (m_bx f d9 (i)) ((v_X2_one 1).toInt64)) ((v_X2_codeTold (f i)).toInt64)) ((nI k).toInt64))), (6, .int (f i)), (0, .ref o), (3, .ref bo), (4, .int 6), (5, .int (nI i))]) FX.1 FX.2.1 dX2_digest_110 hl (by decide) rfl (fun ls hl => ?_)
        refine lv_iconst (v := 0) FX.1 FX.2.1 dX2_digest_112 (by decide) ?_
        refine lv_istore (lv' := [(9, .int 0), (8, .int 6), (7, .ref bo), (1, .long (v_X2_add (v_X2_add (v_X2_add (m_bx f d9 (i)) ((v_X2_one 1).toInt64)) ((v_X2_codeTold (f i)).toInt64)) ((nI k).toInt64))), (6, .int (f i)), (0, .ref o), (3, .ref bo), (4, .int 6), (5, .int (nI i))]) FX.1 FX.2.1 dX2_digest_113 hl (by decide) rfl (fun ls hl => ?_)
        refine L_X2_digest_115 D cI cB o bo po 0 f g ak su gt lf rf kn i hlt (v_X2_add (v_X2_add (v_X2_add (m_bx f d9 (i)) ((v_X2_one 1).toInt64)) ((v_X2_codeTold (f i)).toInt64)) ((nI k).toInt64)) (Nat.le_trans (Nat.le_of_ble_eq_true rfl) hRf) (Nat.le_trans (Nat.le_of_ble_eq_true rfl) hRl) ⟨by omega, by omega⟩ FX hK (hP.sub (ws' := (wM cI o bo po 0 f g ak su gt lf rf kn)) [0, 1, 2] rfl) (fun ls hl => ?_) 6 0 (by omega) ls (lv_sub hl [5, 6, 7, 8, 4, 2, 1, 0, 3] rfl)
        refine lv_iinc (v := nI (i + 1)) (lv' := [(5, .int (nI (i + 1))), (0, .ref o), (3, .ref bo), (4, .int 6), (6, .int (f i)), (7, .ref bo), (8, .int 6), (9, .int 6), (1, .long (m_out f (f i) (v_X2_add (v_X2_add (v_X2_add (m_bx f d9 (i)) ((v_X2_one 1).toInt64)) ((v_X2_codeTold (f i)).toInt64)) ((nI k).toInt64)) (6)))]) FX.1 FX.2.1 dX2_digest_165 hl (k := 3) rfl (by exact nI_1 _) (by decide) rfl (fun ls hl => ?_)
        refine lv_goto (tgt := 46) FX.1 FX.2.1 dX2_digest_168 (by decide) ?_
        have ez : m_out f (f i) (v_X2_add (v_X2_add (v_X2_add (m_bx f d9 (i)) ((v_X2_one 1).toInt64)) ((v_X2_codeTold (f i)).toInt64)) ((nI k).toInt64)) (6) = m_bx f d9 (i + 1) := by rw [m_bx, mfull, mlen, if_neg c_2, if_neg c_2, ek]
        rw [ez] at hl
        refine W.widen (k := c0 + 4 * (i + 1)) (n := s0 + 40 * (i + 1)) (by omega) (by omega) ?_
        exact ih (i + 1) (by omega) _ _ (hP.sub (ws' := [(o, .inr (4, [.int 0, .ref bo, .ref po, .int ak, .int su, .int gt, .int lf, .int rf, .int kn])), (bo, .inl (cI, 6, .inl f)), (po, .inl (cI, 2, .inl g))]) [0, 1, 2] rfl) (hD.sub (ws' := [(o, .inr (4, [.int 0, .ref bo, .ref po, .int ak, .int su, .int gt, .int lf, .int rf, .int kn])), (bo, .inl (cI, 6, .inl f)), (po, .inl (cI, 2, .inl g))]) [0, 1, 2] (by decide) rfl) hS ls (lv_sub hl [1, 8, 2, 3, 0] rfl)
set_option maxRecDepth 100000 in
set_option maxHeartbeats 4000000 in
theorem L_X2_digest_207 {p : Program} {l : Launch} {e : Env} {R : Room} {s : State} {m : MethodId} {args : Array Value} {below : List Frame} {meth : Method} {c : Code} {H : Heap} {locs : List Loc} {cells slots : Nat} {Q : State → Prop} (D : va_G) (cI cB : ClassId) (o bo po : Nat) (th : Int32) (f g : Nat → Int32) (ak su gt lf rf kn : Int32) (d9 : Int64) (hRf : 1 ≤ R.frames) (hRl : 23 ≤ R.locals) (hf : cells ≤ R.cells ∧ slots ≤ R.slots) (FX : CallFix p m c cX2_digest 12 s args bigW RX2) (hK : va_K D KL (TY cI cB) s) (hP : va_P D KL (wM cI o bo po th f g ak su gt lf rf kn) H)
    (kk : ∀ ls : Array Slot, lv_has ls 12 [(0, .ref o), (3, .ref po), (4, .int 2), (5, .int 2), (1, .long (m_pl g d9 (2)))] → W p l e R s m args below meth c H locs cells slots Q (F0 m 256 ls [])) : ∀ (j i : Nat), i + j = 2 → ∀ ls : Array Slot, lv_has ls 12 [(0, .ref o), (3, .ref po), (4, .int 2), (5, .int (nI i)), (1, .long (m_pl g d9 (i)))] → W p l e R s m args below meth c H locs cells slots Q (F0 m 207 ls []) := by
  intro j
  induction j with
  | zero =>
    intro i hij ls hl
    obtain rfl : i = 2 := by omega
    have hl : lv_has ls 12 [(0, .ref o), (3, .ref po), (4, .int 2), (5, .int 2), (1, .long (m_pl g d9 (2)))] := hl
    refine lv_iload FX.1 FX.2.1 dX2_digest_207 (lv_at hl 3 rfl) ?_
    refine lv_iload FX.1 FX.2.1 dX2_digest_209 (lv_at hl 2 rfl) ?_
    refine lv_icmp_ge (tgt := 256) FX.1 FX.2.1 dX2_digest_211 (by decide) (fun c_101 => ?_) (fun c_101 => ?_)
    · exact kk ls (lv_sub hl [0, 1, 2, 3, 4] rfl)
    · exact absurd c_101 (by decide)
  | succ j ih =>
    intro i hij ls hl
    have hlt : i < 2 := by omega
    refine lv_iload FX.1 FX.2.1 dX2_digest_207 (lv_at hl 3 rfl) ?_
    refine lv_iload FX.1 FX.2.1 dX2_digest_209 (lv_at hl 2 rfl) ?_
    refine lv_icmp_ge (tgt := 256) FX.1 FX.2.1 dX2_digest_211 (by decide) (fun c_1 => ?_) (fun c_1 => ?_)
    · exact absurd c_1 (nI_ge (b := 2) hlt (by decide))
    · refine lv_aload_n FX.1 FX.2.1 dX2_digest_214 rfl (lv_at hl 1 rfl) ?_
      refine lv_iload FX.1 FX.2.1 dX2_digest_215 (lv_at hl 3 rfl) ?_
      refine p_iald (v := g i) FX hK hP 2 rfl (vp_in_nI hlt (by decide)) dX2_digest_217 (congrArg g (nI_clamp (by omega))) ?_
      refine lv_istore (lv' := [(6, .int (g i)), (0, .ref o), (3, .ref po), (4, .int 2), (5, .int (nI i)), (1, .long (m_pl g d9 (i)))]) FX.1 FX.2.1 dX2_digest_218 hl (by decide) rfl (fun ls hl => ?_)
      refine lv_lload_n FX.1 FX.2.1 dX2_digest_220 rfl (lv_at hl 5 rfl) ?_
      refine lv_iload FX.1 FX.2.1 dX2_digest_221 (lv_at hl 0 rfl) ?_
      refine lv_ldc (v := (-100000)) FX.1 FX.2.1 FX.2.2.2.1 (FX.2.2.2.2 _ co_RX2_9) dX2_digest_223 ?_
      refine lv_icmp_eq (tgt := 232) FX.1 FX.2.1 dX2_digest_225 (by decide) (fun c_2 => ?_) (fun c_2 => ?_)
      · refine lv_iconst (v := 0) FX.1 FX.2.1 dX2_digest_232 (by decide) ?_
        refine c_RDs FX (r_X2_one l D cI cB 0) mi_X2_one rfl ml_RX2_32 (RMk.mk hRf hRl) hl.1 rfl (Nat.le_of_ble_eq_true rfl) dX2_digest_233 hf hK hP [] rfl ?_
        refine lv_i2l (v := (v_X2_one 0).toInt64) FX.1 FX.2.1 dX2_digest_236 rfl ?_
        refine c_RDls FX (r_X2_add l D cI cB (m_pl g d9 (i)) ((v_X2_one 0).toInt64)) mi_X2_add rfl ml_RX2_160 (RMk.mk hRf hRl) hl.1 rfl (Nat.le_of_ble_eq_true rfl) dX2_digest_237 hf hK hP [] rfl ?_
        refine lv_iload FX.1 FX.2.1 dX2_digest_240 (lv_at hl 0 rfl) ?_
        refine c_RDs FX (r_X2_codeTold l D cI cB (g i)) mi_X2_codeTold rfl ml_RX2_88 (RMk.mk hRf hRl) hl.1 rfl (Nat.le_of_ble_eq_true rfl) dX2_digest_242 hf hK hP [] rfl ?_
        refine lv_i2l (v := (v_X2_codeTold (g i)).toInt64) FX.1 FX.2.1 dX2_digest_245 rfl ?_
        refine c_RDls FX (r_X2_add l D cI cB (v_X2_add (m_pl g d9 (i)) ((v_X2_one 0).toInt64)) ((v_X2_codeTold (g i)).toInt64)) mi_X2_add rfl ml_RX2_160 (RMk.mk hRf hRl) hl.1 rfl (Nat.le_of_ble_eq_true rfl) dX2_digest_246 hf hK hP [] rfl ?_
        refine lv_lstore_n (lv' := [(1, .long (v_X2_add (v_X2_add (m_pl g d9 (i)) ((v_X2_one 0).toInt64)) ((v_X2_codeTold (g i)).toInt64))), (6, .int (g i)), (0, .ref o), (3, .ref po), (4, .int 2), (5, .int (nI i))]) FX.1 FX.2.1 dX2_digest_249 rfl hl (by decide) rfl (fun ls hl => ?_)
        refine lv_iinc (v := nI (i + 1)) (lv' := [(5, .int (nI (i + 1))), (1, .long (v_X2_add (v_X2_add (m_pl g d9 (i)) ((v_X2_one 0).toInt64)) ((v_X2_codeTold (g i)).toInt64))), (6, .int (g i)), (0, .ref o), (3, .ref po), (4, .int 2)]) FX.1 FX.2.1 dX2_digest_250 hl (k := 5) rfl (by exact nI_1 _) (by decide) rfl (fun ls hl => ?_)
        refine lv_goto (tgt := 207) FX.1 FX.2.1 dX2_digest_253 (by decide) ?_
        have ez : v_X2_add (v_X2_add (m_pl g d9 (i)) ((v_X2_one 0).toInt64)) ((v_X2_codeTold (g i)).toInt64) = m_pl g d9 (i + 1) := by rw [m_pl, mfull, if_pos c_2]
        rw [ez] at hl
        exact ih (i + 1) (by omega) ls (lv_sub hl [3, 4, 5, 0, 1] rfl)
      · refine lv_iconst (v := 1) FX.1 FX.2.1 dX2_digest_228 (by decide) ?_
        refine lv_goto (tgt := 233) FX.1 FX.2.1 dX2_digest_229 (by decide) ?_
        refine c_RDs FX (r_X2_one l D cI cB 1) mi_X2_one rfl ml_RX2_32 (RMk.mk hRf hRl) hl.1 rfl (Nat.le_of_ble_eq_true rfl) dX2_digest_233 hf hK hP [] rfl ?_
        refine lv_i2l (v := (v_X2_one 1).toInt64) FX.1 FX.2.1 dX2_digest_236 rfl ?_
        refine c_RDls FX (r_X2_add l D cI cB (m_pl g d9 (i)) ((v_X2_one 1).toInt64)) mi_X2_add rfl ml_RX2_160 (RMk.mk hRf hRl) hl.1 rfl (Nat.le_of_ble_eq_true rfl) dX2_digest_237 hf hK hP [] rfl ?_
        refine lv_iload FX.1 FX.2.1 dX2_digest_240 (lv_at hl 0 rfl) ?_
        refine c_RDs FX (r_X2_codeTold l D cI cB (g i)) mi_X2_codeTold rfl ml_RX2_88 (RMk.mk hRf hRl) hl.1 rfl (Nat.le_of_ble_eq_true rfl) dX2_digest_242 hf hK hP [] rfl ?_
        refine lv_i2l (v := (v_X2_codeTold (g i)).toInt64) FX.1 FX.2.1 dX2_digest_245 rfl ?_
        refine c_RDls FX (r_X2_add l D cI cB (v_X2_add (m_pl g d9 (i)) ((v_X2_one 1).toInt64)) ((v_X2_codeTold (g i)).toInt64)) mi_X2_add rfl ml_RX2_160 (RMk.mk hRf hRl) hl.1 rfl (Nat.le_of_ble_eq_true rfl) dX2_digest_246 hf hK hP [] rfl ?_
        refine lv_lstore_n (lv' := [(1, .long (v_X2_add (v_X2_add (m_pl g d9 (i)) ((v_X2_one 1).toInt64)) ((v_X2_codeTold (g i)).toInt64))), (6, .int (g i)), (0, .ref o), (3, .ref po), (4, .int 2), (5, .int (nI i))]) FX.1 FX.2.1 dX2_digest_249 rfl hl (by decide) rfl (fun ls hl => ?_)
        refine lv_iinc (v := nI (i + 1)) (lv' := [(5, .int (nI (i + 1))), (1, .long (v_X2_add (v_X2_add (m_pl g d9 (i)) ((v_X2_one 1).toInt64)) ((v_X2_codeTold (g i)).toInt64))), (6, .int (g i)), (0, .ref o), (3, .ref po), (4, .int 2)]) FX.1 FX.2.1 dX2_digest_250 hl (k := 5) rfl (by exact nI_1 _) (by decide) rfl (fun ls hl => ?_)
        refine lv_goto (tgt := 207) FX.1 FX.2.1 dX2_digest_253 (by decide) ?_
        have ez : v_X2_add (v_X2_add (m_pl g d9 (i)) ((v_X2_one 1).toInt64)) ((v_X2_codeTold (g i)).toInt64) = m_pl g d9 (i + 1) := by rw [m_pl, mfull, if_neg c_2]
        rw [ez] at hl
        exact ih (i + 1) (by omega) ls (lv_sub hl [3, 4, 5, 0, 1] rfl)
set_option maxRecDepth 100000 in
set_option maxHeartbeats 4000000 in
theorem j_X2_digest (l : Launch) (D : va_G) (cI cB : ClassId) (o bo po : Nat) (th : Int32) (f g : Nat → Int32) (ak su gt lf rf kn : Int32) (to tt : Nat) (go gu : Nat → Int32) (na nv : Nat) (nf : Nat → Int32) (ea ew : Nat) (ef : Nat → Int32) (hfe : sb_Fit ef) (ho6 : okm6 f) : JW (S := Unit) l yX2_digest cX2_digest 12 (some .long) ({ frames := 7, cells := 33, slots := 321, locals := 191 } : Room) D cI cB [.ref o] [(o, .inr (4, [.int th, .ref bo, .ref po, .int ak, .int su, .int gt, .int lf, .int rf, .int kn])), (bo, .inl (cI, 6, .inl f)), (po, .inl (cI, 2, .inl g))] (zAnd zC (zAnd (zAnd (zDg "DigitOnes" to go) (zDg "DigitTens" tt gu)) (zAnd (zAnd (zR RX2 124 "none" na) (zS na nv 4 nf)) (zAnd (zR RX2 129 "" ea) (zS ea ew 0 ef))))) (fun _ => some (.long (m_dig f g ak su gt lf rf kn))) (fun _ => True) (fun _ => [(o, .inr (4, [.int 0, .ref bo, .ref po, .int ak, .int su, .int gt, .int lf, .int rf, .int kn])), (bo, .inl (cI, 6, .inl f)), (po, .inl (cI, 2, .inl g))]) 33 321 := by
  refine bodyJ (by decide +kernel) (Nat.le_of_ble_eq_true rfl) (fun p e s m args below meth c ls A ZZ => ?_)
  obtain ⟨FX, hr, hlk, hK, hP, hD, hS, hA, hz, hnm, hl⟩ := ZZ
  have hl : lv_has ls 12 [(0, .ref o)] := hl
  have hP : va_P D KL [(o, .inr (4, [.int th, .ref bo, .ref po, .int ak, .int su, .int gt, .int lf, .int rf, .int kn])), (bo, .inl (cI, 6, .inl f)), (po, .inl (cI, 2, .inl g))] s.heap := hP
  refine lv_aload_n FX.1 FX.2.1 dX2_digest_0 rfl (lv_at hl 0 rfl) ?_
  refine lv_iconst (v := 0) FX.1 FX.2.1 dX2_digest_1 (by decide) ?_
  refine p_put (wsN := [(o, .inr (4, [.int 0, .ref bo, .ref po, .int ak, .int su, .int gt, .int lf, .int rf, .int kn])), (bo, .inl (cI, 6, .inl f)), (po, .inl (cI, 2, .inl g))]) (ci := 4) (v := .int 0) (ty := .int) FX inX2 tyX2_ok nmX2 hK hP hD hS 0 rfl rfl 0 (by decide) (FX.2.2.2.2 _ fl_RX2_17) rfl (by decide +kernel) rfl rfl (Nat.le_of_ble_eq_true rfl) dX2_digest_2 rfl (fun H locs hP hD hS => ?_)
  refine lv_ldc2 (v := 7715) FX.1 FX.2.1 FX.2.2.2.1 (FX.2.2.2.2 _ cL_RX2_158) dX2_digest_5 ?_
  refine lv_lstore_n (lv' := [(1, .long 7715), (0, .ref o)]) FX.1 FX.2.1 dX2_digest_8 rfl hl (by decide) rfl (fun ls hl => ?_)
  refine lv_iconst (v := 0) FX.1 FX.2.1 dX2_digest_9 (by decide) ?_
  refine lv_istore_n (lv' := [(3, .int 0), (1, .long 7715), (0, .ref o)]) FX.1 FX.2.1 dX2_digest_10 rfl hl (by decide) rfl (fun ls hl => ?_)
  refine W.widen (k := 0 + 1 * 0) (n := 0 + 9 * 0) (by decide) (by decide) ?_
  refine LJ_X2_digest_11 D cI cB o bo po th f g ak su gt lf rf kn to tt go gu na nv nf ea ew ef hfe ho6 0 0 (Nat.le_of_ble_eq_true rfl) (Nat.le_of_ble_eq_true rfl) (Nat.le_of_ble_eq_true rfl) (Nat.le_of_ble_eq_true rfl) FX hK hA hz (fun ls H locs hP hD hS hl => ?_) 9 0 (by omega) _ _ hP hD hS ls (lv_sub hl [0, 2, 1] rfl)
  have hP : va_P D KL [(o, .inr (4, [.int 0, .ref bo, .ref po, .int ak, .int su, .int gt, .int lf, .int rf, .int kn])), (bo, .inl (cI, 6, .inl f)), (po, .inl (cI, 2, .inl g))] H := hP
  have hD : va_D A [(o, .inr (4, [.int 0, .ref bo, .ref po, .int ak, .int su, .int gt, .int lf, .int rf, .int kn])), (bo, .inl (cI, 6, .inl f)), (po, .inl (cI, 2, .inl g))] := hD
  have hl : lv_has ls 12 [(3, .int 9), (0, .ref o), (1, .long (m_hs f g ak su gt lf rf kn (9)))] := hl
  refine lv_aload_n FX.1 FX.2.1 dX2_digest_34 rfl (lv_at hl 1 rfl) ?_
  refine va_get (D := D) (ci := 4) (v := .ref bo) (C := RX2) (T := TX2) (N := 9) FX.1 FX.2.1 FX.2.2.2.2 inX2 FX.2.2.2.1 hK hP 0 rfl rfl 1 (by decide) (FX.2.2.2.2 _ fl_RX2_10) (fun _ h9 => h9) rfl dX2_digest_35 ?_
  refine lv_astore_n (lv' := [(3, .ref bo), (0, .ref o), (1, .long (m_hs f g ak su gt lf rf kn (9)))]) FX.1 FX.2.1 dX2_digest_38 rfl hl (by decide) rfl (fun ls hl => ?_)
  refine lv_aload_n FX.1 FX.2.1 dX2_digest_39 rfl (lv_at hl 0 rfl) ?_
  refine va_alen FX.1 FX.2.1 hK hP 1 0 rfl rfl (v := 6) (by rfl) dX2_digest_40 ?_
  refine lv_istore (lv' := [(4, .int 6), (3, .ref bo), (0, .ref o), (1, .long (m_hs f g ak su gt lf rf kn (9)))]) FX.1 FX.2.1 dX2_digest_41 hl (by decide) rfl (fun ls hl => ?_)
  refine lv_iconst (v := 0) FX.1 FX.2.1 dX2_digest_43 (by decide) ?_
  refine lv_istore (lv' := [(5, .int 0), (4, .int 6), (3, .ref bo), (0, .ref o), (1, .long (m_hs f g ak su gt lf rf kn (9)))]) FX.1 FX.2.1 dX2_digest_44 hl (by decide) rfl (fun ls hl => ?_)
  refine W.widen (k := 9 + 4 * 0) (n := 81 + 40 * 0) (by decide) (by decide) ?_
  refine LJ_X2_digest_46 D cI cB o bo po th f g ak su gt lf rf kn to tt go gu na nv nf ea ew ef (m_hs f g ak su gt lf rf kn (9)) hfe ho6 9 81 (Nat.le_of_ble_eq_true rfl) (Nat.le_of_ble_eq_true rfl) (Nat.le_of_ble_eq_true rfl) (Nat.le_of_ble_eq_true rfl) FX hK hA hz (fun ls H locs hP hD hS hl => ?_) 6 0 (by omega) _ _ hP hD hS ls (lv_sub hl [3, 4, 2, 1, 0] rfl)
  have hP : va_P D KL [(o, .inr (4, [.int 0, .ref bo, .ref po, .int ak, .int su, .int gt, .int lf, .int rf, .int kn])), (bo, .inl (cI, 6, .inl f)), (po, .inl (cI, 2, .inl g))] H := hP
  have hD : va_D A [(o, .inr (4, [.int 0, .ref bo, .ref po, .int ak, .int su, .int gt, .int lf, .int rf, .int kn])), (bo, .inl (cI, 6, .inl f)), (po, .inl (cI, 2, .inl g))] := hD
  have hl : lv_has ls 12 [(0, .ref o), (1, .long (m_bx f (m_hs f g ak su gt lf rf kn (9)) (6))), (3, .ref bo), (4, .int 6), (5, .int 6)] := hl
  refine lv_lload_n FX.1 FX.2.1 dX2_digest_171 rfl (lv_at hl 1 rfl) ?_
  refine lv_aload_n FX.1 FX.2.1 dX2_digest_172 rfl (lv_at hl 0 rfl) ?_
  refine lv_iconst (v := 0) FX.1 FX.2.1 dX2_digest_173 (by decide) ?_
  refine lv_iconst (v := 1) FX.1 FX.2.1 dX2_digest_174 (by decide) ?_
  refine lv_iconst (v := 2) FX.1 FX.2.1 dX2_digest_175 (by decide) ?_
  refine c_RDV (i0 := 0) (ci := 4) FX (r_X2_codesTold l D cI cB o bo po 0 f g ak su gt lf rf kn 0 1 2 (vp_in_iff.mpr ⟨by decide, by decide⟩) (vp_in_iff.mpr ⟨by decide, by decide⟩) (vp_in_iff.mpr ⟨by decide, by decide⟩)) mi_X2_codesTold rfl ml_RX2_106 (RMok.mk) hl.1 rfl (Nat.le_of_ble_eq_true rfl) dX2_digest_176 (by decide) hK hP [0, 1, 2] rfl rfl rfl rfl ?_
  refine lv_i2l (v := (v_X2_codesTold 0 1 2 f).toInt64) FX.1 FX.2.1 dX2_digest_179 rfl ?_
  refine c_RDls FX (r_X2_add l D cI cB (m_bx f (m_hs f g ak su gt lf rf kn (9)) (6)) ((v_X2_codesTold 0 1 2 f).toInt64)) mi_X2_add rfl ml_RX2_160 (RMok.mk) hl.1 rfl (Nat.le_of_ble_eq_true rfl) dX2_digest_180 (by decide) hK hP [] rfl ?_
  refine lv_aload_n FX.1 FX.2.1 dX2_digest_183 rfl (lv_at hl 0 rfl) ?_
  refine lv_iconst (v := 3) FX.1 FX.2.1 dX2_digest_184 (by decide) ?_
  refine lv_iconst (v := 4) FX.1 FX.2.1 dX2_digest_185 (by decide) ?_
  refine lv_iconst (v := 5) FX.1 FX.2.1 dX2_digest_186 (by decide) ?_
  refine c_RDV (i0 := 0) (ci := 4) FX (r_X2_codesTold l D cI cB o bo po 0 f g ak su gt lf rf kn 3 4 5 (vp_in_iff.mpr ⟨by decide, by decide⟩) (vp_in_iff.mpr ⟨by decide, by decide⟩) (vp_in_iff.mpr ⟨by decide, by decide⟩)) mi_X2_codesTold rfl ml_RX2_106 (RMok.mk) hl.1 rfl (Nat.le_of_ble_eq_true rfl) dX2_digest_187 (by decide) hK hP [0, 1, 2] rfl rfl rfl rfl ?_
  refine lv_i2l (v := (v_X2_codesTold 3 4 5 f).toInt64) FX.1 FX.2.1 dX2_digest_190 rfl ?_
  refine c_RDls FX (r_X2_add l D cI cB (v_X2_add (m_bx f (m_hs f g ak su gt lf rf kn (9)) (6)) ((v_X2_codesTold 0 1 2 f).toInt64)) ((v_X2_codesTold 3 4 5 f).toInt64)) mi_X2_add rfl ml_RX2_160 (RMok.mk) hl.1 rfl (Nat.le_of_ble_eq_true rfl) dX2_digest_191 (by decide) hK hP [] rfl ?_
  refine lv_lstore_n (lv' := [(1, .long (v_X2_add (v_X2_add (m_bx f (m_hs f g ak su gt lf rf kn (9)) (6)) ((v_X2_codesTold 0 1 2 f).toInt64)) ((v_X2_codesTold 3 4 5 f).toInt64))), (0, .ref o), (3, .ref bo), (4, .int 6), (5, .int 6)]) FX.1 FX.2.1 dX2_digest_194 rfl hl (by decide) rfl (fun ls hl => ?_)
  refine lv_aload_n FX.1 FX.2.1 dX2_digest_195 rfl (lv_at hl 1 rfl) ?_
  refine va_get (D := D) (ci := 4) (v := .ref po) (C := RX2) (T := TX2) (N := 9) FX.1 FX.2.1 FX.2.2.2.2 inX2 FX.2.2.2.1 hK hP 0 rfl rfl 2 (by decide) (FX.2.2.2.2 _ fl_RX2_14) (fun _ h9 => h9) rfl dX2_digest_196 ?_
  refine lv_astore_n (lv' := [(3, .ref po), (1, .long (v_X2_add (v_X2_add (m_bx f (m_hs f g ak su gt lf rf kn (9)) (6)) ((v_X2_codesTold 0 1 2 f).toInt64)) ((v_X2_codesTold 3 4 5 f).toInt64))), (0, .ref o), (4, .int 6), (5, .int 6)]) FX.1 FX.2.1 dX2_digest_199 rfl hl (by decide) rfl (fun ls hl => ?_)
  refine lv_aload_n FX.1 FX.2.1 dX2_digest_200 rfl (lv_at hl 0 rfl) ?_
  refine va_alen FX.1 FX.2.1 hK hP 2 0 rfl rfl (v := 2) (by rfl) dX2_digest_201 ?_
  refine lv_istore (lv' := [(4, .int 2), (3, .ref po), (1, .long (v_X2_add (v_X2_add (m_bx f (m_hs f g ak su gt lf rf kn (9)) (6)) ((v_X2_codesTold 0 1 2 f).toInt64)) ((v_X2_codesTold 3 4 5 f).toInt64))), (0, .ref o), (5, .int 6)]) FX.1 FX.2.1 dX2_digest_202 hl (by decide) rfl (fun ls hl => ?_)
  refine lv_iconst (v := 0) FX.1 FX.2.1 dX2_digest_204 (by decide) ?_
  refine lv_istore (lv' := [(5, .int 0), (4, .int 2), (3, .ref po), (1, .long (v_X2_add (v_X2_add (m_bx f (m_hs f g ak su gt lf rf kn (9)) (6)) ((v_X2_codesTold 0 1 2 f).toInt64)) ((v_X2_codesTold 3 4 5 f).toInt64))), (0, .ref o)]) FX.1 FX.2.1 dX2_digest_205 hl (by decide) rfl (fun ls hl => ?_)
  refine L_X2_digest_207 D cI cB o bo po 0 f g ak su gt lf rf kn (v_X2_add (v_X2_add (m_bx f (m_hs f g ak su gt lf rf kn (9)) (6)) ((v_X2_codesTold 0 1 2 f).toInt64)) ((v_X2_codesTold 3 4 5 f).toInt64)) (Nat.le_of_ble_eq_true rfl) (Nat.le_of_ble_eq_true rfl) (by decide) FX hK (hP.sub (ws' := (wM cI o bo po 0 f g ak su gt lf rf kn)) [0, 1, 2] rfl) (fun ls hl => ?_) 2 0 (by omega) ls (lv_sub hl [4, 2, 1, 0, 3] rfl)
  refine lv_lload_n FX.1 FX.2.1 dX2_digest_256 rfl (lv_at hl 4 rfl) ?_
  refine lv_aload_n FX.1 FX.2.1 dX2_digest_257 rfl (lv_at hl 0 rfl) ?_
  refine c_RDV (i0 := 0) (ci := 4) FX (r_X2_isTrue l D cI cB o bo po 0 f g ak su gt lf rf kn) mi_X2_isTrue rfl ml_RX2_152 (RMok.mk) hl.1 rfl (Nat.le_of_ble_eq_true rfl) dX2_digest_258 (by decide) hK hP [0, 1, 2] rfl rfl rfl rfl ?_
  refine c_RDs FX (r_X2_one l D cI cB v_X2_isTrue) mi_X2_one rfl ml_RX2_32 (RMok.mk) hl.1 rfl (Nat.le_of_ble_eq_true rfl) dX2_digest_261 (by decide) hK hP [] rfl ?_
  refine lv_i2l (v := (v_X2_one v_X2_isTrue).toInt64) FX.1 FX.2.1 dX2_digest_264 rfl ?_
  refine c_RDls FX (r_X2_add l D cI cB (m_pl g (v_X2_add (v_X2_add (m_bx f (m_hs f g ak su gt lf rf kn (9)) (6)) ((v_X2_codesTold 0 1 2 f).toInt64)) ((v_X2_codesTold 3 4 5 f).toInt64)) (2)) ((v_X2_one v_X2_isTrue).toInt64)) mi_X2_add rfl ml_RX2_160 (RMok.mk) hl.1 rfl (Nat.le_of_ble_eq_true rfl) dX2_digest_265 (by decide) hK hP [] rfl ?_
  exact retJl () FX hr hlk dX2_digest_268 hP hK hD hS (by decide) (by decide) rfl trivial
