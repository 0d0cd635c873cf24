theorem dL_law_27 : decode cL_law 27 = .ok (.iload 4, 2) := dc_row (B := pc_L_law_w1) (a := 24) (p := 3) pc_L_law_a1 (by decide +kernel)
theorem dL_law_29 : decode cL_law 29 = .ok (.aload_n 0, 1) := dc_row (B := pc_L_law_w1) (a := 24) (p := 5) pc_L_law_a1 (by decide +kernel)
theorem dL_law_30 : decode cL_law 30 = .ok (.arraylength, 1) := dc_row (B := pc_L_law_w1) (a := 24) (p := 6) pc_L_law_a1 (by decide +kernel)
theorem dL_law_31 : decode cL_law 31 = .ok (.bipush 6, 2) := dc_row (B := pc_L_law_w1) (a := 24) (p := 7) pc_L_law_a1 (by decide +kernel)
theorem dL_law_33 : decode cL_law 33 = .ok (.isub, 1) := dc_row (B := pc_L_law_w1) (a := 24) (p := 9) pc_L_law_a1 (by decide +kernel)
theorem dL_law_34 : decode cL_law 34 = .ok (.if_icmp .gt 2954, 3) := dc_row (B := pc_L_law_w1) (a := 24) (p := 10) pc_L_law_a1 (by decide +kernel)
theorem dL_law_37 : decode cL_law 37 = .ok (.aload_n 0, 1) := dc_row (B := pc_L_law_w1) (a := 24) (p := 13) pc_L_law_a1 (by decide +kernel)
theorem dL_law_38 : decode cL_law 38 = .ok (.iload 4, 2) := dc_row (B := pc_L_law_w1) (a := 24) (p := 14) pc_L_law_a1 (by decide +kernel)
theorem dL_law_40 : decode cL_law 40 = .ok (.iaload, 1) := dc_row (B := pc_L_law_w1) (a := 24) (p := 16) pc_L_law_a1 (by decide +kernel)
theorem dL_law_41 : decode cL_law 41 = .ok (.bipush 63, 2) := dc_row (B := pc_L_law_w1) (a := 24) (p := 17) pc_L_law_a1 (by decide +kernel)
theorem dL_law_43 : decode cL_law 43 = .ok (.iand, 1) := dc_row (B := pc_L_law_w1) (a := 24) (p := 19) pc_L_law_a1 (by decide +kernel)
theorem dL_law_44 : decode cL_law 44 = .ok (.tableswitch 2938 0 42 #[188, 257, 314, 411, 480, 573, 666, 759, 840, 909, 1014, 1071, 1128, 1185, 1254, 1323, 1380, 1444, 1508, 1584, 1641, 1710, 1767, 1824, 1893, 1957, 2014, 2027, 2096, 2165, 2241, 2322, 2403, 2460, 2517, 2586, 2650, 2714, 2772, 2841, 2854, 2911, 2924], 188) := by decide +kernel
theorem dL_law_2982 : decode cL_law 2982 = .ok (.iinc 4 6, 3) := dc_row (B := pc_L_law_w124) (a := 2976) (p := 6) pc_L_law_a124 (by decide +kernel)
theorem dL_law_2985 : decode cL_law 2985 = .ok (.goto (-2958), 3) := dc_row (B := pc_L_law_w124) (a := 2976) (p := 9) pc_L_law_a124 (by decide +kernel)
theorem dL_law_2988 : decode cL_law 2988 = .ok (.iconst 1, 1) := dc_row (B := pc_L_law_w124) (a := 2976) (p := 12) pc_L_law_a124 (by decide +kernel)
theorem dL_law_2989 : decode cL_law 2989 = .ok (.ireturn, 1) := dc_row (B := pc_L_law_w124) (a := 2976) (p := 13) pc_L_law_a124 (by decide +kernel)
theorem sw43 (v : Int32) : (∃ k, k < 43 ∧ v = nI k) ∨ (v.toInt < 0 ∨ (42 : Int) < v.toInt) := by
  by_cases h : vp_in v 43
  · exact Or.inl (vp_in_of h (by decide))
  · refine Or.inr ?_
    rw [vp_in_iff] at h
    omega
theorem i32_6' : (6 : Int32).toInt = 6 := by decide
/-- the loop's test -/
theorem go_on {i L : Nat} (hi : i ≤ L) (hL : L ≤ 3072) (h : ¬ Int32.ofNat L - 6 < nI i) : i + 6 ≤ L := by
  have e : (Int32.ofNat L - 6).toInt = (L : Int) - 6 := by rw [Int32.toInt_sub, show (Int32.ofNat L).toInt = (L : Int) from nI_toInt (by omega), i32_6', Int.bmod_eq_of_le (by omega) (by omega)]
  rw [Int32.lt_iff_toInt_lt, e, nI_toInt (by omega)] at h
  omega
theorem tail_go {p : Program} {l : Launch} {e : Env} {s : State} {m : MethodId} {below : List Frame} {meth : Method} {c : Code} (hl0 : l.stackTraces = false) (D : va_G) (cI cB : ClassId) (b L : Nat) (xs : Nat → Int32) (x bx px t bt o bo po q : Nat) (to tt : Nat) (go gu : Nat → Int32) (na nv : Nat) (nf : Nat → Int32) (nb nw : Nat) (nh : Nat → Int32) (ea ew : Nat) (ef : Nat → Int32) (i cc ss : Nat) (hi : i + 6 ≤ L) (hL : L ≤ 3072) (FX : CallFix p m c cL_law 7 s #[.ref b] bigW RL) (hK : va_K D KL (TY cI cB) s) (hX : va_X b L xs s s.heap) (hbl : b < s.heap.size) (hz : zLaw to tt go gu na nv nf nb nw nh ea ew ef (fun q => s.heap.size ≤ q) s s.heap) (hfn : sb_Fit nf) (hfe : sb_Fit ef) (hnn : TL 4 nf nh) (kk : LGo p l e s m below meth c D cI cB b x bx px t bt o bo po q (i + 6) 27 cc ss) : LGo p l e s m below meth c D cI cB b x bx px t bt o bo po q i 2982 cc ss := by
  intro H locs f g ak su gt lf rf kn ml cn bs th h j ak' su' gt' lf' rf' kn' n0 sv ls hI hb hc hP hD hS hl
  have hl : lv_has ls 7 [(4, .int (nI i)), (3, .ref q), (2, .ref o), (1, .ref x), (0, .ref b)] := hl
  refine lv_iinc (v := nI (i + 6)) (lv' := [(4, .int (nI (i + 6))), (3, .ref q), (2, .ref o), (1, .ref x), (0, .ref b)]) FX.1 FX.2.1 dL_law_2982 hl (k := 0) rfl (by exact nI_add i 6) (by decide) rfl (fun ls hl => ?_)
  refine lv_goto (tgt := 27) FX.1 FX.2.1 dL_law_2985 (by decide) ?_
  exact kk H locs f g ak su gt lf rf kn ml cn bs th h j ak' su' gt' lf' rf' kn' n0 sv ls hI hb hc hP hD hS hl
set_option maxRecDepth 100000 in
set_option maxHeartbeats 4000000 in
theorem law_loop {p : Program} {l : Launch} {e : Env} {s : State} {m : MethodId} {below : List Frame} {meth : Method} {c : Code} (hl0 : l.stackTraces = false) (D : va_G) (cI cB : ClassId) (b L : Nat) (xs : Nat → Int32) (x bx px t bt o bo po q : Nat) (to tt : Nat) (go gu : Nat → Int32) (na nv : Nat) (nf : Nat → Int32) (nb nw : Nat) (nh : Nat → Int32) (ea ew : Nat) (ef : Nat → Int32) (hrt : meth.sig.returnType = ret) (hlk : meth.locks = false) (hL : L ≤ 3072) (FX : CallFix p m c cL_law 7 s #[.ref b] bigW RL) (hK : va_K D KL (TY cI cB) s) (hX : va_X b L xs s s.heap) (hbl : b < s.heap.size) (hz : zLaw to tt go gu na nv nf nb nw nh ea ew ef (fun q => s.heap.size ≤ q) s s.heap) (hfn : sb_Fit nf) (hfe : sb_Fit ef) (hnn : TL 4 nf nh) : ∀ (k i cc ss : Nat), i ≤ L → L ≤ i + 6 * k → cc + 33 * k ≤ room_1.cells → ss + 321 * k ≤ room_1.slots → LGo p l e s m below meth c D cI cB b x bx px t bt o bo po q i 27 cc ss := by
  intro k
  induction k with
  | zero =>
    intro i cc ss hiL hLi hcc hss
    intro H locs f g ak su gt lf rf kn ml cn bs th h j ak' su' gt' lf' rf' kn' n0 sv ls hI hb hc hP hD hS hl
    have hbA : ¬ (fun q : Nat => s.heap.size ≤ q) b := Nat.not_le.mpr hbl
    have hl : lv_has ls 7 [(4, .int (nI i)), (3, .ref q), (2, .ref o), (1, .ref x), (0, .ref b)] := hl
    refine lv_iload FX.1 FX.2.1 dL_law_27 (lv_at hl 0 rfl) ?_
    refine lv_aload_n FX.1 FX.2.1 dL_law_29 rfl (lv_at hl 4 rfl) ?_
    refine va_slen FX.1 FX.2.1 hX hbl hbA hS dL_law_30 ?_
    refine lv_bipush (v := 6) FX.1 FX.2.1 dL_law_31 (by decide) ?_
    refine lv_isub FX.1 FX.2.1 dL_law_33 ?_
    refine lv_icmp_gt (tgt := 2988) FX.1 FX.2.1 dL_law_34 (by decide) (fun c_1 => ?_) (fun c_1 => ?_)
    · refine lv_iconst (v := 1) FX.1 FX.2.1 dL_law_2988 (by decide) ?_
      refine va_forget hS.2.2 ?_
      refine W.widen (k := 601024) (n := 7293034) (Nat.le_trans (Nat.le_trans (Nat.le_add_right _ _) hcc) (Nat.le_of_ble_eq_true rfl)) (Nat.le_trans (Nat.le_trans (Nat.le_add_right _ _) hss) (Nat.le_of_ble_eq_true rfl)) ?_
      exact lw_ret FX.1 FX.2.1 hrt hlk dL_law_2989
    · exact absurd (go_on hiL hL c_1) (by omega)
  | succ k ih =>
    intro i cc ss hiL hLi hcc hss
    intro H locs f g ak su gt lf rf kn ml cn bs th h j ak' su' gt' lf' rf' kn' n0 sv ls hI hb hc hP hD hS hl
    have hbA : ¬ (fun q : Nat => s.heap.size ≤ q) b := Nat.not_le.mpr hbl
    have hl : lv_has ls 7 [(4, .int (nI i)), (3, .ref q), (2, .ref o), (1, .ref x), (0, .ref b)] := hl
    refine lv_iload FX.1 FX.2.1 dL_law_27 (lv_at hl 0 rfl) ?_
    refine lv_aload_n FX.1 FX.2.1 dL_law_29 rfl (lv_at hl 4 rfl) ?_
    refine va_slen FX.1 FX.2.1 hX hbl hbA hS dL_law_30 ?_
    refine lv_bipush (v := 6) FX.1 FX.2.1 dL_law_31 (by decide) ?_
    refine lv_isub FX.1 FX.2.1 dL_law_33 ?_
    refine lv_icmp_gt (tgt := 2988) FX.1 FX.2.1 dL_law_34 (by decide) (fun c_1 => ?_) (fun c_1 => ?_)
    · refine lv_iconst (v := 1) FX.1 FX.2.1 dL_law_2988 (by decide) ?_
      refine va_forget hS.2.2 ?_
      refine W.widen (k := 601024) (n := 7293034) (Nat.le_trans (Nat.le_trans (Nat.le_add_right _ _) hcc) (Nat.le_of_ble_eq_true rfl)) (Nat.le_trans (Nat.le_trans (Nat.le_add_right _ _) hss) (Nat.le_of_ble_eq_true rfl)) ?_
      exact lw_ret FX.1 FX.2.1 hrt hlk dL_law_2989
    · have hi := go_on hiL hL c_1
      have tl : LGo p l e s m below meth c D cI cB b x bx px t bt o bo po q i 2982 (cc + 33) (ss + 321) := tail_go hl0 D cI cB b L xs x bx px t bt o bo po q to tt go gu na nv nf nb nw nh ea ew ef i _ _ hi hL FX hK hX hbl hz hfn hfe hnn (ih (i + 6) (cc + 33) (ss + 321) hi (by omega) (by omega) (by omega))
      have h1 : cc + 33 ≤ room_1.cells := by omega
      have h2 : ss + 321 ≤ room_1.slots := by omega
      have gg : ∀ tgt : Nat, LGo p l e s m below meth c D cI cB b x bx px t bt o bo po q i tgt cc ss → W p l e room_1 s m #[.ref b] below meth c H locs cc ss (lw_Z below #[.ref b] s) (F0 m tgt ls []) := fun _ hh => hh H locs f g ak su gt lf rf kn ml cn bs th h j ak' su' gt' lf' rf' kn' n0 sv ls hI hb hc hP hD hS hl
      refine lv_aload_n FX.1 FX.2.1 dL_law_37 rfl (lv_at hl 4 rfl) ?_
      refine lv_iload FX.1 FX.2.1 dL_law_38 (lv_at hl 0 rfl) ?_
      refine va_sld FX.1 FX.2.1 hX hbl hbA hS (vp_in_nI (show i < L by omega) (by omega)) dL_law_40 ?_
      refine lv_bipush (v := 63) FX.1 FX.2.1 dL_law_41 (by decide) ?_
      refine lv_iand FX.1 FX.2.1 dL_law_43 ?_
      rcases sw43 (xs (nI i).toNatClampNeg &&& 63) with ⟨n, hn, en⟩ | ho
      · rcases (show n = 0 ∨ n = 1 ∨ n = 2 ∨ n = 3 ∨ n = 4 ∨ n = 5 ∨ n = 6 ∨ n = 7 ∨ n = 8 ∨ n = 9 ∨ n = 10 ∨ n = 11 ∨ n = 12 ∨ n = 13 ∨ n = 14 ∨ n = 15 ∨ n = 16 ∨ n = 17 ∨ n = 18 ∨ n = 19 ∨ n = 20 ∨ n = 21 ∨ n = 22 ∨ n = 23 ∨ n = 24 ∨ n = 25 ∨ n = 26 ∨ n = 27 ∨ n = 28 ∨ n = 29 ∨ n = 30 ∨ n = 31 ∨ n = 32 ∨ n = 33 ∨ n = 34 ∨ n = 35 ∨ n = 36 ∨ n = 37 ∨ n = 38 ∨ n = 39 ∨ n = 40 ∨ n = 41 ∨ n = 42 by omega) with rfl | rfl | rfl | rfl | rfl | rfl | rfl | rfl | rfl | rfl | rfl | rfl | rfl | rfl | rfl | rfl | rfl | rfl | rfl | rfl | rfl | rfl | rfl | rfl | rfl | rfl | rfl | rfl | rfl | rfl | rfl | rfl | rfl | rfl | rfl | rfl | rfl | rfl | rfl | rfl | rfl | rfl | rfl
        · exact lv_tableIn (off := 188) (tgt := 232) FX.1 FX.2.1 dL_law_44 (by rw [en]; decide) (by rw [en]; decide) (by rw [en]; rfl) (by decide) (gg _ (case_0 hl0 D cI cB b L xs x bx px t bt o bo po q to tt go gu na nv nf nb nw nh ea ew ef i cc ss hi h1 h2 hL FX hK hX hbl hz hfn hfe hnn tl))
        · exact lv_tableIn (off := 257) (tgt := 301) FX.1 FX.2.1 dL_law_44 (by rw [en]; decide) (by rw [en]; decide) (by rw [en]; rfl) (by decide) (gg _ (case_1 hl0 D cI cB b L xs x bx px t bt o bo po q to tt go gu na nv nf nb nw nh ea ew ef i cc ss hi h1 h2 hL FX hK hX hbl hz hfn hfe hnn tl))
        · exact lv_tableIn (off := 314) (tgt := 358) FX.1 FX.2.1 dL_law_44 (by rw [en]; decide) (by rw [en]; decide) (by rw [en]; rfl) (by decide) (gg _ (case_2 hl0 D cI cB b L xs x bx px t bt o bo po q to tt go gu na nv nf nb nw nh ea ew ef i cc ss hi h1 h2 hL FX hK hX hbl hz hfn hfe hnn tl))
        · exact lv_tableIn (off := 411) (tgt := 455) FX.1 FX.2.1 dL_law_44 (by rw [en]; decide) (by rw [en]; decide) (by rw [en]; rfl) (by decide) (gg _ (case_3 hl0 D cI cB b L xs x bx px t bt o bo po q to tt go gu na nv nf nb nw nh ea ew ef i cc ss hi h1 h2 hL FX hK hX hbl hz hfn hfe hnn tl))
        · exact lv_tableIn (off := 480) (tgt := 524) FX.1 FX.2.1 dL_law_44 (by rw [en]; decide) (by rw [en]; decide) (by rw [en]; rfl) (by decide) (gg _ (case_4 hl0 D cI cB b L xs x bx px t bt o bo po q to tt go gu na nv nf nb nw nh ea ew ef i cc ss hi h1 h2 hL FX hK hX hbl hz hfn hfe hnn tl))
        · exact lv_tableIn (off := 573) (tgt := 617) FX.1 FX.2.1 dL_law_44 (by rw [en]; decide) (by rw [en]; decide) (by rw [en]; rfl) (by decide) (gg _ (case_5 hl0 D cI cB b L xs x bx px t bt o bo po q to tt go gu na nv nf nb nw nh ea ew ef i cc ss hi h1 h2 hL FX hK hX hbl hz hfn hfe hnn tl))
        · exact lv_tableIn (off := 666) (tgt := 710) FX.1 FX.2.1 dL_law_44 (by rw [en]; decide) (by rw [en]; decide) (by rw [en]; rfl) (by decide) (gg _ (case_6 hl0 D cI cB b L xs x bx px t bt o bo po q to tt go gu na nv nf nb nw nh ea ew ef i cc ss hi h1 h2 hL FX hK hX hbl hz hfn hfe hnn tl))
        · exact lv_tableIn (off := 759) (tgt := 803) FX.1 FX.2.1 dL_law_44 (by rw [en]; decide) (by rw [en]; decide) (by rw [en]; rfl) (by decide) (gg _ (case_7 hl0 D cI cB b L xs x bx px t bt o bo po q to tt go gu na nv nf nb nw nh ea ew ef i cc ss hi h1 h2 hL FX hK hX hbl hz hfn hfe hnn tl))
        · exact lv_tableIn (off := 840) (tgt := 884) FX.1 FX.2.1 dL_law_44 (by rw [en]; decide) (by rw [en]; decide) (by rw [en]; rfl) (by decide) (gg _ (case_8 hl0 D cI cB b L xs x bx px t bt o bo po q to tt go gu na nv nf nb nw nh ea ew ef i cc ss hi h1 h2 hL FX hK hX hbl hz hfn hfe hnn tl))
        · exact lv_tableIn (off := 909) (tgt := 953) FX.1 FX.2.1 dL_law_44 (by rw [en]; decide) (by rw [en]; decide) (by rw [en]; rfl) (by decide) (gg _ (case_9 hl0 D cI cB b L xs x bx px t bt o bo po q to tt go gu na nv nf nb nw nh ea ew ef i cc ss hi h1 h2 hL FX hK hX hbl hz hfn hfe hnn tl))
        · exact lv_tableIn (off := 1014) (tgt := 1058) FX.1 FX.2.1 dL_law_44 (by rw [en]; decide) (by rw [en]; decide) (by rw [en]; rfl) (by decide) (gg _ (case_10 hl0 D cI cB b L xs x bx px t bt o bo po q to tt go gu na nv nf nb nw nh ea ew ef i cc ss hi h1 h2 hL FX hK hX hbl hz hfn hfe hnn tl))
        · exact lv_tableIn (off := 1071) (tgt := 1115) FX.1 FX.2.1 dL_law_44 (by rw [en]; decide) (by rw [en]; decide) (by rw [en]; rfl) (by decide) (gg _ (case_11 hl0 D cI cB b L xs x bx px t bt o bo po q to tt go gu na nv nf nb nw nh ea ew ef i cc ss hi h1 h2 hL FX hK hX hbl hz hfn hfe hnn tl))
        · exact lv_tableIn (off := 1128) (tgt := 1172) FX.1 FX.2.1 dL_law_44 (by rw [en]; decide) (by rw [en]; decide) (by rw [en]; rfl) (by decide) (gg _ (case_12 hl0 D cI cB b L xs x bx px t bt o bo po q to tt go gu na nv nf nb nw nh ea ew ef i cc ss hi h1 h2 hL FX hK hX hbl hz hfn hfe hnn tl))
        · exact lv_tableIn (off := 1185) (tgt := 1229) FX.1 FX.2.1 dL_law_44 (by rw [en]; decide) (by rw [en]; decide) (by rw [en]; rfl) (by decide) (gg _ (case_13 hl0 D cI cB b L xs x bx px t bt o bo po q to tt go gu na nv nf nb nw nh ea ew ef i cc ss hi h1 h2 hL FX hK hX hbl hz hfn hfe hnn tl))
        · exact lv_tableIn (off := 1254) (tgt := 1298) FX.1 FX.2.1 dL_law_44 (by rw [en]; decide) (by rw [en]; decide) (by rw [en]; rfl) (by decide) (gg _ (case_14 hl0 D cI cB b L xs x bx px t bt o bo po q to tt go gu na nv nf nb nw nh ea ew ef i cc ss hi h1 h2 hL FX hK hX hbl hz hfn hfe hnn tl))
        · exact lv_tableIn (off := 1323) (tgt := 1367) FX.1 FX.2.1 dL_law_44 (by rw [en]; decide) (by rw [en]; decide) (by rw [en]; rfl) (by decide) (gg _ (case_15 hl0 D cI cB b L xs x bx px t bt o bo po q to tt go gu na nv nf nb nw nh ea ew ef i cc ss hi h1 h2 hL FX hK hX hbl hz hfn hfe hnn tl))
        · exact lv_tableIn (off := 1380) (tgt := 1424) FX.1 FX.2.1 dL_law_44 (by rw [en]; decide) (by rw [en]; decide) (by rw [en]; rfl) (by decide) (gg _ (case_16 hl0 D cI cB b L xs x bx px t bt o bo po q to tt go gu na nv nf nb nw nh ea ew ef i cc ss hi h1 h2 hL FX hK hX hbl hz hfn hfe hnn tl))
        · exact lv_tableIn (off := 1444) (tgt := 1488) FX.1 FX.2.1 dL_law_44 (by rw [en]; decide) (by rw [en]; decide) (by rw [en]; rfl) (by decide) (gg _ (case_17 hl0 D cI cB b L xs x bx px t bt o bo po q to tt go gu na nv nf nb nw nh ea ew ef i cc ss hi h1 h2 hL FX hK hX hbl hz hfn hfe hnn tl))
        · exact lv_tableIn (off := 1508) (tgt := 1552) FX.1 FX.2.1 dL_law_44 (by rw [en]; decide) (by rw [en]; decide) (by rw [en]; rfl) (by decide) (gg _ (case_18 hl0 D cI cB b L xs x bx px t bt o bo po q to tt go gu na nv nf nb nw nh ea ew ef i cc ss hi h1 h2 hL FX hK hX hbl hz hfn hfe hnn tl))
        · exact lv_tableIn (off := 1584) (tgt := 1628) FX.1 FX.2.1 dL_law_44 (by rw [en]; decide) (by rw [en]; decide) (by rw [en]; rfl) (by decide) (gg _ (case_19 hl0 D cI cB b L xs x bx px t bt o bo po q to tt go gu na nv nf nb nw nh ea ew ef i cc ss hi h1 h2 hL FX hK hX hbl hz hfn hfe hnn tl))
        · exact lv_tableIn (off := 1641) (tgt := 1685) FX.1 FX.2.1 dL_law_44 (by rw [en]; decide) (by rw [en]; decide) (by rw [en]; rfl) (by decide) (gg _ (case_20 hl0 D cI cB b L xs x bx px t bt o bo po q to tt go gu na nv nf nb nw nh ea ew ef i cc ss hi h1 h2 hL FX hK hX hbl hz hfn hfe hnn tl))
        · exact lv_tableIn (off := 1710) (tgt := 1754) FX.1 FX.2.1 dL_law_44 (by rw [en]; decide) (by rw [en]; decide) (by rw [en]; rfl) (by decide) (gg _ (case_21 hl0 D cI cB b L xs x bx px t bt o bo po q to tt go gu na nv nf nb nw nh ea ew ef i cc ss hi h1 h2 hL FX hK hX hbl hz hfn hfe hnn tl))
        · exact lv_tableIn (off := 1767) (tgt := 1811) FX.1 FX.2.1 dL_law_44 (by rw [en]; decide) (by rw [en]; decide) (by rw [en]; rfl) (by decide) (gg _ (case_22 hl0 D cI cB b L xs x bx px t bt o bo po q to tt go gu na nv nf nb nw nh ea ew ef i cc ss hi h1 h2 hL FX hK hX hbl hz hfn hfe hnn tl))
        · exact lv_tableIn (off := 1824) (tgt := 1868) FX.1 FX.2.1 dL_law_44 (by rw [en]; decide) (by rw [en]; decide) (by rw [en]; rfl) (by decide) (gg _ (case_23 hl0 D cI cB b L xs x bx px t bt o bo po q to tt go gu na nv nf nb nw nh ea ew ef i cc ss hi h1 h2 hL FX hK hX hbl hz hfn hfe hnn tl))
        · exact lv_tableIn (off := 1893) (tgt := 1937) FX.1 FX.2.1 dL_law_44 (by rw [en]; decide) (by rw [en]; decide) (by rw [en]; rfl) (by decide) (gg _ (case_24 hl0 D cI cB b L xs x bx px t bt o bo po q to tt go gu na nv nf nb nw nh ea ew ef i cc ss hi h1 h2 hL FX hK hX hbl hz hfn hfe hnn tl))
        · exact lv_tableIn (off := 1957) (tgt := 2001) FX.1 FX.2.1 dL_law_44 (by rw [en]; decide) (by rw [en]; decide) (by rw [en]; rfl) (by decide) (gg _ (case_25 hl0 D cI cB b L xs x bx px t bt o bo po q to tt go gu na nv nf nb nw nh ea ew ef i cc ss hi h1 h2 hL FX hK hX hbl hz hfn hfe hnn tl))
        · exact lv_tableIn (off := 2014) (tgt := 2058) FX.1 FX.2.1 dL_law_44 (by rw [en]; decide) (by rw [en]; decide) (by rw [en]; rfl) (by decide) (gg _ (case_26 hl0 D cI cB b L xs x bx px t bt o bo po q to tt go gu na nv nf nb nw nh ea ew ef i cc ss hi h1 h2 hL FX hK hX hbl hz hfn hfe hnn tl))
        · exact lv_tableIn (off := 2027) (tgt := 2071) FX.1 FX.2.1 dL_law_44 (by rw [en]; decide) (by rw [en]; decide) (by rw [en]; rfl) (by decide) (gg _ (case_27 hl0 D cI cB b L xs x bx px t bt o bo po q to tt go gu na nv nf nb nw nh ea ew ef i cc ss hi h1 h2 hL FX hK hX hbl hz hfn hfe hnn tl))
        · exact lv_tableIn (off := 2096) (tgt := 2140) FX.1 FX.2.1 dL_law_44 (by rw [en]; decide) (by rw [en]; decide) (by rw [en]; rfl) (by decide) (gg _ (case_28 hl0 D cI cB b L xs x bx px t bt o bo po q to tt go gu na nv nf nb nw nh ea ew ef i cc ss hi h1 h2 hL FX hK hX hbl hz hfn hfe hnn tl))
        · exact lv_tableIn (off := 2165) (tgt := 2209) FX.1 FX.2.1 dL_law_44 (by rw [en]; decide) (by rw [en]; decide) (by rw [en]; rfl) (by decide) (gg _ (case_29 hl0 D cI cB b L xs x bx px t bt o bo po q to tt go gu na nv nf nb nw nh ea ew ef i cc ss hi h1 h2 hL FX hK hX hbl hz hfn hfe hnn tl))
        · exact lv_tableIn (off := 2241) (tgt := 2285) FX.1 FX.2.1 dL_law_44 (by rw [en]; decide) (by rw [en]; decide) (by rw [en]; rfl) (by decide) (gg _ (case_30 hl0 D cI cB b L xs x bx px t bt o bo po q to tt go gu na nv nf nb nw nh ea ew ef i cc ss hi h1 h2 hL FX hK hX hbl hz hfn hfe hnn tl))
        · exact lv_tableIn (off := 2322) (tgt := 2366) FX.1 FX.2.1 dL_law_44 (by rw [en]; decide) (by rw [en]; decide) (by rw [en]; rfl) (by decide) (gg _ (case_31 hl0 D cI cB b L xs x bx px t bt o bo po q to tt go gu na nv nf nb nw nh ea ew ef i cc ss hi h1 h2 hL FX hK hX hbl hz hfn hfe hnn tl))
        · exact lv_tableIn (off := 2403) (tgt := 2447) FX.1 FX.2.1 dL_law_44 (by rw [en]; decide) (by rw [en]; decide) (by rw [en]; rfl) (by decide) (gg _ (case_32 hl0 D cI cB b L xs x bx px t bt o bo po q to tt go gu na nv nf nb nw nh ea ew ef i cc ss hi h1 h2 hL FX hK hX hbl hz hfn hfe hnn tl))
        · exact lv_tableIn (off := 2460) (tgt := 2504) FX.1 FX.2.1 dL_law_44 (by rw [en]; decide) (by rw [en]; decide) (by rw [en]; rfl) (by decide) (gg _ (case_33 hl0 D cI cB b L xs x bx px t bt o bo po q to tt go gu na nv nf nb nw nh ea ew ef i cc ss hi h1 h2 hL FX hK hX hbl hz hfn hfe hnn tl))
        · exact lv_tableIn (off := 2517) (tgt := 2561) FX.1 FX.2.1 dL_law_44 (by rw [en]; decide) (by rw [en]; decide) (by rw [en]; rfl) (by decide) (gg _ (case_34 hl0 D cI cB b L xs x bx px t bt o bo po q to tt go gu na nv nf nb nw nh ea ew ef i cc ss hi h1 h2 hL FX hK hX hbl hz hfn hfe hnn tl))
        · exact lv_tableIn (off := 2586) (tgt := 2630) FX.1 FX.2.1 dL_law_44 (by rw [en]; decide) (by rw [en]; decide) (by rw [en]; rfl) (by decide) (gg _ (case_35 hl0 D cI cB b L xs x bx px t bt o bo po q to tt go gu na nv nf nb nw nh ea ew ef i cc ss hi h1 h2 hL FX hK hX hbl hz hfn hfe hnn tl))
        · exact lv_tableIn (off := 2650) (tgt := 2694) FX.1 FX.2.1 dL_law_44 (by rw [en]; decide) (by rw [en]; decide) (by rw [en]; rfl) (by decide) (gg _ (case_36 hl0 D cI cB b L xs x bx px t bt o bo po q to tt go gu na nv nf nb nw nh ea ew ef i cc ss hi h1 h2 hL FX hK hX hbl hz hfn hfe hnn tl))
        · exact lv_tableIn (off := 2714) (tgt := 2758) FX.1 FX.2.1 dL_law_44 (by rw [en]; decide) (by rw [en]; decide) (by rw [en]; rfl) (by decide) (gg _ (case_37 hl0 D cI cB b L xs x bx px t bt o bo po q to tt go gu na nv nf nb nw nh ea ew ef i cc ss hi h1 h2 hL FX hK hX hbl hz hfn hfe hnn tl))
        · exact lv_tableIn (off := 2772) (tgt := 2816) FX.1 FX.2.1 dL_law_44 (by rw [en]; decide) (by rw [en]; decide) (by rw [en]; rfl) (by decide) (gg _ (case_38 hl0 D cI cB b L xs x bx px t bt o bo po q to tt go gu na nv nf nb nw nh ea ew ef i cc ss hi h1 h2 hL FX hK hX hbl hz hfn hfe hnn tl))
        · exact lv_tableIn (off := 2841) (tgt := 2885) FX.1 FX.2.1 dL_law_44 (by rw [en]; decide) (by rw [en]; decide) (by rw [en]; rfl) (by decide) (gg _ (case_39 hl0 D cI cB b L xs x bx px t bt o bo po q to tt go gu na nv nf nb nw nh ea ew ef i cc ss hi h1 h2 hL FX hK hX hbl hz hfn hfe hnn tl))
        · exact lv_tableIn (off := 2854) (tgt := 2898) FX.1 FX.2.1 dL_law_44 (by rw [en]; decide) (by rw [en]; decide) (by rw [en]; rfl) (by decide) (gg _ (case_40 hl0 D cI cB b L xs x bx px t bt o bo po q to tt go gu na nv nf nb nw nh ea ew ef i cc ss hi h1 h2 hL FX hK hX hbl hz hfn hfe hnn tl))
        · exact lv_tableIn (off := 2911) (tgt := 2955) FX.1 FX.2.1 dL_law_44 (by rw [en]; decide) (by rw [en]; decide) (by rw [en]; rfl) (by decide) (gg _ (case_41 hl0 D cI cB b L xs x bx px t bt o bo po q to tt go gu na nv nf nb nw nh ea ew ef i cc ss hi h1 h2 hL FX hK hX hbl hz hfn hfe hnn tl))
        · exact lv_tableIn (off := 2924) (tgt := 2968) FX.1 FX.2.1 dL_law_44 (by rw [en]; decide) (by rw [en]; decide) (by rw [en]; rfl) (by decide) (gg _ (case_42 hl0 D cI cB b L xs x bx px t bt o bo po q to tt go gu na nv nf nb nw nh ea ew ef i cc ss hi h1 h2 hL FX hK hX hbl hz hfn hfe hnn tl))
      · refine lv_tableOut (tgt := 2982) FX.1 FX.2.1 dL_law_44 ho (by decide) ?_
        exact gg _ (fun H locs f g ak su gt lf rf kn ml cn bs th h j ak' su' gt' lf' rf' kn' n0 sv ls hI hb hc hP hD hS hl => W.widen (k := cc + 33) (n := ss + 321) (by omega) (by omega) (tl H locs f g ak su gt lf rf kn ml cn bs th h j ak' su' gt' lf' rf' kn' n0 sv ls hI hb hc hP hD hS hl))
