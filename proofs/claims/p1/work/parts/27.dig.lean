/-! the digests are one number -/
theorem mx (d v : Int64) : v_X0_mixed d v = v_X2_add d v := rfl
theorem cv_n {n : Nat} (h : n < 2 ^ 31) (f : Nat → Int32) : f (nI n).toNatClampNeg = f n := congrArg f (nI_clamp h)
theorem hs_eq {f g h j : Nat → Int32} {ak su gt lf rf kn : Int32} (h1 : rel6 f h) (h2 : rel2 g j) : ∀ n : Nat, n ≤ 9 → y_hs f g ak su gt lf rf kn n = m_hs h j ak su gt lf rf kn n
  | 0, _ => rfl
  | n + 1, hn => by
    rw [y_hs, m_hs, hs_eq h1 h2 n (by omega), mx, house_b h1 h2 (vp_in_nI (show n < 9 by omega) (by decide))]
theorem cmp_n {f h : Nat → Int32} (h1 : rel6 f h) {a b k : Nat} (ha : a < 6) (hb : b < 6) (hk : k < 3) : v_X0_compare (nI a) (nI b) (nI k) f = v_X2_compared (h a) (h b) (nI k) := by
  rw [v_X0_compare, cv_n (n := a) (by omega) f, cv_n (n := b) (by omega) f]
  exact cmp_rel (h1 a ha) (h1 b hb) (vp_in_nI hk (by decide))
theorem in_eq {f h : Nat → Int32} (h1 : rel6 f h) {a b : Nat} (ha : a < 6) (hb : b < 6) (d : Int64) : ∀ n : Nat, n ≤ 3 → y_in f (nI a) (nI b) d n = m_in (h a) (h b) d n
  | 0, _ => rfl
  | n + 1, hn => by rw [y_in, m_in, in_eq h1 ha hb d n (by omega), mx, cmp_n h1 ha hb (by omega)]
theorem out_eq {f h : Nat → Int32} (h1 : rel6 f h) {a : Nat} (ha : a < 6) (d : Int64) : ∀ n : Nat, n ≤ 6 → y_out f (nI a) d n = m_out h (h a) d n
  | 0, _ => rfl
  | n + 1, hn => by rw [y_out, m_out, out_eq h1 ha d n (by omega), in_eq h1 ha (by omega) _ 3 (Nat.le_refl _)]
theorem len_b {v w : Int32} (h : relv v w) : tlen v = mlen w := by
  unfold tlen mlen
  rcases relv_c h with ⟨h1, h2⟩ | ⟨h1, h2, h3, h4⟩
  · rw [if_pos h1, if_pos h2]
  · rw [if_neg (by rw [h1]; exact h2), if_neg h3, h1]
theorem bx_eq {f h : Nat → Int32} (h1 : rel6 f h) (d : Int64) : ∀ n : Nat, n ≤ 6 → y_bx f d n = m_bx h d n
  | 0, _ => rfl
  | n + 1, hn => by
    have hr := h1 n (by omega)
    rw [y_bx, m_bx, bx_eq h1 d n (by omega), y_box, cv_n (n := n) (by omega) f, out_eq h1 (by omega) _ 6 (Nat.le_refl _), mx, mx, mx, mfull_b hr, code_b hr, len_b hr]
theorem pl_eq {g j : Nat → Int32} (h2 : rel2 g j) (d : Int64) : ∀ n : Nat, n ≤ 2 → y_pl g d n = m_pl j d n
  | 0, _ => rfl
  | n + 1, hn => by
    have hr := h2 n (by omega)
    rw [y_pl, m_pl, pl_eq h2 d n (by omega), mx, mx, mfull_b hr, code_b hr]
theorem codes_n {f h : Nat → Int32} (h1 : rel6 f h) {a b c : Int32} (ha : vp_in a 6) (hb : vp_in b 6) (hc : vp_in c 6) : v_X0_codes a b c f = v_X2_codesTold a b c h := by
  rw [v_X0_codes, v_X2_codesTold, code_b (at6 h1 ha), code_b (at6 h1 hb), code_b (at6 h1 hc), i131]
theorem in6l {b : Int32} (h : 0 ≤ b.toInt ∧ b.toInt < 6) : vp_in b 6 := vp_in_iff.mpr h
theorem dig_eq {f g h j : Nat → Int32} {ak su gt lf rf kn : Int32} (h1 : rel6 f h) (h2 : rel2 g j) : y_dig f g ak su gt lf rf kn = m_dig h j ak su gt lf rf kn := by
  unfold y_dig m_dig
  rw [one1, hs_eq h1 h2 9 (Nat.le_refl _), bx_eq h1 _ 6 (Nat.le_refl _), codes_n h1 (in6l (by decide)) (in6l (by decide)) (in6l (by decide)), codes_n h1 (in6l (by decide)) (in6l (by decide)) (in6l (by decide)), pl_eq h2 _ 2 (Nat.le_refl _)]
  rfl
/-! the calls that nothing catches -/
theorem st_arePlainLike {f g h j : Nat → Int32} {ak su gt lf rf kn ak' su' gt' lf' rf' kn' : Int32} (hI : Inv f g ak su gt lf rf kn h j ak' su' gt' lf' rf' kn') : v_X0_arePlainLike g = v_X2_arePlainLike j := by
  unfold v_X0_arePlainLike v_X0_alike v_X2_arePlainLike
  have h9 := relv_eq (hI.2.1 0 (by decide)) (hI.2.1 1 (by decide))
  by_cases c : j 0 = j 1
  · rw [if_pos c, if_pos (h9.mpr c)]
  · rw [if_neg c, if_neg (fun z => c (h9.mp z))]
theorem st_knock {f g h j : Nat → Int32} {ak su gt lf rf kn ak' su' gt' lf' rf' kn' : Int32} (hI : Inv f g ak su gt lf rf kn h j ak' su' gt' lf' rf' kn') : v_X0_knock kn = v_X2_knock kn' ∧ Inv f g ak su gt lf rf (wkn_X0_knock kn) h j ak' su' gt' lf' rf' (wkn_X2_knock kn') := by
  obtain ⟨h1, h2, h3, h4, h5, h6, h7, rfl⟩ := hI
  exact ⟨rfl, h1, h2, h3, h4, h5, h6, h7, rfl⟩
theorem st_digest {f g h j : Nat → Int32} {ak su gt lf rf kn ak' su' gt' lf' rf' kn' : Int32} (hI : Inv f g ak su gt lf rf kn h j ak' su' gt' lf' rf' kn') : y_dig f g ak su gt lf rf kn = m_dig h j ak' su' gt' lf' rf' kn' := by
  obtain ⟨h1, h2, rfl, rfl, rfl, rfl, rfl, rfl⟩ := hI
  exact dig_eq h1 h2
theorem Inv.ok6 {f g h j : Nat → Int32} {ak su gt lf rf kn ak' su' gt' lf' rf' kn' : Int32} (hI : Inv f g ak su gt lf rf kn h j ak' su' gt' lf' rf' kn') : ok6 f := fun i hi => relv_okc (hI.1 i hi)
theorem Inv.okm6 {f g h j : Nat → Int32} {ak su gt lf rf kn ak' su' gt' lf' rf' kn' : Int32} (hI : Inv f g ak su gt lf rf kn h j ak' su' gt' lf' rf' kn') : okm6 h := fun i hi => relv_okm (hI.1 i hi)
