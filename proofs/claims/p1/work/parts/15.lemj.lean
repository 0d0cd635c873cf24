theorem ens16 {q : Int32} (h : q.toInt ≤ 16 ∧ 0 ≤ q.toInt) : q - 16 ≤ 0 := by
  have e16 : (16 : Int32).toInt = 16 := by decide
  rw [Int32.le_iff_toInt_le, Int32.toInt_sub, e16, i32_0, Int.bmod_eq_of_le (by omega) (by omega)]
  omega
theorem nI16 {n : Nat} (h : n ≤ 16) : (nI n).toInt ≤ 16 ∧ 0 ≤ (nI n).toInt := by rw [nI_toInt (by omega)]; omega
theorem sz_a {v : Int32} (h : -999 ≤ v ∧ v ≤ 999) : ¬ v ≤ 10 * (10 * (-10)) := by
  have h1 := h.1
  have e : (10 * (10 * (-10)) : Int32).toInt = -1000 := by decide
  rw [Int32.le_iff_toInt_le] at h1 ⊢
  rw [i32_m999] at h1; rw [e]; omega
theorem neg_int {v : Int32} (h : -999 ≤ v ∧ v ≤ 999) : (-v).toInt = -v.toInt := by
  have h1 := h.1; have h2 := h.2
  rw [Int32.le_iff_toInt_le] at h1 h2
  rw [i32_m999] at h1; rw [i32_999] at h2
  rw [Int32.toInt_neg, Int.bmod_eq_of_le (by omega) (by omega)]
theorem sz_b {v : Int32} (h : -999 ≤ v ∧ v ≤ 999) : ¬ -v ≤ 10 * (10 * (-10)) := by
  have h2 := h.2
  have e : (10 * (10 * (-10)) : Int32).toInt = -1000 := by decide
  rw [Int32.le_iff_toInt_le] at h2 ⊢
  rw [i32_999] at h2
  rw [e, neg_int h]; omega
theorem fitB (x : Int32) : fits .byte (.int (vp_nar .byte x)) = true := by rw [vp_nar_byte]; exact pk_fb x
/-! the digits of a number from -999 to 999: what is looked at -/
theorem i32_100 : (100 : Int32).toInt = 100 := by decide
theorem i32_m100 : (-100 : Int32).toInt = -100 := by decide
theorem i32_m9 : (-9 : Int32).toInt = -9 := by decide
theorem vb {v : Int32} (h : -999 ≤ v ∧ v ≤ 999) : -999 ≤ v.toInt ∧ v.toInt ≤ 999 := by
  have h1 := h.1; have h2 := h.2
  rw [Int32.le_iff_toInt_le] at h1 h2
  rw [i32_m999] at h1; rw [i32_999] at h2
  exact ⟨h1, h2⟩
/-- x, at most 0, and what its hundred and its rest are -/
def dg (a b : Int) (x : Int32) : Prop := -b ≤ x.toInt ∧ x.toInt ≤ -a
theorem dg_neg {a b : Int} {v : Int32} (h : a ≤ v.toInt ∧ v.toInt ≤ b) (hb : 0 ≤ a ∧ b ≤ 999) : dg a b (-v) := by
  have : (-v).toInt = -v.toInt := by rw [Int32.toInt_neg, Int.bmod_eq_of_le (by omega) (by omega)]
  unfold dg; omega
theorem dg_hi {a b : Int} {x : Int32} (h : dg a b x) (hb : b < 100) : -100 < x := by
  unfold dg at h; rw [Int32.lt_iff_toInt_lt, i32_m100]; omega
theorem dg_lo {a b : Int} {x : Int32} (h : dg a b x) (ha : 100 ≤ a) : ¬ -100 < x := by
  unfold dg at h; rw [Int32.lt_iff_toInt_lt, i32_m100]; omega
theorem dg_q {x : Int32} (h : dg 100 999 x) : dg 1 9 (x / 100) := by
  unfold dg at h ⊢
  have hq : (x / 100).toInt = x.toInt.tdiv 100 := by rw [Int32.toInt_div_of_ne_right _ _ (by decide), i32_100]
  have e : x.toInt.tdiv 100 = -((-x.toInt) / 100) := by
    have h1 := Int.neg_tdiv (-x.toInt) 100
    rw [Int.neg_neg] at h1
    rw [h1, Int.tdiv_eq_ediv_of_nonneg (by omega)]
  rw [hq, e]; omega
theorem dg_r {x : Int32} (h : dg 100 999 x) : vp_in (x / 100 * 100 - x) 100 := by
  have h9 := h
  unfold dg at h
  have hq : (x / 100).toInt = x.toInt.tdiv 100 := by rw [Int32.toInt_div_of_ne_right _ _ (by decide), i32_100]
  have e : x.toInt.tdiv 100 = -((-x.toInt) / 100) := by
    have h1 := Int.neg_tdiv (-x.toInt) 100
    rw [Int.neg_neg] at h1
    rw [h1, Int.tdiv_eq_ediv_of_nonneg (by omega)]
  have hm : (x / 100 * 100).toInt = -((-x.toInt) / 100) * 100 := by rw [Int32.toInt_mul, hq, e, i32_100, Int.bmod_eq_of_le (by omega) (by omega)]
  have hs : (x / 100 * 100 - x).toInt = -((-x.toInt) / 100) * 100 - x.toInt := by rw [Int32.toInt_sub, hm, Int.bmod_eq_of_le (by omega) (by omega)]
  rw [vp_in_iff, hs]; omega
theorem dg_i {a b : Int} {x : Int32} (h : dg a b x) (hb : 0 ≤ a ∧ b < 100) : vp_in (-x) 100 := by
  unfold dg at h
  have : (-x).toInt = -x.toInt := by rw [Int32.toInt_neg, Int.bmod_eq_of_le (by omega) (by omega)]
  rw [vp_in_iff, this]; omega
theorem dg_9 {a b : Int} {x : Int32} (h : dg a b x) (hb : b ≤ 9) : -9 ≤ x := by
  unfold dg at h; rw [Int32.le_iff_toInt_le, i32_m9]; omega
theorem dg_n9 {a b : Int} {x : Int32} (h : dg a b x) (ha : 9 < a) : ¬ -9 ≤ x := by
  unfold dg at h; rw [Int32.le_iff_toInt_le, i32_m9]; omega
/-- the six kinds of numbers, by their sign and their digits -/
def kd (s : Bool) (a b : Int) (v : Int32) : Prop := if s then dg a b v ∧ v.toInt < 0 else a ≤ v.toInt ∧ v.toInt ≤ b
theorem six {v : Int32} (h : -999 ≤ v ∧ v ≤ 999) : kd false 0 9 v ∨ kd false 10 99 v ∨ kd false 100 999 v ∨ kd true 1 9 v ∨ kd true 10 99 v ∨ kd true 100 999 v := by
  have h1 := vb h
  unfold kd dg
  simp only [if_true, Bool.false_eq_true, if_false]
  omega
theorem kd_n {a b : Int} {v : Int32} (h : kd true a b v) : dg a b v ∧ ¬ 0 ≤ v := by
  unfold kd at h
  rw [if_pos rfl] at h
  exact ⟨h.1, by rw [Int32.le_iff_toInt_le, i32_0]; omega⟩
theorem kd_p {a b : Int} {v : Int32} (h : kd false a b v) (hb : 0 ≤ a ∧ b ≤ 999) : dg a b (-v) ∧ 0 ≤ v := by
  unfold kd at h
  simp only [Bool.false_eq_true, if_false] at h
  exact ⟨dg_neg h hb, by rw [Int32.le_iff_toInt_le, i32_0]; omega⟩
/-- two rows are alike in their first k places -/
def TL (k : Nat) (f g : Nat → Int32) : Prop := ∀ j, j < k → f j = g j
theorem TL_cpyC {f g : Nat → Int32} {n : Nat} (h : n < 2 ^ 31) : TL n (va_cpy f g (0 : Int32).toNatClampNeg (0 : Int32).toNatClampNeg (nI n).toNatClampNeg) f := fun j hj => by
  rw [nI_clamp h, show (0 : Int32).toNatClampNeg = 0 by decide]
  exact sb_cpy0 hj
theorem lt_k {k i : Nat} (hk : k ≤ 4) (h : ¬ nI k ≤ nI i) (hi : i ≤ 4) : i < k := Nat.lt_of_not_le (fun z => h (nI_le z (by omega)))
theorem in_k {k i : Nat} (hk : k ≤ 4) (h : ¬ nI k ≤ nI i) (hi : i ≤ 4) : vp_in (nI i) k := vp_in_nI (lt_k hk h hi) (by omega)
theorem nk4 {k : Nat} (hk : k ≤ 4) : nI k ≤ nI 4 := nI_le hk (by decide)
