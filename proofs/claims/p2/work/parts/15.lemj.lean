theorem ens16 {q : Int32} (h : q.toInt ≤ 16 ∧ 0 ≤ q.toInt) : q - 16 ≤ 0 := by
  have e16 : (16 : Int32).toInt = 16 := by decide
  rw [Int32.le_iff_toInt_le, Int32.toInt_sub, e16, i32_0, Int.bmod_eq_of_le (by omega) (by omega)]
  omega
theorem nI16 {n : Nat} (h : n ≤ 16) : (nI n).toInt ≤ 16 ∧ 0 ≤ (nI n).toInt := by rw [nI_toInt (by omega)]; omega
theorem sz_a {v : Int32} (h : -999 ≤ v ∧ v ≤ 999) : ¬ v ≤ 10 * (10 * (-10)) := by
  have h1 := h.1
  have e : (10 * (10 * (-10)) : Int32).toInt = -1000 := by decide
  rw [Int32.le_iff_toInt_le] at h1 ⊢
  rw [i32_m999] at h1; rw [e]; omega
theorem neg_int {v : Int32} (h : -999 ≤ v ∧ v ≤ 999) : (-v).toInt = -v.toInt := by
  have h1 := h.1; have h2 := h.2
  rw [Int32.le_iff_toInt_le] at h1 h2
  rw [i32_m999] at h1; rw [i32_999] at h2
  rw [Int32.toInt_neg, Int.bmod_eq_of_le (by omega) (by omega)]
theorem sz_b {v : Int32} (h : -999 ≤ v ∧ v ≤ 999) : ¬ -v ≤ 10 * (10 * (-10)) := by
  have h2 := h.2
  have e : (10 * (10 * (-10)) : Int32).toInt = -1000 := by decide
  rw [Int32.le_iff_toInt_le] at h2 ⊢
  rw [i32_999] at h2
  rw [e, neg_int h]; omega
theorem fitB (x : Int32) : fits .byte (.int (vp_nar .byte x)) = true := by rw [vp_nar_byte]; exact pk_fb x
