/-! what a passed check says of an index -/
theorem i32_0 : (0 : Int32).toInt = 0 := by decide
theorem i32_2 : (2 : Int32).toInt = 2 := by decide
theorem i32_6 : (6 : Int32).toInt = 6 := by decide
theorem in_X0_needBox {b : Int32} (h : e_X0_needBox b = 0) : vp_in b 6 := by
  unfold e_X0_needBox at h
  split at h
  · cases h
  · split at h
    · rename_i h1 h2
      rw [Int32.lt_iff_toInt_lt] at h1 h2
      rw [i32_0] at h1; rw [i32_6] at h2
      exact vp_in_iff.mpr ⟨by omega, by omega⟩
    · cases h
theorem in_X0_needPlain {b : Int32} (h : e_X0_needPlain b = 0) : vp_in b 2 := by
  unfold e_X0_needPlain at h
  split at h
  · cases h
  · split at h
    · rename_i h1 h2
      rw [Int32.lt_iff_toInt_lt] at h1 h2
      rw [i32_0] at h1; rw [i32_2] at h2
      exact vp_in_iff.mpr ⟨by omega, by omega⟩
    · cases h
theorem rem_int {n d : Int32} (k : Int) (hd : d.toInt = k) (hk : 1 < k ∧ k < 100) : (n - n / d * d).toInt = n.toInt.tmod k := by
  have hz1 := Int32.toInt_lt n
  have hz2 := Int32.le_toInt n
  have e1 := Int.tmod_add_tdiv_mul n.toInt k
  have l1 := Int.tmod_lt_of_pos n.toInt (show 0 < k by omega)
  have l2 := Int.lt_tmod_of_pos n.toInt (show 0 < k by omega)
  have hd1 : d ≠ -1 := fun h => by
    rw [h] at hd
    have : ((-1 : Int32)).toInt = -1 := by decide
    omega
  have hq : (n / d).toInt = n.toInt.tdiv k := by rw [Int32.toInt_div_of_ne_right _ _ hd1, hd]
  have hr : (0 ≤ n.toInt → 0 ≤ n.toInt.tmod k) ∧ (n.toInt ≤ 0 → n.toInt.tmod k ≤ 0) := by
    refine ⟨fun h => Int.tmod_nonneg k h, fun h => ?_⟩
    have h1 := Int.tmod_nonneg k (show 0 ≤ -n.toInt by omega)
    rw [Int.neg_tmod] at h1
    omega
  have hm : (n / d * d).toInt = n.toInt.tdiv k * k := by
    rw [Int32.toInt_mul, hq, hd]
    generalize n.toInt.tdiv k * k = w at e1 ⊢
    exact Int.bmod_eq_of_le (by omega) (by omega)
  rw [Int32.toInt_sub, hm]
  generalize n.toInt.tdiv k * k = w at e1 ⊢
  have : n.toInt - w = n.toInt.tmod k := by omega
  rw [this]
  exact Int.bmod_eq_of_le (by omega) (by omega)
theorem nn_msb (x : Int32) : 0 ≤ x ↔ x.toBitVec.msb = false := by
  rw [Int32.le_iff_toInt_le, i32_0, BitVec.msb_eq_toInt]
  show 0 ≤ x.toInt ↔ decide (x.toInt < 0) = false
  rw [decide_eq_false_iff_not]
  omega
theorem xor6 (n : Int32) : (0 ≤ n ^^^ 6) ↔ 0 ≤ n := by
  rw [nn_msb, nn_msb, Int32.toBitVec_xor, BitVec.msb_xor]
  have : (6 : Int32).toBitVec.msb = false := by decide
  rw [this, Bool.xor_false]
theorem floorMod_int (n : Int32) : (v_J9_floorMod_7cf53 n).toInt = n.toInt % 6 := by
  have hr := rem_int (n := n) (d := 6) 6 i32_6 (by decide)
  have l1 := Int.tmod_lt_of_pos n.toInt (show (0 : Int) < 6 by decide)
  have l2 := Int.lt_tmod_of_pos n.toInt (show (0 : Int) < 6 by decide)
  have e1 := Int.tmod_add_tdiv_mul n.toInt 6
  unfold v_J9_floorMod_7cf53
  split
  · rename_i h
    have h0 : 0 ≤ n.toInt := by have := (xor6 n).mp h; rw [Int32.le_iff_toInt_le, i32_0] at this; exact this
    rw [hr, Int.tmod_eq_emod_of_nonneg h0]
  · rename_i h
    have h0 : n.toInt < 0 := by
      have := mt (xor6 n).mpr h
      rw [Int32.le_iff_toInt_le, i32_0] at this; omega
    have h1 := Int.tmod_nonneg 6 (show 0 ≤ -n.toInt by omega)
    rw [Int.neg_tmod] at h1
    split
    · rename_i h2
      have h3 : n.toInt.tmod 6 = 0 := by rw [← hr, h2, i32_0]
      rw [hr]; omega
    · rename_i h2
      have h3 : n.toInt.tmod 6 ≠ 0 := fun z => h2 (Int32.toInt_inj.mp (by rw [hr, z, i32_0]))
      rw [Int32.toInt_add, hr, i32_6, Int.bmod_eq_of_le (by omega) (by omega)]
      omega
theorem in_floorMod (n : Int32) : vp_in (v_J9_floorMod_7cf53 n) 6 := by
  rw [vp_in_iff, floorMod_int]
  omega
theorem i32_m999 : (-999 : Int32).toInt = -999 := by decide
theorem i32_999 : (999 : Int32).toInt = 999 := by decide
theorem isIn_1 {v a b : Int32} : v_X2_isIn v a b = 0 ∨ (a ≤ v ∧ v ≤ b ∧ v_X2_isIn v a b = 1) := by
  unfold v_X2_isIn
  split
  · exact Or.inl rfl
  · split
    · exact Or.inl rfl
    · rename_i h1 h2
      rw [Int32.lt_iff_toInt_lt] at h1 h2
      exact Or.inr ⟨by rw [Int32.le_iff_toInt_le]; omega, by rw [Int32.le_iff_toInt_le]; omega, rfl⟩
theorem in_v_X2_isNone {b : Int32} (h : v_X2_isNone b = 0) : vp_in b 6 := by
  unfold v_X2_isNone at h
  rcases isIn_1 (v := b) (a := 0) (b := 5) with h1 | ⟨h1, h2, h3⟩
  · rw [h1] at h; exact absurd h (by decide)
  · rw [Int32.le_iff_toInt_le] at h1 h2
    have : (5 : Int32).toInt = 5 := by decide
    rw [i32_0] at h1; rw [this] at h2
    exact vp_in_iff.mpr ⟨by omega, by omega⟩
theorem in_v_X2_isNoPlain {b : Int32} (h : v_X2_isNoPlain b = 0) : vp_in b 2 := by
  unfold v_X2_isNoPlain at h
  rcases isIn_1 (v := b) (a := 0) (b := 1) with h1 | ⟨h1, h2, h3⟩
  · rw [h1] at h; exact absurd h (by decide)
  · rw [Int32.le_iff_toInt_le] at h1 h2
    have : (1 : Int32).toInt = 1 := by decide
    rw [i32_0] at h1; rw [this] at h2
    exact vp_in_iff.mpr ⟨by omega, by omega⟩
theorem mod66_int (n : Int32) : (((n - n / 6 * 6) + 6) - ((n - n / 6 * 6) + 6) / 6 * 6).toInt = n.toInt % 6 := by
  have hr := rem_int (n := n) (d := 6) 6 i32_6 (by decide)
  have l1 := Int.tmod_lt_of_pos n.toInt (show (0 : Int) < 6 by decide)
  have l2 := Int.lt_tmod_of_pos n.toInt (show (0 : Int) < 6 by decide)
  have e1 := Int.tmod_add_tdiv_mul n.toInt 6
  have h1 : ((n - n / 6 * 6) + 6).toInt = n.toInt.tmod 6 + 6 := by
    rw [Int32.toInt_add, hr, i32_6, Int.bmod_eq_of_le (by omega) (by omega)]
  rw [rem_int (d := 6) 6 i32_6 (by decide), h1, Int.tmod_eq_emod_of_nonneg (by omega)]
  omega
theorem mod66 (n : Int32) : ((n - n / 6 * 6) + 6) - ((n - n / 6 * 6) + 6) / 6 * 6 = v_J9_floorMod_7cf53 n := Int32.toInt_inj.mp (by rw [mod66_int, floorMod_int])
theorem in_mod66 (n : Int32) : vp_in (((n - n / 6 * 6) + 6) - ((n - n / 6 * 6) + 6) / 6 * 6) 6 := by rw [mod66]; exact in_floorMod n
