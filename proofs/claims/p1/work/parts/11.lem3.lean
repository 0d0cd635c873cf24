/-! what a box may hold; the laws of promise 43 that are looked at, of the class and of the reference -/
def okc (v : Int32) : Prop := v = -10000 ∨ (-999 ≤ v ∧ v ≤ 999)
def ok6 (f : Nat → Int32) : Prop := ∀ i, i < 6 → okc (f i)
def okm (v : Int32) : Prop := v = -100000 ∨ (-999 ≤ v ∧ v ≤ 999)
def okm6 (f : Nat → Int32) : Prop := ∀ i, i < 6 → okm (f i)
theorem alike_self (a : Int32) : v_X0_alike a a = 1 := if_pos rfl
theorem alike_ne {a b : Int32} (h : a = b) : ¬ v_X0_alike a b = 0 := by rw [h, alike_self]; decide
theorem noz_ne (v : Int32) : ¬ v_X0_numberOrZero v = -10000 := by
  unfold v_X0_numberOrZero
  split
  · decide
  · assumption
theorem snd1 (v t : Int32) (f : Nat → Int32) : ¬ v_X0_alike (v_X0_turned (v_X0_numberOrZero v) t 3 f) (v_X0_turnMakes t (v_X0_numberOrZero v) 3 f) = 0 := alike_ne (by rw [v_X0_turned, if_neg (noz_ne v)])
theorem turned_no (t : Int32) (f : Nat → Int32) : v_X0_turned (-10000) t 3 f = -10000 := if_pos rfl
theorem snd2 (v t n : Int32) (f : Nat → Int32) : ¬ v_X0_alike (v_X0_turned (v_X0_turned v t 3 f) n 3 f) (v_X0_turnedByBoth v t n f) = 0 := alike_ne (by
  by_cases h : v = -10000
  · rw [h, turned_no, turned_no, v_X0_turnedByBoth, if_pos rfl]
  · rw [v_X0_turnedByBoth, if_neg h, show v_X0_turned v t 3 f = v_X0_turnMakes t v 3 f from if_neg h])
theorem isNumber_1 {v : Int32} (h : -999 ≤ v ∧ v ≤ 999) : v_X0_isNumber v = 1 := by
  have h1 := h.1; have h2 := h.2
  rw [Int32.le_iff_toInt_le] at h1 h2
  unfold v_X0_isNumber
  rw [if_neg (by rw [Int32.lt_iff_toInt_lt]; omega), if_neg (by rw [Int32.lt_iff_toInt_lt]; omega)]
theorem isNumber_of {v : Int32} (h : ¬ v_X0_isNumber v = 0) : -999 ≤ v ∧ v ≤ 999 := by
  unfold v_X0_isNumber at h
  split at h
  · exact absurd rfl h
  · split at h
    · exact absurd rfl h
    · rename_i h1 h2
      rw [Int32.lt_iff_toInt_lt] at h1 h2
      exact ⟨by rw [Int32.le_iff_toInt_le]; omega, by rw [Int32.le_iff_toInt_le]; omega⟩
theorem non_id {v : Int32} (h : okc v) : v_X0_numberOrNothing v = v := by
  rcases h with h | h
  · rw [h]; decide
  · rw [v_X0_numberOrNothing, if_neg (by rw [isNumber_1 h]; decide)]
theorem non_ok (v : Int32) : okc (v_X0_numberOrNothing v) := by
  unfold v_X0_numberOrNothing
  split
  · exact Or.inl rfl
  · rename_i h; exact Or.inr (isNumber_of h)
theorem rule_ok {k v y : Int32} (h : okc v) : okc (v_X0_ruleMakes k v y) := by
  unfold v_X0_ruleMakes
  repeat' split
  all_goals first | exact non_ok _ | exact Or.inl rfl | exact h
theorem snd3 {v : Int32} (h : okc v) (t : Int32) : ¬ v_X0_alike (v_X0_mapped v t 3) (v_X0_turnedByRule v t) = 0 := alike_ne (by
  unfold v_X0_mapped v_X0_turnedByRule
  split
  · rfl
  · rw [non_id (rule_ok h)])
theorem snd4 (v t n : Int32) : ¬ v_X0_alike (v_X0_filtered (v_X0_filtered v t 3) n 3) (v_X0_filtered (v_X0_filtered v n 3) t 3) = 0 := alike_ne (by
  have e0 : ∀ q : Int32, v_X0_filtered (-10000) q 3 = -10000 := fun q => if_pos rfl
  by_cases h : v = -10000
  · simp only [h, e0]
  · by_cases h1 : v_X0_testLets t v 3 = 0
    · by_cases h2 : v_X0_testLets n v 3 = 0
      · have a1 : v_X0_filtered v t 3 = -10000 := by rw [v_X0_filtered, if_neg h, if_pos h1]
        have a2 : v_X0_filtered v n 3 = -10000 := by rw [v_X0_filtered, if_neg h, if_pos h2]
        simp only [a1, a2, e0]
      · have a1 : v_X0_filtered v t 3 = -10000 := by rw [v_X0_filtered, if_neg h, if_pos h1]
        have a2 : v_X0_filtered v n 3 = v := by rw [v_X0_filtered, if_neg h, if_neg h2]
        simp only [a1, a2, e0]
    · by_cases h2 : v_X0_testLets n v 3 = 0
      · have a1 : v_X0_filtered v t 3 = v := by rw [v_X0_filtered, if_neg h, if_neg h1]
        have a2 : v_X0_filtered v n 3 = -10000 := by rw [v_X0_filtered, if_neg h, if_pos h2]
        simp only [a1, a2, e0]
      · have a1 : v_X0_filtered v t 3 = v := by rw [v_X0_filtered, if_neg h, if_neg h1]
        have a2 : v_X0_filtered v n 3 = v := by rw [v_X0_filtered, if_neg h, if_neg h2]
        simp only [a1, a2])
theorem sta0 (v : Int32) : v_X0_standing v 0 = if v = -10000 then -1000 else v := by
  unfold v_X0_standing
  have z1 : ¬ (0 : Int32) = 1 := by decide
  have z2 : ¬ (0 : Int32) = 2 := by decide
  rw [if_neg z2, if_neg z1, if_neg z1]
theorem sta0_eq {a b : Int32} (ha : okc a) (hb : okc b) : v_X0_standing a 0 = v_X0_standing b 0 ↔ a = b := by
  rw [sta0, sta0]
  have k : ∀ z : Int32, okc z → ¬ z = -10000 → ¬ z = -1000 := fun z hz hn h9 => by
    rcases hz with h | h
    · exact hn h
    · rw [h9] at h; revert h; decide
  by_cases h1 : a = -10000
  · by_cases h2 : b = -10000
    · rw [if_pos h1, if_pos h2, h1, h2]; exact ⟨fun _ => rfl, fun _ => rfl⟩
    · rw [if_pos h1, if_neg h2, h1]
      exact ⟨fun h => absurd h.symm (k b hb h2), fun h => absurd h.symm h2⟩
  · by_cases h2 : b = -10000
    · rw [if_neg h1, if_pos h2, h2]
      exact ⟨fun h => absurd h (k a ha h1), fun h => absurd h h1⟩
    · rw [if_neg h1, if_neg h2]
theorem cmp0_iff {b o : Int32} {f : Nat → Int32} (ha : okc (f b.toNatClampNeg)) (hb : okc (f o.toNatClampNeg)) : v_X0_compare b o 0 f = 0 ↔ f b.toNatClampNeg = f o.toNatClampNeg := by
  unfold v_X0_compare
  split
  · rename_i h; exact ⟨fun _ => (sta0_eq ha hb).mp h, fun _ => rfl⟩
  · rename_i h
    split
    · exact ⟨fun z => absurd z (by decide), fun z => absurd ((sta0_eq ha hb).mpr z) h⟩
    · exact ⟨fun z => absurd z (by decide), fun z => absurd ((sta0_eq ha hb).mpr z) h⟩
theorem ok_at {f : Nat → Int32} {b : Int32} (h : ok6 f) (hb : vp_in b 6) : okc (f b.toNatClampNeg) := by
  obtain ⟨j, hj, rfl⟩ := vp_in_of hb (by decide)
  rw [nI_clamp (by omega)]; exact h j hj
theorem snd5t {b o : Int32} {f : Nat → Int32} (h : ok6 f) (hb : vp_in b 6) (ho : vp_in o 6) (z : v_X0_compare b o 0 f = 0) : 1 = v_X0_areLike b o f := by
  rw [v_X0_areLike, (cmp0_iff (ok_at h hb) (ok_at h ho)).mp z, alike_self]
theorem snd5f {b o : Int32} {f : Nat → Int32} (h : ok6 f) (hb : vp_in b 6) (ho : vp_in o 6) (z : ¬ v_X0_compare b o 0 f = 0) : 0 = v_X0_areLike b o f := by
  rw [v_X0_areLike, v_X0_alike, if_neg (fun q => z ((cmp0_iff (ok_at h hb) (ok_at h ho)).mpr q))]
theorem nb_0 {b : Int32} (h : vp_in b 6) : e_X0_needBox b = 0 := by
  have h9 := vp_in_iff.mp h
  unfold e_X0_needBox
  rw [if_neg (by rw [Int32.lt_iff_toInt_lt, i32_0]; omega), if_pos (by rw [Int32.lt_iff_toInt_lt, i32_6]; omega)]
theorem e0_X0_areLike {b o : Int32} (hb : vp_in b 6) (ho : vp_in o 6) : e_X0_areLike b o = 0 := by rw [e_X0_areLike, if_pos (nb_0 hb), if_pos (nb_0 ho)]
theorem e0_X0_isLike {b o : Int32} (hb : vp_in b 6) (ho : vp_in o 6) : e_X0_isLike b o = 0 := by rw [e_X0_isLike, if_pos (nb_0 hb), if_pos (nb_0 ho)]
theorem nk_0 {k : Int32} (h : vp_in k 3) : e_X0_needKind k 3 = 0 := by
  have h9 := vp_in_iff.mp h
  have h3 : (3 : Int32).toInt = 3 := by decide
  unfold e_X0_needKind
  rw [if_neg (by rw [Int32.lt_iff_toInt_lt, i32_0]; omega), if_pos (by rw [Int32.lt_iff_toInt_lt, h3]; omega)]
theorem nk9_0 {k : Int32} (h : vp_in k 9) : e_X0_needKind k 9 = 0 := by
  have h9 := vp_in_iff.mp h
  have h3 : (9 : Int32).toInt = 9 := by decide
  unfold e_X0_needKind
  rw [if_neg (by rw [Int32.lt_iff_toInt_lt, i32_0]; omega), if_pos (by rw [Int32.lt_iff_toInt_lt, h3]; omega)]
theorem e0_X0_compare {b o k : Int32} (hb : vp_in b 6) (ho : vp_in o 6) (hk : vp_in k 3) : e_X0_compare b o k = 0 := by rw [e_X0_compare, if_pos (nb_0 hb), if_pos (nb_0 ho), if_pos (nk_0 hk)]
theorem e0_X0_codes {a b o : Int32} (ha : vp_in a 6) (hb : vp_in b 6) (ho : vp_in o 6) : e_X0_codes a b o = 0 := by rw [e_X0_codes, if_pos (nb_0 ha), if_pos (nb_0 hb), if_pos (nb_0 ho)]
-- the reference's comparing
theorem one0 : v_X2_one 0 = 0 := by decide
theorem one1 : v_X2_one 1 = 1 := by decide
theorem mcmp {a b : Int32} : v_X2_compared a b 0 = if a = -100000 then (if b = -100000 then 0 else -1) else if b = -100000 then 1 else if a ≤ b then (if b ≤ a then 0 else -1) else 1 := by
  have z1 : ¬ (0 : Int32) = 1 := by decide
  have z2 : ¬ (0 : Int32) = 2 := by decide
  have s0 : (1 : Int32) - 1 = 0 := by decide
  have s1 : (0 : Int32) - 1 = -1 := by decide
  have s2 : (1 : Int32) - 0 = 1 := by decide
  have s3 : (0 : Int32) - 0 = 0 := by decide
  unfold v_X2_compared
  rw [one0, one1]
  simp only [z1, z2, if_false, s0, s1, s2, s3]
  by_cases h3 : a ≤ b
  · simp only [h3, if_true]
  · have h4 : b ≤ a := by rw [Int32.le_iff_toInt_le] at h3 ⊢; omega
    simp only [h3, h4, if_false, if_true]
theorem mcmp_eq {a b : Int32} : v_X2_compared a b 0 = 0 ↔ a = b := by
  rw [mcmp]
  by_cases h1 : a = -100000
  · by_cases h2 : b = -100000
    · rw [if_pos h1, if_pos h2, h1, h2]; exact ⟨fun _ => rfl, fun _ => rfl⟩
    · rw [if_pos h1, if_neg h2, h1]; exact ⟨fun h => absurd h (by decide), fun h => absurd h.symm h2⟩
  · by_cases h2 : b = -100000
    · rw [if_neg h1, if_pos h2, h2]; exact ⟨fun h => absurd h (by decide), fun h => absurd h h1⟩
    · rw [if_neg h1, if_neg h2]
      by_cases h3 : a ≤ b
      · by_cases h4 : b ≤ a
        · rw [if_pos h3, if_pos h4]
          rw [Int32.le_iff_toInt_le] at h3 h4
          exact ⟨fun _ => Int32.toInt_inj.mp (by omega), fun _ => rfl⟩
        · rw [if_pos h3, if_neg h4]
          exact ⟨fun h => absurd h (by decide), fun h => absurd (by rw [h, Int32.le_iff_toInt_le]; exact Int.le_refl _) h4⟩
      · rw [if_neg h3]
        exact ⟨fun h => absurd h (by decide), fun h => absurd (by rw [h, Int32.le_iff_toInt_le]; exact Int.le_refl _) h3⟩
theorem mcmp_neg {a b : Int32} : v_X2_compared a b 1 = -(v_X2_compared a b 0) := by
  have z1 : ¬ (0 : Int32) = 1 := by decide
  have z2 : ¬ (0 : Int32) = 2 := by decide
  have z3 : ¬ (1 : Int32) = 2 := by decide
  unfold v_X2_compared
  simp only [z1, z2, z3, if_false, if_true]
  repeat' split
  all_goals rfl
