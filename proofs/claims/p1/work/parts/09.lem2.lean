theorem fails_1 {a b : Int32} (h : v_X2_fails a b = 0) : a = 0 := by
  unfold v_X2_fails at h
  by_cases h1 : a = 0
  · exact h1
  · rw [if_neg h1] at h; exact absurd h (by decide)
theorem noTwo_1 {a b k q y : Int32} (h : v_X2_isNoTwo a b k q y = 0) : v_X2_isNone a = 0 := by
  by_cases h1 : v_X2_isNone a = 0
  · exact h1
  · unfold v_X2_isNoTwo at h
    rw [if_neg h1] at h
    revert h; repeat' split
    all_goals (intro h; exact absurd (fails_1 h) (by decide))
theorem noTwo_2 {a b k q y : Int32} (h : v_X2_isNoTwo a b k q y = 0) : v_X2_isNone b = 0 := by
  have h1 := noTwo_1 h
  by_cases h2 : v_X2_isNone b = 0
  · exact h2
  · unfold v_X2_isNoTwo at h
    rw [if_pos h1, if_neg h2] at h
    revert h; repeat' split
    all_goals (intro h; exact absurd (fails_1 h) (by decide))
