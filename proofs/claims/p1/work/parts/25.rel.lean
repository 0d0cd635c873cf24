/-! what a class's box and the reference's have to do with each other -/
def relv (v w : Int32) : Prop := (v = -10000 ∧ w = -100000) ∨ (v = w ∧ -999 ≤ w ∧ w ≤ 999)
def rel6 (f h : Nat → Int32) : Prop := ∀ i, i < 6 → relv (f i) (h i)
def rel2 (f h : Nat → Int32) : Prop := ∀ i, i < 2 → relv (f i) (h i)
def Inv (f g : Nat → Int32) (ak su gt lf rf kn : Int32) (h j : Nat → Int32) (ak' su' gt' lf' rf' kn' : Int32) : Prop := rel6 f h ∧ rel2 g j ∧ ak' = ak ∧ su' = su ∧ gt' = gt ∧ lf' = lf ∧ rf' = rf ∧ kn' = kn
theorem i10 : ((1 : Int32) = 0) = False := eq_false (by decide)
theorem i20 : ((2 : Int32) = 0) = False := eq_false (by decide)
theorem n10 : ((1 : Nat) = 0) = False := eq_false (by decide)
theorem n20 : ((2 : Nat) = 0) = False := eq_false (by decide)
theorem n30 : ((3 : Nat) = 0) = False := eq_false (by decide)
theorem n21 : ((2 : Nat) = 1) = False := eq_false (by decide)
theorem n12 : ((1 : Nat) = 2) = False := eq_false (by decide)
theorem n31 : ((3 : Nat) = 1) = False := eq_false (by decide)
theorem i131 : (1 : Int32) * 31 = 31 := by decide
theorem i1p0 : (1 : Int32) + 0 = 1 := by decide
theorem upd_at (f : Nat → Int32) (k : Nat) (v : Int32) : upd f k v k = v := if_pos rfl
theorem ne_no {w : Int32} (h : -999 ≤ w ∧ w ≤ 999) : ¬ w = -10000 ∧ ¬ w = -100000 := ⟨fun z => by rw [z] at h; revert h; decide, fun z => by rw [z] at h; revert h; decide⟩
theorem relv_no : relv (-10000) (-100000) := Or.inl ⟨rfl, rfl⟩
theorem relv_num {v : Int32} (h : -999 ≤ v ∧ v ≤ 999) : relv v v := Or.inr ⟨rfl, h⟩
theorem relv_c {v w : Int32} (h : relv v w) : (v = -10000 ∧ w = -100000) ∨ (v = w ∧ ¬ w = -10000 ∧ ¬ w = -100000 ∧ -999 ≤ w ∧ w ≤ 999) := by
  rcases h with h | ⟨h1, h2⟩
  · exact Or.inl h
  · exact Or.inr ⟨h1, (ne_no h2).1, (ne_no h2).2, h2⟩
theorem relv_okc {v w : Int32} (h : relv v w) : okc v := by
  rcases h with h | ⟨h1, h2⟩
  · exact Or.inl h.1
  · rw [h1]; exact Or.inr h2
theorem relv_okm {v w : Int32} (h : relv v w) : okm w := by
  rcases h with h | ⟨h1, h2⟩
  · exact Or.inl h.2
  · exact Or.inr h2
theorem rel_at {n : Nat} {f h : Nat → Int32} (hr : ∀ i, i < n → relv (f i) (h i)) (hn : n ≤ 6) {b : Int32} (hb : vp_in b n) : relv (f b.toNatClampNeg) (h b.toNatClampNeg) := by
  obtain ⟨j, hj, rfl⟩ := vp_in_of hb (by omega)
  rw [nI_clamp (by omega)]; exact hr j hj
theorem at6 {f h : Nat → Int32} (hr : rel6 f h) {b : Int32} (hb : vp_in b 6) : relv (f b.toNatClampNeg) (h b.toNatClampNeg) := rel_at hr (by decide) hb
theorem at2 {f h : Nat → Int32} (hr : rel2 f h) {b : Int32} (hb : vp_in b 2) : relv (f b.toNatClampNeg) (h b.toNatClampNeg) := rel_at hr (by decide) hb
theorem rel_upd {n : Nat} {f h : Nat → Int32} (hr : ∀ i, i < n → relv (f i) (h i)) {k : Nat} {v w : Int32} (hv : relv v w) : ∀ i, i < n → relv (upd f k v i) (upd h k w i) := fun i hi => by
  unfold upd
  split
  · exact hv
  · exact hr i hi
theorem up6 {f h : Nat → Int32} (hr : rel6 f h) {k : Nat} {v w : Int32} (hv : relv v w) : rel6 (upd f k v) (upd h k w) := rel_upd hr hv
theorem up2 {f h : Nat → Int32} (hr : rel2 f h) {k : Nat} {v w : Int32} (hv : relv v w) : rel2 (upd f k v) (upd h k w) := rel_upd hr hv
theorem full_b {v w : Int32} (h : relv v w) : v_X0_fullness v = v_X2_become w := by
  unfold v_X0_fullness v_X2_become
  rw [one0, one1]
  rcases relv_c h with ⟨h1, h2⟩ | ⟨h1, h2, h3, h4⟩
  · rw [if_pos h1, if_pos h2]
  · rw [if_neg (by rw [h1]; exact h2), if_neg h3]
theorem code_b {v w : Int32} (h : relv v w) : v_X0_numberOrZero v = v_X2_codeTold w := by
  unfold v_X0_numberOrZero v_X2_codeTold
  rcases relv_c h with ⟨h1, h2⟩ | ⟨h1, h2, h3, h4⟩
  · rw [if_pos h1, if_pos h2]
  · rw [if_neg (by rw [h1]; exact h2), if_neg h3, h1]
theorem relv_eq {v w v' w' : Int32} (h : relv v w) (h' : relv v' w') : v = v' ↔ w = w' := by
  rcases relv_c h with ⟨h1, h2⟩ | ⟨h1, h2, h3, h4⟩ <;> rcases relv_c h' with ⟨k1, k2⟩ | ⟨k1, k2, k3, k4⟩
  · rw [h1, h2, k1, k2]; exact ⟨fun _ => rfl, fun _ => rfl⟩
  · rw [h1, h2, k1]; exact ⟨fun z => absurd z.symm k2, fun z => absurd z.symm k3⟩
  · rw [h1, k1, k2]; exact ⟨fun z => absurd z h2, fun z => absurd z h3⟩
  · rw [h1, k1]
/-! the checks of both -/
theorem isIn_0 {v a b : Int32} (h : ¬ (a ≤ v ∧ v ≤ b)) : v_X2_isIn v a b = 0 := by
  rcases isIn_1 (v := v) (a := a) (b := b) with h1 | ⟨h1, h2, h3⟩
  · exact h1
  · exact absurd ⟨h1, h2⟩ h
theorem isIn_y {v a b : Int32} (h : a ≤ v ∧ v ≤ b) : v_X2_isIn v a b = 1 := by
  have h1 := h.1; have h2 := h.2
  rw [Int32.le_iff_toInt_le] at h1 h2
  unfold v_X2_isIn
  rw [if_neg (by rw [Int32.lt_iff_toInt_lt]; omega), if_neg (by rw [Int32.lt_iff_toInt_lt]; omega)]
theorem rng_in {b k : Int32} {n : Nat} (hk : k.toInt = (n : Int)) : (0 ≤ b ∧ b ≤ k) ↔ vp_in b (n + 1) := by
  rw [vp_in_iff, Int32.le_iff_toInt_le, Int32.le_iff_toInt_le, i32_0, hk]
  omega
theorem bx (b : Int32) : (e_X0_needBox b = 0 ∧ v_X2_isNone b = 0 ∧ vp_in b 6) ∨ (e_X0_needBox b = 1 ∧ v_X2_isNone b = 1 ∧ True) := by
  have h5 : (5 : Int32).toInt = ((5 : Nat) : Int) := by decide
  by_cases h : vp_in b 6
  · exact Or.inl ⟨nb_0 h, by rw [v_X2_isNone, isIn_y ((rng_in h5).mpr h)]; exact if_neg (by decide), h⟩
  · refine Or.inr ⟨?_, by rw [v_X2_isNone, isIn_0 (fun z => h ((rng_in h5).mp z))]; exact if_pos rfl, trivial⟩
    rcases rg_X0_needBox b with h1 | h1
    · exact absurd (in_X0_needBox h1) h
    · exact h1
theorem px (b : Int32) : (e_X0_needPlain b = 0 ∧ v_X2_isNoPlain b = 0 ∧ vp_in b 2) ∨ (e_X0_needPlain b = 1 ∧ v_X2_isNoPlain b = 1 ∧ True) := by
  have h5 : (1 : Int32).toInt = ((1 : Nat) : Int) := by decide
  have np0 : vp_in b 2 → e_X0_needPlain b = 0 := fun h => by
    have h9 := vp_in_iff.mp h
    unfold e_X0_needPlain
    rw [if_neg (by rw [Int32.lt_iff_toInt_lt, i32_0]; omega), if_pos (by rw [Int32.lt_iff_toInt_lt, i32_2]; omega)]
  by_cases h : vp_in b 2
  · exact Or.inl ⟨np0 h, by rw [v_X2_isNoPlain, isIn_y ((rng_in h5).mpr h)]; exact if_neg (by decide), h⟩
  · refine Or.inr ⟨?_, by rw [v_X2_isNoPlain, isIn_0 (fun z => h ((rng_in h5).mp z))]; exact if_pos rfl, trivial⟩
    rcases rg_X0_needPlain b with h1 | h1
    · exact absurd (in_X0_needPlain h1) h
    · exact h1
theorem nx (n : Int32) : (e_X0_needNumber n = 0 ∧ v_X2_isNoNumber n = 0 ∧ -999 ≤ n ∧ n ≤ 999) ∨ (e_X0_needNumber n = 2 ∧ v_X2_isNoNumber n = 1 ∧ True) := by
  by_cases h : -999 ≤ n ∧ n ≤ 999
  · exact Or.inl ⟨by rw [e_X0_needNumber, isNumber_1 h]; exact if_neg (by decide), by rw [v_X2_isNoNumber, isIn_y h]; exact if_neg (by decide), h⟩
  · refine Or.inr ⟨?_, by rw [v_X2_isNoNumber, isIn_0 h]; exact if_pos rfl, trivial⟩
    unfold e_X0_needNumber
    by_cases h1 : v_X0_isNumber n = 0
    · exact if_pos h1
    · exact absurd (isNumber_of h1) h
theorem kx {k a b : Int32} {n : Nat} (hb : b.toInt = (n : Int)) (ha : a.toInt = ((n + 1 : Nat) : Int)) : (e_X0_needKind k a = 0 ∧ v_X2_isIn k 0 b = 1 ∧ vp_in k (n + 1)) ∨ (e_X0_needKind k a = 2 ∧ v_X2_isIn k 0 b = 0 ∧ True) := by
  by_cases h : vp_in k (n + 1)
  · refine Or.inl ⟨?_, isIn_y ((rng_in hb).mpr h), h⟩
    have h9 := vp_in_iff.mp h
    unfold e_X0_needKind
    rw [if_neg (by rw [Int32.lt_iff_toInt_lt, i32_0]; omega), if_pos (by rw [Int32.lt_iff_toInt_lt, ha]; omega)]
  · refine Or.inr ⟨?_, isIn_0 (fun z => h ((rng_in hb).mp z)), trivial⟩
    rcases rg_X0_needKind k a with h1 | h1
    · exfalso
      apply h
      unfold e_X0_needKind at h1
      split at h1
      · cases h1
      · split at h1
        · rename_i h2 h3
          rw [Int32.lt_iff_toInt_lt] at h2 h3
          rw [i32_0] at h2; rw [ha] at h3
          exact vp_in_iff.mpr ⟨by omega, by omega⟩
        · cases h1
    · exact h1
theorem kx6 (k : Int32) : (e_X0_needKind k 6 = 0 ∧ v_X2_isIn k 0 5 = 1 ∧ vp_in k 6) ∨ (e_X0_needKind k 6 = 2 ∧ v_X2_isIn k 0 5 = 0 ∧ True) := kx (n := 5) (by decide) (by decide)
theorem kx5 (k : Int32) : (e_X0_needKind k 5 = 0 ∧ v_X2_isIn k 0 4 = 1 ∧ vp_in k 5) ∨ (e_X0_needKind k 5 = 2 ∧ v_X2_isIn k 0 4 = 0 ∧ True) := kx (n := 4) (by decide) (by decide)
theorem kx3 (k : Int32) : (e_X0_needKind k 3 = 0 ∧ v_X2_isIn k 0 2 = 1 ∧ vp_in k 3) ∨ (e_X0_needKind k 3 = 2 ∧ v_X2_isIn k 0 2 = 0 ∧ True) := kx (n := 2) (by decide) (by decide)
theorem kx9 (k : Int32) : (e_X0_needKind k 9 = 0 ∧ v_X2_isIn k 0 8 = 1 ∧ vp_in k 9) ∨ (e_X0_needKind k 9 = 2 ∧ v_X2_isIn k 0 8 = 0 ∧ True) := kx (n := 8) (by decide) (by decide)
/-! rules, turns, tests, comparing -/
theorem rel_bd (x : Int32) : relv (v_X0_numberOrNothing x) (v_X2_bounded x) := by
  unfold v_X0_numberOrNothing v_X2_bounded
  by_cases h : -999 ≤ x ∧ x ≤ 999
  · have e : v_X2_isNoNumber x = 0 := by rw [v_X2_isNoNumber, isIn_y h]; exact if_neg (by decide)
    rw [isNumber_1 h, e, if_neg (by decide), if_pos rfl]
    exact relv_num h
  · have h1 : v_X0_isNumber x = 0 := by
      by_cases h2 : v_X0_isNumber x = 0
      · exact h2
      · exact absurd (isNumber_of h2) h
    have e : v_X2_isNoNumber x = 1 := by rw [v_X2_isNoNumber, isIn_0 h]; exact if_pos rfl
    rw [h1, e, if_pos rfl, if_neg (by decide)]
    exact relv_no
theorem rel_rule {k n y : Int32} (hn : -999 ≤ n ∧ n ≤ 999) : relv (v_X0_ruleMakes k n y) (v_X2_rule k n y) := by
  unfold v_X0_ruleMakes v_X2_rule
  repeat' split
  all_goals first | exact rel_bd _ | exact relv_no | exact relv_num hn
theorem rel_nat (x : Int32) : relv (v_X0_naturalOrNothing x) (if v_X2_isIn x 0 999 = 0 then -100000 else x) := by
  unfold v_X0_naturalOrNothing v_X2_isIn
  split
  · rw [if_pos rfl]; exact relv_no
  · rename_i h1
    split
    · rw [if_pos rfl]; exact relv_no
    · rename_i h2
      rw [if_neg (by decide)]
      rw [Int32.lt_iff_toInt_lt] at h1 h2
      rw [i32_0] at h1; rw [i32_999] at h2
      exact relv_num ⟨by rw [Int32.le_iff_toInt_le, i32_m999]; omega, by rw [Int32.le_iff_toInt_le, i32_999]; omega⟩
theorem half_in {n : Int32} (hn : -999 ≤ n ∧ n ≤ 999) : -999 ≤ n / 2 ∧ n / 2 ≤ 999 := by
  have h := vb hn
  have e : (n / 2).toInt = n.toInt.tdiv 2 := by rw [Int32.toInt_div_of_ne_right _ _ (by decide), i32_2]
  have e1 := Int.tmod_add_tdiv_mul n.toInt 2
  have l1 := Int.tmod_lt_of_pos n.toInt (show (0 : Int) < 2 by decide)
  have l2 := Int.lt_tmod_of_pos n.toInt (show (0 : Int) < 2 by decide)
  exact ⟨by rw [Int32.le_iff_toInt_le, i32_m999, e]; omega, by rw [Int32.le_iff_toInt_le, i32_999, e]; omega⟩
theorem rel_turn {k n y : Int32} {f h : Nat → Int32} (hr : rel6 f h) (hn : -999 ≤ n ∧ n ≤ 999) : relv (v_X0_turnMakes k n y f) (v_X2_turned k n y h) := by
  unfold v_X0_turnMakes v_X2_turned
  split
  · exact rel_nat _
  · split
    · split
      · exact relv_num (half_in hn)
      · exact relv_no
    · split
      · exact rel_nat _
      · split
        · exact relv_no
        · split
          · exact relv_num hn
          · rw [mod66]; exact at6 hr (in_floorMod n)
theorem let_eq (k n y : Int32) : v_X0_testLets k n y = v_X2_isLet k n y := rfl
theorem iabs_eq {v : Int32} (h : -999 ≤ v ∧ v ≤ 999) : (iabs v).toInt = if 0 ≤ v.toInt then v.toInt else -v.toInt := by
  have h1 := vb h
  unfold iabs
  by_cases h2 : 0 ≤ v
  · have h3 := h2
    rw [Int32.le_iff_toInt_le, i32_0] at h3
    rw [if_pos h2, if_pos h3]
  · have h3 := h2
    rw [Int32.le_iff_toInt_le, i32_0] at h3
    rw [if_neg h2, if_neg h3, Int32.toInt_sub, i32_0, Int.bmod_eq_of_le (by omega) (by omega)]
    omega
def tri (a b : Int) : Int32 := if a = b then 0 else if b < a then 1 else -1
theorem tri_c {a b : Int32} {x y : Int} (ha : a.toInt = x) (hb : b.toInt = y) : (if a = b then (0 : Int32) else if b ≤ a then 1 else -1) = tri x y := by
  unfold tri
  have h1 : a = b ↔ x = y := by rw [← ha, ← hb]; exact Int32.toInt_inj.symm
  have h2 : b ≤ a ↔ y ≤ x := by rw [Int32.le_iff_toInt_le, ha, hb]
  by_cases h3 : x = y
  · rw [if_pos (h1.mpr h3), if_pos h3]
  · rw [if_neg (fun z => h3 (h1.mp z)), if_neg h3]
    by_cases h4 : y ≤ x
    · rw [if_pos (h2.mpr h4), if_pos (by omega)]
    · rw [if_neg (fun z => h4 (h2.mp z)), if_neg (by omega)]
theorem tri_m {a b : Int32} {x y : Int} (ha : a.toInt = x) (hb : b.toInt = y) : (if a ≤ b then (if b ≤ a then (0 : Int32) else -1) else 1) = tri x y := by
  unfold tri
  have h1 : a ≤ b ↔ x ≤ y := by rw [Int32.le_iff_toInt_le, ha, hb]
  have h2 : b ≤ a ↔ y ≤ x := by rw [Int32.le_iff_toInt_le, ha, hb]
  by_cases h3 : x ≤ y
  · rw [if_pos (h1.mpr h3)]
    by_cases h4 : y ≤ x
    · rw [if_pos (h2.mpr h4), if_pos (by omega)]
    · rw [if_neg (fun z => h4 (h2.mp z)), if_neg (by omega), if_neg (by omega)]
  · rw [if_neg (fun z => h3 (h1.mp z)), if_neg (by omega), if_pos (by omega)]
theorem tri_neg (x y : Int) : tri (-x) (-y) = -(tri x y) := by
  unfold tri
  by_cases h1 : x = y
  · rw [if_pos (by omega), if_pos h1] <;> rfl
  · rw [if_neg (by omega), if_neg h1]
    by_cases h2 : y < x
    · rw [if_neg (by omega), if_pos h2] <;> rfl
    · rw [if_pos (by omega), if_neg h2] <;> rfl
/-- how it stands by order 0 (and 1): nothing as -1000 -/
def st0 (w : Int32) : Int := if w = -100000 then -1000 else w.toInt
def st2 (w : Int32) : Int := if w = -100000 then -1 else if 0 ≤ w.toInt then w.toInt else -w.toInt
theorem sta_0 {v w : Int32} (h : relv v w) : (v_X0_standing v 0).toInt = st0 w := by
  rw [sta0, st0]
  rcases relv_c h with ⟨h1, h2⟩ | ⟨h1, h2, h3, h4⟩
  · rw [if_pos h1, if_pos h2]; decide
  · rw [if_neg (by rw [h1]; exact h2), if_neg h3, h1]
theorem sta_1 {v w : Int32} (h : relv v w) : (v_X0_standing v 1).toInt = -st0 w := by
  have z2 : ¬ (1 : Int32) = 2 := by decide
  unfold v_X0_standing st0
  rcases relv_c h with ⟨h1, h2⟩ | ⟨h1, h2, h3, h4⟩
  · rw [if_neg z2, if_pos h1, if_pos rfl, if_pos h2]; decide
  · rw [if_neg z2, if_neg (by rw [h1]; exact h2), if_pos rfl, if_neg h3, h1, neg_int h4]
theorem sta_2 {v w : Int32} (h : relv v w) : (v_X0_standing v 2).toInt = st2 w := by
  unfold v_X0_standing st2
  rcases relv_c h with ⟨h1, h2⟩ | ⟨h1, h2, h3, h4⟩
  · rw [if_pos rfl, if_pos h1, if_pos h2]; decide
  · rw [if_pos rfl, if_neg (by rw [h1]; exact h2), if_neg h3, h1, iabs_eq h4]
theorem st0_no {w : Int32} (h : -999 ≤ w ∧ w ≤ 999) : st0 w = w.toInt ∧ -999 ≤ w.toInt := ⟨if_neg (ne_no h).2, (vb h).1⟩
theorem st2_no {w : Int32} (h : -999 ≤ w ∧ w ≤ 999) : st2 w = (iabs w).toInt ∧ 0 ≤ (iabs w).toInt := by
  rw [iabs_eq h]
  refine ⟨if_neg (ne_no h).2, ?_⟩
  split <;> omega
theorem one_d : ((1 : Int32) - 1 = 0 ∧ (0 : Int32) - 1 = -1 ∧ (1 : Int32) - 0 = 1 ∧ (0 : Int32) - 0 = 0) := by decide
theorem mcmp0 {v w v' w' : Int32} (h : relv v w) (h' : relv v' w') : v_X2_compared w w' 0 = tri (st0 w) (st0 w') := by
  rw [mcmp]
  rcases relv_c h with ⟨h1, h2⟩ | ⟨h1, h2, h3, h4⟩ <;> rcases relv_c h' with ⟨k1, k2⟩ | ⟨k1, k2, k3, k4⟩
  · rw [if_pos h2, if_pos k2, st0, st0, if_pos h2, if_pos k2, tri, if_pos rfl]
  · rw [if_pos h2, if_neg k3, (st0_no k4).1, st0, if_pos h2, tri, if_neg (by have := (st0_no k4).2; omega), if_neg (by have := (st0_no k4).2; omega)]
  · rw [if_neg h3, if_pos k2, (st0_no h4).1, st0, if_pos k2, tri, if_neg (by have := (st0_no h4).2; omega), if_pos (by have := (st0_no h4).2; omega)]
  · rw [if_neg h3, if_neg k3, (st0_no h4).1, (st0_no k4).1]; exact tri_m rfl rfl
theorem mcmp2 {v w v' w' : Int32} (h : relv v w) (h' : relv v' w') : v_X2_compared w w' 2 = tri (st2 w) (st2 w') := by
  have z1 : ¬ (2 : Int32) = 1 := by decide
  have e : v_X2_compared w w' 2 = if w = -100000 then (if w' = -100000 then 0 else -1) else if w' = -100000 then 1 else if iabs w ≤ iabs w' then (if iabs w' ≤ iabs w then 0 else -1) else 1 := by
    obtain ⟨s0, s1, s2, s3⟩ := one_d
    unfold v_X2_compared
    rw [one0, one1]
    simp only [z1, if_true, if_false, s0, s1, s2, s3]
    by_cases h3 : iabs w ≤ iabs w'
    · simp only [h3, if_true]
    · have h4 : iabs w' ≤ iabs w := by rw [Int32.le_iff_toInt_le] at h3 ⊢; omega
      simp only [h3, h4, if_false, if_true]
  rw [e]
  rcases relv_c h with ⟨h1, h2⟩ | ⟨h1, h2, h3, h4⟩ <;> rcases relv_c h' with ⟨k1, k2⟩ | ⟨k1, k2, k3, k4⟩
  · rw [if_pos h2, if_pos k2, st2, st2, if_pos h2, if_pos k2, tri, if_pos rfl]
  · rw [if_pos h2, if_neg k3, (st2_no k4).1, st2, if_pos h2, tri, if_neg (by have := (st2_no k4).2; omega), if_neg (by have := (st2_no k4).2; omega)]
  · rw [if_neg h3, if_pos k2, (st2_no h4).1, st2, if_pos k2, tri, if_neg (by have := (st2_no h4).2; omega), if_pos (by have := (st2_no h4).2; omega)]
  · rw [if_neg h3, if_neg k3, (st2_no h4).1, (st2_no k4).1]; exact tri_m rfl rfl
theorem in3 {k : Int32} (h : vp_in k 3) : k = 0 ∨ k = 1 ∨ k = 2 := by
  obtain ⟨j, hj, rfl⟩ := vp_in_of h (by decide)
  rcases (show j = 0 ∨ j = 1 ∨ j = 2 by omega) with rfl | rfl | rfl
  · exact Or.inl rfl
  · exact Or.inr (Or.inl rfl)
  · exact Or.inr (Or.inr rfl)
theorem cmp_rel {v w v' w' k : Int32} (h : relv v w) (h' : relv v' w') (hk : vp_in k 3) : (if v_X0_standing v k = v_X0_standing v' k then (0 : Int32) else if v_X0_standing v' k ≤ v_X0_standing v k then 1 else -1) = v_X2_compared w w' k := by
  rcases in3 hk with rfl | rfl | rfl
  · rw [mcmp0 h h']; exact tri_c (sta_0 h) (sta_0 h')
  · rw [mcmp_neg, mcmp0 h h', tri_c (sta_1 h) (sta_1 h'), tri_neg]
  · rw [mcmp2 h h']; exact tri_c (sta_2 h) (sta_2 h')
