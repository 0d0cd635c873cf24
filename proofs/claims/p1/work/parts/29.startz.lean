theorem tz_us : Cond.laysStatic "java/lang/Throwable" "UNASSIGNED_STACK" "[Ljava/lang/StackTraceElement;" ∈ lw_tbl := List.mem_append_right _ (List.mem_of_getElem? (i := 211) (by decide +kernel))
theorem tz_thr : Cond.initialized "java/lang/Throwable" ∈ lw_tbl := List.mem_append_right _ (List.mem_of_getElem? (i := 8) (by decide +kernel))
theorem gz_us : (Jvm.Cond.isRef (Jvm.Term.static "java/lang/Throwable" "UNASSIGNED_STACK" "[Ljava/lang/StackTraceElement;")) ∈ flatC (Jvm.Cond.and given_1 narrow_1) := List.mem_of_getElem? (i := 5) (by decide +kernel)
theorem tz_ss : Cond.laysStatic "java/lang/Throwable" "SUPPRESSED_SENTINEL" "Ljava/util/List;" ∈ lw_tbl := List.mem_append_right _ (List.mem_of_getElem? (i := 213) (by decide +kernel))
theorem gz_ss : (Jvm.Cond.isRef (Jvm.Term.static "java/lang/Throwable" "SUPPRESSED_SENTINEL" "Ljava/util/List;")) ∈ flatC (Jvm.Cond.and given_1 narrow_1) := List.mem_of_getElem? (i := 6) (by decide +kernel)
theorem tz_c0 : Cond.castable "java/lang/IndexOutOfBoundsException" "java/lang/IndexOutOfBoundsException" ∈ lw_tbl := List.mem_append_right _ (List.mem_of_getElem? (i := 186) (by decide +kernel))
theorem tz_c1 : Cond.castable "java/lang/IllegalArgumentException" "java/lang/IllegalArgumentException" ∈ lw_tbl := List.mem_append_right _ (List.mem_of_getElem? (i := 266) (by decide +kernel))
theorem tz_c2 : Cond.castable "java/lang/IllegalStateException" "java/lang/IllegalStateException" ∈ lw_tbl := List.mem_append_right _ (List.mem_of_getElem? (i := 742) (by decide +kernel))
theorem tz_t163 : Cond.stringRef "Maybehall" 163 "there is no such box" ∈ lw_tbl := List.mem_append_right _ (List.mem_of_getElem? (i := 227) (by decide +kernel))
theorem gz_t163 : (Jvm.Cond.exactly (Jvm.Term.string "Maybehall" 163) "java/lang/String") ∈ flatC (Jvm.Cond.and given_1 narrow_1) := List.mem_of_getElem? (i := 256) (by decide +kernel)
theorem tz_t165 : Cond.stringRef "Maybehall" 165 "there is no such plain box" ∈ lw_tbl := List.mem_append_right _ (List.mem_of_getElem? (i := 791) (by decide +kernel))
theorem gz_t165 : (Jvm.Cond.exactly (Jvm.Term.string "Maybehall" 165) "java/lang/String") ∈ flatC (Jvm.Cond.and given_1 narrow_1) := List.mem_of_getElem? (i := 524) (by decide +kernel)
theorem tz_t170 : Cond.stringRef "Maybehall" 170 "the number is not -999 to 999" ∈ lw_tbl := List.mem_append_right _ (List.mem_of_getElem? (i := 625) (by decide +kernel))
theorem gz_t170 : (Jvm.Cond.exactly (Jvm.Term.string "Maybehall" 170) "java/lang/String") ∈ flatC (Jvm.Cond.and given_1 narrow_1) := List.mem_of_getElem? (i := 452) (by decide +kernel)
theorem tz_t172 : Cond.stringRef "Maybehall" 172 "there is no such kind" ∈ lw_tbl := List.mem_append_right _ (List.mem_of_getElem? (i := 273) (by decide +kernel))
theorem gz_t172 : (Jvm.Cond.exactly (Jvm.Term.string "Maybehall" 172) "java/lang/String") ∈ flatC (Jvm.Cond.and given_1 narrow_1) := List.mem_of_getElem? (i := 280) (by decide +kernel)
theorem tz_t73 : Cond.stringRef "Maybehall" 73 "the box is empty" ∈ lw_tbl := List.mem_append_right _ (List.mem_of_getElem? (i := 749) (by decide +kernel))
theorem gz_t73 : (Jvm.Cond.exactly (Jvm.Term.string "Maybehall" 73) "java/lang/String") ∈ flatC (Jvm.Cond.and given_1 narrow_1) := List.mem_of_getElem? (i := 494) (by decide +kernel)
theorem tz_t100 : Cond.stringRef "Maybehall" 100 "the length is not 0 to 999" ∈ lw_tbl := List.mem_append_right _ (List.mem_of_getElem? (i := 903) (by decide +kernel))
theorem gz_t100 : (Jvm.Cond.exactly (Jvm.Term.string "Maybehall" 100) "java/lang/String") ∈ flatC (Jvm.Cond.and given_1 narrow_1) := List.mem_of_getElem? (i := 565) (by decide +kernel)
theorem tz_t105 : Cond.stringRef "Maybehall" 105 "the place is not 0 to length - 1" ∈ lw_tbl := List.mem_append_right _ (List.mem_of_getElem? (i := 904) (by decide +kernel))
theorem gz_t105 : (Jvm.Cond.exactly (Jvm.Term.string "Maybehall" 105) "java/lang/String") ∈ flatC (Jvm.Cond.and given_1 narrow_1) := List.mem_of_getElem? (i := 607) (by decide +kernel)
theorem tz_d0 : Cond.declares ⟨"java/lang/RuntimeException", "<init>", "(Ljava/lang/String;)V"⟩ ∈ lw_tbl := List.mem_append_right _ (List.mem_of_getElem? (i := 188) (by decide +kernel))
theorem tz_d1 : Cond.declares ⟨"java/lang/Exception", "<init>", "(Ljava/lang/String;)V"⟩ ∈ lw_tbl := List.mem_append_right _ (List.mem_of_getElem? (i := 190) (by decide +kernel))
theorem tz_d2 : Cond.declares ⟨"java/lang/Throwable", "<init>", "(Ljava/lang/String;)V"⟩ ∈ lw_tbl := List.mem_append_right _ (List.mem_of_getElem? (i := 192) (by decide +kernel))
theorem gz_n0 : (Jvm.Cond.not (Jvm.Cond.castable "java/lang/IllegalArgumentException" "java/lang/IndexOutOfBoundsException")) ∈ flatC (Jvm.Cond.and given_1 narrow_1) := List.mem_of_getElem? (i := 221) (by decide +kernel)
theorem gz_n1 : (Jvm.Cond.not (Jvm.Cond.castable "java/lang/IllegalStateException" "java/lang/IndexOutOfBoundsException")) ∈ flatC (Jvm.Cond.and given_1 narrow_1) := List.mem_of_getElem? (i := 222) (by decide +kernel)
theorem gz_n2 : (Jvm.Cond.not (Jvm.Cond.castable "java/lang/IndexOutOfBoundsException" "java/lang/IllegalArgumentException")) ∈ flatC (Jvm.Cond.and given_1 narrow_1) := List.mem_of_getElem? (i := 228) (by decide +kernel)
theorem tz_fn : Cond.fieldLinkNest "MaybehallLaw" 13 "MaybehallLaw$Out" "n" "J" "MaybehallLaw" ∈ lw_tbl := List.mem_append_right _ (List.mem_of_getElem? (i := 606) (by decide +kernel))
theorem tz_fs : Cond.fieldLinkNest "MaybehallLaw" 141 "MaybehallLaw$Out" "s" "Ljava/lang/String;" "MaybehallLaw" ∈ lw_tbl := List.mem_append_right _ (List.mem_of_getElem? (i := 607) (by decide +kernel))
theorem tz_cs : Cond.laysStatic "java/lang/String" "COMPACT_STRINGS" "Z" ∈ lw_tbl := List.mem_append_right _ (List.mem_of_getElem? (i := 41) (by decide +kernel))
theorem tz_str : Cond.initialized "java/lang/String" ∈ lw_tbl := List.mem_append_right _ (List.mem_of_getElem? (i := 4) (by decide +kernel))
theorem gz_cs : (Jvm.Cond.eq (Jvm.Term.static "java/lang/String" "COMPACT_STRINGS" "Z") (Jvm.Term.int 1)) ∈ flatC (Jvm.Cond.and given_1 narrow_1) := List.mem_of_getElem? (i := 4) (by decide +kernel)
def dg_DigitOnes (j : Nat) : Int32 := Int32.ofNat (48 + j % 10)
def pl_DigitOnes : List Nat := [14, 15, 16, 17, 18, 19, 20, 21, 22, 23, 24, 25, 26, 27, 28, 29, 30, 31, 32, 33, 34, 35, 36, 37, 38, 39, 40, 41, 42, 43, 44, 45, 46, 47, 48, 49, 50, 51, 52, 53, 54, 55, 56, 57, 58, 59, 60, 61, 62, 63, 64, 65, 66, 67, 68, 69, 70, 71, 72, 73, 74, 75, 76, 77, 78, 79, 80, 81, 82, 83, 84, 85, 86, 87, 88, 89, 90, 91, 92, 93, 94, 95, 96, 97, 98, 99, 100, 101, 102, 103, 104, 105, 106, 107, 108, 109, 110, 111, 112, 113]
theorem gz_DigitOnes : ∀ j, j < 100 → (flatC (Jvm.Cond.and given_1 narrow_1))[pl_DigitOnes.getD j 0]? = some (Cond.eq (.elem (.static "java/lang/Integer" "DigitOnes" "[B") (.int (Int32.ofNat j))) (.int (dg_DigitOnes j))) := by decide +kernel
theorem gz_aDigitOnes : (Jvm.Cond.arrayOf (Jvm.Term.static "java/lang/Integer" "DigitOnes" "[B") Jvm.ClassFile.FieldType.byte) ∈ flatC (Jvm.Cond.and given_1 narrow_1) := List.mem_of_getElem? (i := 12) (by decide +kernel)
theorem gz_lDigitOnes : (Jvm.Cond.eq (Jvm.Term.length (Jvm.Term.static "java/lang/Integer" "DigitOnes" "[B")) (Jvm.Term.int 100)) ∈ flatC (Jvm.Cond.and given_1 narrow_1) := List.mem_of_getElem? (i := 13) (by decide +kernel)
theorem tz_lDigitOnes : Cond.laysStatic "java/lang/Integer" "DigitOnes" "[B" ∈ lw_tbl := List.mem_append_right _ (List.mem_of_getElem? (i := 465) (by decide +kernel))
theorem tz_int : Cond.initialized "java/lang/Integer" ∈ lw_tbl := List.mem_append_right _ (List.mem_of_getElem? (i := 21) (by decide +kernel))
def dg_DigitTens (j : Nat) : Int32 := Int32.ofNat (48 + j / 10)
def pl_DigitTens : List Nat := [117, 118, 119, 120, 121, 122, 123, 124, 125, 126, 127, 128, 129, 130, 131, 132, 133, 134, 135, 136, 137, 138, 139, 140, 141, 142, 143, 144, 145, 146, 147, 148, 149, 150, 151, 152, 153, 154, 155, 156, 157, 158, 159, 160, 161, 162, 163, 164, 165, 166, 167, 168, 169, 170, 171, 172, 173, 174, 175, 176, 177, 178, 179, 180, 181, 182, 183, 184, 185, 186, 187, 188, 189, 190, 191, 192, 193, 194, 195, 196, 197, 198, 199, 200, 201, 202, 203, 204, 205, 206, 207, 208, 209, 210, 211, 212, 213, 214, 215, 216]
theorem gz_DigitTens : ∀ j, j < 100 → (flatC (Jvm.Cond.and given_1 narrow_1))[pl_DigitTens.getD j 0]? = some (Cond.eq (.elem (.static "java/lang/Integer" "DigitTens" "[B") (.int (Int32.ofNat j))) (.int (dg_DigitTens j))) := by decide +kernel
theorem gz_aDigitTens : (Jvm.Cond.arrayOf (Jvm.Term.static "java/lang/Integer" "DigitTens" "[B") Jvm.ClassFile.FieldType.byte) ∈ flatC (Jvm.Cond.and given_1 narrow_1) := List.mem_of_getElem? (i := 115) (by decide +kernel)
theorem gz_lDigitTens : (Jvm.Cond.eq (Jvm.Term.length (Jvm.Term.static "java/lang/Integer" "DigitTens" "[B")) (Jvm.Term.int 100)) ∈ flatC (Jvm.Cond.and given_1 narrow_1) := List.mem_of_getElem? (i := 116) (by decide +kernel)
theorem tz_lDigitTens : Cond.laysStatic "java/lang/Integer" "DigitTens" "[B" ∈ lw_tbl := List.mem_append_right _ (List.mem_of_getElem? (i := 467) (by decide +kernel))
def tx_none (j : Nat) : Int32 := match j with
  | 0 => 110
  | 1 => 111
  | 2 => 110
  | 3 => 101
  | _ => 0
theorem tx_fit : sb_Fit tx_none := fun j => match j with
  | 0 => by decide
  | 1 => by decide
  | 2 => by decide
  | 3 => by decide
  | _ + 4 => by rfl
theorem gz_N_0 : (Jvm.Cond.eq (Jvm.Term.elem (Jvm.Term.field (Jvm.Term.string "Maybehall" 201) "java/lang/String" "value" "[B") (Jvm.Term.int 0)) (Jvm.Term.int 110)) ∈ flatC (Jvm.Cond.and given_1 narrow_1) := List.mem_of_getElem? (i := 440) (by decide +kernel)
theorem gz_N_1 : (Jvm.Cond.eq (Jvm.Term.elem (Jvm.Term.field (Jvm.Term.string "Maybehall" 201) "java/lang/String" "value" "[B") (Jvm.Term.int 1)) (Jvm.Term.int 111)) ∈ flatC (Jvm.Cond.and given_1 narrow_1) := List.mem_of_getElem? (i := 441) (by decide +kernel)
theorem gz_N_2 : (Jvm.Cond.eq (Jvm.Term.elem (Jvm.Term.field (Jvm.Term.string "Maybehall" 201) "java/lang/String" "value" "[B") (Jvm.Term.int 2)) (Jvm.Term.int 110)) ∈ flatC (Jvm.Cond.and given_1 narrow_1) := List.mem_of_getElem? (i := 442) (by decide +kernel)
theorem gz_N_3 : (Jvm.Cond.eq (Jvm.Term.elem (Jvm.Term.field (Jvm.Term.string "Maybehall" 201) "java/lang/String" "value" "[B") (Jvm.Term.int 3)) (Jvm.Term.int 101)) ∈ flatC (Jvm.Cond.and given_1 narrow_1) := List.mem_of_getElem? (i := 443) (by decide +kernel)
theorem gz_N_e : (Jvm.Cond.exactly (Jvm.Term.string "Maybehall" 201) "java/lang/String") ∈ flatC (Jvm.Cond.and given_1 narrow_1) := List.mem_of_getElem? (i := 436) (by decide +kernel)
theorem gz_N_c : (Jvm.Cond.eq (Jvm.Term.field (Jvm.Term.string "Maybehall" 201) "java/lang/String" "coder" "B") (Jvm.Term.int 0)) ∈ flatC (Jvm.Cond.and given_1 narrow_1) := List.mem_of_getElem? (i := 437) (by decide +kernel)
theorem gz_N_a : (Jvm.Cond.arrayOf (Jvm.Term.field (Jvm.Term.string "Maybehall" 201) "java/lang/String" "value" "[B") Jvm.ClassFile.FieldType.byte) ∈ flatC (Jvm.Cond.and given_1 narrow_1) := List.mem_of_getElem? (i := 438) (by decide +kernel)
theorem gz_N_l : (Jvm.Cond.eq (Jvm.Term.length (Jvm.Term.field (Jvm.Term.string "Maybehall" 201) "java/lang/String" "value" "[B")) (Jvm.Term.int 4)) ∈ flatC (Jvm.Cond.and given_1 narrow_1) := List.mem_of_getElem? (i := 439) (by decide +kernel)
theorem tz_sN : Cond.stringRef "Maybehall" 201 "none" ∈ lw_tbl := List.mem_append_right _ (List.mem_of_getElem? (i := 591) (by decide +kernel))
theorem gz_M_0 : (Jvm.Cond.eq (Jvm.Term.elem (Jvm.Term.field (Jvm.Term.string "MaybehallModel" 124) "java/lang/String" "value" "[B") (Jvm.Term.int 0)) (Jvm.Term.int 110)) ∈ flatC (Jvm.Cond.and given_1 narrow_1) := List.mem_of_getElem? (i := 678) (by decide +kernel)
theorem gz_M_1 : (Jvm.Cond.eq (Jvm.Term.elem (Jvm.Term.field (Jvm.Term.string "MaybehallModel" 124) "java/lang/String" "value" "[B") (Jvm.Term.int 1)) (Jvm.Term.int 111)) ∈ flatC (Jvm.Cond.and given_1 narrow_1) := List.mem_of_getElem? (i := 679) (by decide +kernel)
theorem gz_M_2 : (Jvm.Cond.eq (Jvm.Term.elem (Jvm.Term.field (Jvm.Term.string "MaybehallModel" 124) "java/lang/String" "value" "[B") (Jvm.Term.int 2)) (Jvm.Term.int 110)) ∈ flatC (Jvm.Cond.and given_1 narrow_1) := List.mem_of_getElem? (i := 680) (by decide +kernel)
theorem gz_M_3 : (Jvm.Cond.eq (Jvm.Term.elem (Jvm.Term.field (Jvm.Term.string "MaybehallModel" 124) "java/lang/String" "value" "[B") (Jvm.Term.int 3)) (Jvm.Term.int 101)) ∈ flatC (Jvm.Cond.and given_1 narrow_1) := List.mem_of_getElem? (i := 681) (by decide +kernel)
theorem gz_M_e : (Jvm.Cond.exactly (Jvm.Term.string "MaybehallModel" 124) "java/lang/String") ∈ flatC (Jvm.Cond.and given_1 narrow_1) := List.mem_of_getElem? (i := 674) (by decide +kernel)
theorem gz_M_c : (Jvm.Cond.eq (Jvm.Term.field (Jvm.Term.string "MaybehallModel" 124) "java/lang/String" "coder" "B") (Jvm.Term.int 0)) ∈ flatC (Jvm.Cond.and given_1 narrow_1) := List.mem_of_getElem? (i := 675) (by decide +kernel)
theorem gz_M_a : (Jvm.Cond.arrayOf (Jvm.Term.field (Jvm.Term.string "MaybehallModel" 124) "java/lang/String" "value" "[B") Jvm.ClassFile.FieldType.byte) ∈ flatC (Jvm.Cond.and given_1 narrow_1) := List.mem_of_getElem? (i := 676) (by decide +kernel)
theorem gz_M_l : (Jvm.Cond.eq (Jvm.Term.length (Jvm.Term.field (Jvm.Term.string "MaybehallModel" 124) "java/lang/String" "value" "[B")) (Jvm.Term.int 4)) ∈ flatC (Jvm.Cond.and given_1 narrow_1) := List.mem_of_getElem? (i := 677) (by decide +kernel)
theorem tz_sM : Cond.stringRef "MaybehallModel" 124 "none" ∈ lw_tbl := List.mem_append_right _ (List.mem_of_getElem? (i := 1170) (by decide +kernel))
theorem gz_E_e : (Jvm.Cond.exactly (Jvm.Term.string "MaybehallModel" 129) "java/lang/String") ∈ flatC (Jvm.Cond.and given_1 narrow_1) := List.mem_of_getElem? (i := 656) (by decide +kernel)
theorem gz_E_c : (Jvm.Cond.eq (Jvm.Term.field (Jvm.Term.string "MaybehallModel" 129) "java/lang/String" "coder" "B") (Jvm.Term.int 0)) ∈ flatC (Jvm.Cond.and given_1 narrow_1) := List.mem_of_getElem? (i := 657) (by decide +kernel)
theorem gz_E_a : (Jvm.Cond.arrayOf (Jvm.Term.field (Jvm.Term.string "MaybehallModel" 129) "java/lang/String" "value" "[B") Jvm.ClassFile.FieldType.byte) ∈ flatC (Jvm.Cond.and given_1 narrow_1) := List.mem_of_getElem? (i := 658) (by decide +kernel)
theorem gz_E_l : (Jvm.Cond.eq (Jvm.Term.length (Jvm.Term.field (Jvm.Term.string "MaybehallModel" 129) "java/lang/String" "value" "[B")) (Jvm.Term.int 0)) ∈ flatC (Jvm.Cond.and given_1 narrow_1) := List.mem_of_getElem? (i := 659) (by decide +kernel)
theorem tz_sE : Cond.stringRef "MaybehallModel" 129 "" ∈ lw_tbl := List.mem_append_right _ (List.mem_of_getElem? (i := 1166) (by decide +kernel))
theorem str_of {args : Array Value} {s : State} {own tx : String} {k : Nat} (h1 : (Cond.stringRef own k tx).before args s = true) (h2 : (Cond.exactly (.string own k) "java/lang/String").before args s = true) : ∃ sa, vk_R own k tx sa s := by
  obtain ⟨a, h⟩ := exact_ref h2
  exact ⟨a, vk_R.of h1 h⟩
set_option maxHeartbeats 2000000 in
theorem start_z {s : State} {b : Nat} (hts : ∀ w ∈ lw_tbl, w.before #[Value.ref b] s = true) (hgv : (Jvm.Cond.and given_1 narrow_1).before #[Value.ref b] s = true) : ∃ (to tt : Nat) (go gu : Nat → Int32) (na nv : Nat) (nf : Nat → Int32) (nb nw : Nat) (nh : Nat → Int32) (ea ew : Nat) (ef : Nat → Int32), zLaw to tt go gu na nv nf nb nw nh ea ew ef (fun q => s.heap.size ≤ q) s s.heap ∧ sb_Fit nf ∧ sb_Fit ef ∧ TL 4 nf nh := by
  have hs := flat_of_before _ hgv
  have hA0 : ∀ a : Nat, a < s.heap.size → ¬ (fun q : Nat => s.heap.size ≤ q) a := fun _ h => Nat.not_le.mpr h
  have z1 : vx_Zq Bundle.tN "UNASSIGNED_STACK" Bundle.steD (fun q => s.heap.size ≤ q) s s.heap := vx_Zqof (hts _ tz_us) (hts _ tz_thr) (hs _ gz_us) hA0
  have z2 : vx_Zq Bundle.tN "SUPPRESSED_SENTINEL" Bundle.listD (fun q => s.heap.size ≤ q) s s.heap := vx_Zqof (hts _ tz_ss) (hts _ tz_thr) (hs _ gz_ss) hA0
  have z3 : ∀ q ∈ cst3, va_Nw (.castable q.1 q.2) s := by
    intro q hq
    rcases List.mem_cons.mp hq with e | hq
    · rw [e]; exact (va_Nw.of rfl (hts _ tz_c0))
    rcases List.mem_cons.mp hq with e | hq
    · rw [e]; exact (va_Nw.of rfl (hts _ tz_c1))
    rw [List.mem_singleton.mp hq]; exact (va_Nw.of rfl (hts _ tz_c2))
  have z4 : ∀ q ∈ txt7, ∃ sa, vk_R RX0 q.1 q.2 sa s := by
    intro q hq
    rcases List.mem_cons.mp hq with e | hq
    · rw [e]; exact (str_of (hts _ tz_t163) (hs _ gz_t163))
    rcases List.mem_cons.mp hq with e | hq
    · rw [e]; exact (str_of (hts _ tz_t165) (hs _ gz_t165))
    rcases List.mem_cons.mp hq with e | hq
    · rw [e]; exact (str_of (hts _ tz_t170) (hs _ gz_t170))
    rcases List.mem_cons.mp hq with e | hq
    · rw [e]; exact (str_of (hts _ tz_t172) (hs _ gz_t172))
    rcases List.mem_cons.mp hq with e | hq
    · rw [e]; exact (str_of (hts _ tz_t73) (hs _ gz_t73))
    rcases List.mem_cons.mp hq with e | hq
    · rw [e]; exact (str_of (hts _ tz_t100) (hs _ gz_t100))
    rw [List.mem_singleton.mp hq]; exact (str_of (hts _ tz_t105) (hs _ gz_t105))
  have z5 : ∀ q ∈ dcl3, va_Nw (.declares q) s := by
    intro q hq
    rcases List.mem_cons.mp hq with e | hq
    · rw [e]; exact (va_Nw.of rfl (hts _ tz_d0))
    rcases List.mem_cons.mp hq with e | hq
    · rw [e]; exact (va_Nw.of rfl (hts _ tz_d1))
    rw [List.mem_singleton.mp hq]; exact (va_Nw.of rfl (hts _ tz_d2))
  have z6 : zN (fun q => s.heap.size ≤ q) s s.heap := by
    intro q hq
    rcases List.mem_cons.mp hq with e | hq
    · rw [e]; exact (va_Nc.of (hs _ gz_n0))
    rcases List.mem_cons.mp hq with e | hq
    · rw [e]; exact (va_Nc.of (hs _ gz_n1))
    rw [List.mem_singleton.mp hq]; exact (va_Nc.of (hs _ gz_n2))
  have z7 : (zF RL 13 RX1 "n" "J" RL) (fun q => s.heap.size ≤ q) s s.heap := va_Nw.of rfl (hts _ tz_fn)
  have z8 : (zF RL 141 RX1 "s" "Ljava/lang/String;" RL) (fun q => s.heap.size ≤ q) s s.heap := va_Nw.of rfl (hts _ tz_fs)
  have z9 : zC (fun q => s.heap.size ≤ q) s s.heap := va_Zof (hts _ tz_cs) (hts _ tz_str) (va_eqi (hs _ gz_cs)) hA0
  obtain ⟨tDigitOnes, eDigitOnes, hDigitOnes⟩ := va_Tof (tm := .static "java/lang/Integer" "DigitOnes" "[B") (ty := .byte) (N := 100) (f := fun j => .int (dg_DigitOnes j)) (A := fun q => s.heap.size ≤ q) (by decide) (hs _ gz_aDigitOnes) (va_eqt (hs _ gz_lDigitOnes)) (fun j hj => va_eqt (hs _ (List.mem_of_getElem? (gz_DigitOnes j hj)))) hA0
  have yDigitOnes : zDg "DigitOnes" tDigitOnes dg_DigitOnes (fun q => s.heap.size ≤ q) s s.heap := ⟨va_Zof (hts _ tz_lDigitOnes) (hts _ tz_int) eDigitOnes hA0, hDigitOnes⟩
  obtain ⟨tDigitTens, eDigitTens, hDigitTens⟩ := va_Tof (tm := .static "java/lang/Integer" "DigitTens" "[B") (ty := .byte) (N := 100) (f := fun j => .int (dg_DigitTens j)) (A := fun q => s.heap.size ≤ q) (by decide) (hs _ gz_aDigitTens) (va_eqt (hs _ gz_lDigitTens)) (fun j hj => va_eqt (hs _ (List.mem_of_getElem? (gz_DigitTens j hj)))) hA0
  have yDigitTens : zDg "DigitTens" tDigitTens dg_DigitTens (fun q => s.heap.size ≤ q) s s.heap := ⟨va_Zof (hts _ tz_lDigitTens) (hts _ tz_int) eDigitTens hA0, hDigitTens⟩
  obtain ⟨aN, vN, eN, sN⟩ := zS_of (tm := .string "Maybehall" 201) (N := 4) (f := tx_none) (A := fun q => s.heap.size ≤ q) (by decide) (hs _ gz_N_e) (hs _ gz_N_c) (hs _ gz_N_a) (hs _ gz_N_l) (fun j hj => by
    rcases (show j = 0 ∨ j = 1 ∨ j = 2 ∨ j = 3 by omega) with rfl | rfl | rfl | rfl
    · exact (hs _ gz_N_0)
    · exact (hs _ gz_N_1)
    · exact (hs _ gz_N_2)
    · exact (hs _ gz_N_3)) hA0
  have rN : zR RX0 201 "none" aN (fun q => s.heap.size ≤ q) s s.heap := vk_R.of (hts _ tz_sN) eN
  obtain ⟨aM, vM, eM, sM⟩ := zS_of (tm := .string "MaybehallModel" 124) (N := 4) (f := tx_none) (A := fun q => s.heap.size ≤ q) (by decide) (hs _ gz_M_e) (hs _ gz_M_c) (hs _ gz_M_a) (hs _ gz_M_l) (fun j hj => by
    rcases (show j = 0 ∨ j = 1 ∨ j = 2 ∨ j = 3 by omega) with rfl | rfl | rfl | rfl
    · exact (hs _ gz_M_0)
    · exact (hs _ gz_M_1)
    · exact (hs _ gz_M_2)
    · exact (hs _ gz_M_3)) hA0
  have rM : zR RX2 124 "none" aM (fun q => s.heap.size ≤ q) s s.heap := vk_R.of (hts _ tz_sM) eM
  obtain ⟨aE, vE, eE, sE⟩ := zS_of (tm := .string "MaybehallModel" 129) (N := 0) (f := (fun _ => 0)) (A := fun q => s.heap.size ≤ q) (by decide) (hs _ gz_E_e) (hs _ gz_E_c) (hs _ gz_E_a) (hs _ gz_E_l) (fun j hj => absurd hj (Nat.not_lt_zero j)) hA0
  have rE : zR RX2 129 "" aE (fun q => s.heap.size ≤ q) s s.heap := vk_R.of (hts _ tz_sE) eE
  exact ⟨tDigitOnes, tDigitTens, dg_DigitOnes, dg_DigitTens, aN, vN, tx_none, aM, vM, tx_none, aE, vE, (fun _ => 0), ⟨⟨⟨⟨z1, z2, z3, z4, z5⟩, z6⟩, ⟨z7, z8⟩⟩, ⟨⟨z9, ⟨⟨yDigitOnes, yDigitTens⟩, ⟨rN, sN⟩⟩⟩, ⟨z9, ⟨⟨yDigitOnes, yDigitTens⟩, ⟨⟨rM, sM⟩, ⟨rE, sE⟩⟩⟩⟩⟩⟩, tx_fit, sb_fit0, fun _ _ => rfl⟩
