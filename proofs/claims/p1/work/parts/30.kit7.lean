/-! MY OWN LAYER, seventh part: a long method's bytes are decoded in small pieces: what a piece decodes to, the whole decodes to at its place -/
def dc_Ag (A B : ByteArray) (a : Nat) : Prop := ∀ p (h : p < B.size), ∃ h2 : a + p < A.size, A[a + p] = B[p]
def dc_Sh {α : Type} (A B : ByteArray) (a : Nat) (r : Decoder α) : Prop := ∀ p x q, r.runAt B p = .ok (x, q) → r.runAt A (a + p) = .ok (x, a + q)
theorem dc_u1_run (B : ByteArray) (p : Nat) (h : p < B.size) : (Reader.u1 : Decoder Nat).runAt B p = .ok (B[p].toNat, p + 1) := by
  have e : (Reader.u1 : Decoder Nat).runAt B p = (if h : p < B.size then (do set (p + 1); pure B[p].toNat : Decoder Nat) else throw (HasTruncated.truncated p)) B p := rfl
  rw [e, dif_pos h]; rfl
theorem dc_u1_no (B : ByteArray) (p : Nat) (h : ¬ p < B.size) : (Reader.u1 : Decoder Nat).runAt B p = .error (HasTruncated.truncated p) := by
  have e : (Reader.u1 : Decoder Nat).runAt B p = (if h : p < B.size then (do set (p + 1); pure B[p].toNat : Decoder Nat) else throw (HasTruncated.truncated p)) B p := rfl
  rw [e, dif_neg h]; rfl
theorem dc_u1 {A B : ByteArray} {a : Nat} (hag : dc_Ag A B a) : dc_Sh A B a (Reader.u1 : Decoder Nat) := by
  intro p x q hr
  by_cases h : p < B.size
  · rw [dc_u1_run B p h] at hr
    cases hr
    obtain ⟨h2, h3⟩ := hag p h
    rw [dc_u1_run A (a + p) h2, h3]; rfl
  · rw [dc_u1_no B p h] at hr; cases hr
theorem dc_pure {A B : ByteArray} {a : Nat} {α : Type} {v : α} : dc_Sh A B a (pure v : Decoder α) := by
  intro p x q hr
  cases hr
  rfl
theorem dc_bind_run {α β : Type} (r : Decoder α) (f : α → Decoder β) (C : ByteArray) (n : Nat) : (r >>= f).runAt C n = (match r.runAt C n with | .ok z => (f z.1).runAt C z.2 | .error e => .error e) := by
  show (r C n >>= fun z => f z.1 C z.2) = (match r C n with | .ok z => f z.1 C z.2 | .error e => .error e)
  cases r C n <;> rfl
theorem dc_bind {A B : ByteArray} {a : Nat} {α β : Type} {r : Decoder α} {f : α → Decoder β} (h1 : dc_Sh A B a r) (h2 : ∀ v, dc_Sh A B a (f v)) : dc_Sh A B a (r >>= f) := by
  intro p x q hr
  rw [dc_bind_run] at hr ⊢
  cases h : r.runAt B p with
  | error z => rw [h] at hr; cases hr
  | ok z => rw [h] at hr; rw [h1 p z.1 z.2 h]; exact h2 z.1 z.2 x q hr
theorem dc_map {A B : ByteArray} {a : Nat} {α β : Type} {r : Decoder α} {f : α → β} (h1 : dc_Sh A B a r) : dc_Sh A B a (f <$> r) := dc_bind (f := fun v => pure (f v)) h1 (fun _ => dc_pure)
theorem dc_u2 {A B : ByteArray} {a : Nat} (hag : dc_Ag A B a) : dc_Sh A B a (Reader.u2 : Decoder Nat) := dc_bind (dc_u1 hag) (fun _ => dc_bind (dc_u1 hag) (fun _ => dc_pure))
theorem dc_s1 {A B : ByteArray} {a : Nat} (hag : dc_Ag A B a) : dc_Sh A B a (Reader.s1 : Decoder Int) := dc_map (dc_u1 hag)
theorem dc_s2 {A B : ByteArray} {a : Nat} (hag : dc_Ag A B a) : dc_Sh A B a (Reader.s2 : Decoder Int) := dc_map (dc_u2 hag)
def dc_ops : List Nat := [2, 3, 4, 5, 6, 7, 8, 9, 10, 16, 17, 18, 19, 20, 21, 22, 25, 26, 27, 28, 29, 30, 31, 32, 33, 34, 35, 36, 37, 38, 39, 40, 41, 42, 43, 44, 45, 46, 54, 55, 58, 59, 60, 61, 62, 63, 64, 65, 66, 67, 68, 69, 70, 71, 72, 73, 74, 75, 76, 77, 78, 87, 88, 89, 96, 97, 100, 126, 132, 133, 148, 153, 154, 155, 156, 157, 158, 159, 160, 161, 162, 163, 164, 167, 172, 173, 176, 177, 180, 181, 182, 183, 184, 187, 190, 198, 199]
set_option maxRecDepth 20000 in
theorem dc_shift {A B : ByteArray} {a p n op : Nat} {ins : Instr} (hag : dc_Ag A B a) (hop : (if h : p < B.size then B[p].toNat else 0) = op) (hin : op ∈ dc_ops) (h : decode B p = .ok (ins, n)) : decode A (a + p) = .ok (ins, n) := by
  by_cases hp : p < B.size
  · rw [dif_pos hp] at hop
    obtain ⟨hp2, he⟩ := hag p hp
    have key : ∀ x q, (Decoder.instr p).runAt B p = .ok (x, q) → (Decoder.instr (a + p)).runAt A (a + p) = .ok (x, a + q) := by
      intro x q hr
      unfold Decoder.instr at hr ⊢
      rw [dc_bind_run, dc_u1_run B p hp] at hr
      rw [dc_bind_run, dc_u1_run A (a + p) hp2, he]
      rw [hop] at hr ⊢
      dsimp only at hr ⊢
      rw [Nat.add_assoc]
      simp only [dc_ops, List.mem_cons, List.not_mem_nil, or_false] at hin
      rcases hin with rfl | rfl | rfl | rfl | rfl | rfl | rfl | rfl | rfl | rfl | rfl | rfl | rfl | rfl | rfl | rfl | rfl | rfl | rfl | rfl | rfl | rfl | rfl | rfl | rfl | rfl | rfl | rfl | rfl | rfl | rfl | rfl | rfl | rfl | rfl | rfl | rfl | rfl | rfl | rfl | rfl | rfl | rfl | rfl | rfl | rfl | rfl | rfl | rfl | rfl | rfl | rfl | rfl | rfl | rfl | rfl | rfl | rfl | rfl | rfl | rfl | rfl | rfl | rfl | rfl | rfl | rfl | rfl | rfl | rfl | rfl | rfl | rfl | rfl | rfl | rfl | rfl | rfl | rfl | rfl | rfl | rfl | rfl | rfl | rfl | rfl | rfl | rfl | rfl | rfl | rfl | rfl | rfl | rfl | rfl | rfl | rfl
      · exact dc_pure _ _ _ hr
      · exact dc_pure _ _ _ hr
      · exact dc_pure _ _ _ hr
      · exact dc_pure _ _ _ hr
      · exact dc_pure _ _ _ hr
      · exact dc_pure _ _ _ hr
      · exact dc_pure _ _ _ hr
      · exact dc_pure _ _ _ hr
      · exact dc_pure _ _ _ hr
      · exact (dc_bind (dc_s1 hag) (fun _ => dc_pure)) _ _ _ hr
      · exact (dc_bind (dc_s2 hag) (fun _ => dc_pure)) _ _ _ hr
      · exact (dc_bind (dc_u1 hag) (fun _ => dc_pure)) _ _ _ hr
      · exact (dc_bind (dc_u2 hag) (fun _ => dc_pure)) _ _ _ hr
      · exact (dc_bind (dc_u2 hag) (fun _ => dc_pure)) _ _ _ hr
      · exact (dc_bind (dc_u1 hag) (fun _ => dc_pure)) _ _ _ hr
      · exact (dc_bind (dc_u1 hag) (fun _ => dc_pure)) _ _ _ hr
      · exact (dc_bind (dc_u1 hag) (fun _ => dc_pure)) _ _ _ hr
      · exact dc_pure _ _ _ hr
      · exact dc_pure _ _ _ hr
      · exact dc_pure _ _ _ hr
      · exact dc_pure _ _ _ hr
      · exact dc_pure _ _ _ hr
      · exact dc_pure _ _ _ hr
      · exact dc_pure _ _ _ hr
      · exact dc_pure _ _ _ hr
      · exact dc_pure _ _ _ hr
      · exact dc_pure _ _ _ hr
      · exact dc_pure _ _ _ hr
      · exact dc_pure _ _ _ hr
      · exact dc_pure _ _ _ hr
      · exact dc_pure _ _ _ hr
      · exact dc_pure _ _ _ hr
      · exact dc_pure _ _ _ hr
      · exact dc_pure _ _ _ hr
      · exact dc_pure _ _ _ hr
      · exact dc_pure _ _ _ hr
      · exact dc_pure _ _ _ hr
      · exact dc_pure _ _ _ hr
      · exact (dc_bind (dc_u1 hag) (fun _ => dc_pure)) _ _ _ hr
      · exact (dc_bind (dc_u1 hag) (fun _ => dc_pure)) _ _ _ hr
      · exact (dc_bind (dc_u1 hag) (fun _ => dc_pure)) _ _ _ hr
      · exact dc_pure _ _ _ hr
      · exact dc_pure _ _ _ hr
      · exact dc_pure _ _ _ hr
      · exact dc_pure _ _ _ hr
      · exact dc_pure _ _ _ hr
      · exact dc_pure _ _ _ hr
      · exact dc_pure _ _ _ hr
      · exact dc_pure _ _ _ hr
      · exact dc_pure _ _ _ hr
      · exact dc_pure _ _ _ hr
      · exact dc_pure _ _ _ hr
      · exact dc_pure _ _ _ hr
      · exact dc_pure _ _ _ hr
      · exact dc_pure _ _ _ hr
      · exact dc_pure _ _ _ hr
      · exact dc_pure _ _ _ hr
      · exact dc_pure _ _ _ hr
      · exact dc_pure _ _ _ hr
      · exact dc_pure _ _ _ hr
      · exact dc_pure _ _ _ hr
      · exact dc_pure _ _ _ hr
      · exact dc_pure _ _ _ hr
      · exact dc_pure _ _ _ hr
      · exact dc_pure _ _ _ hr
      · exact dc_pure _ _ _ hr
      · exact dc_pure _ _ _ hr
      · exact dc_pure _ _ _ hr
      · exact (dc_bind (dc_u1 hag) (fun _ => dc_bind (dc_s1 hag) (fun _ => dc_pure))) _ _ _ hr
      · exact dc_pure _ _ _ hr
      · exact dc_pure _ _ _ hr
      · exact (dc_bind (dc_s2 hag) (fun _ => dc_pure)) _ _ _ hr
      · exact (dc_bind (dc_s2 hag) (fun _ => dc_pure)) _ _ _ hr
      · exact (dc_bind (dc_s2 hag) (fun _ => dc_pure)) _ _ _ hr
      · exact (dc_bind (dc_s2 hag) (fun _ => dc_pure)) _ _ _ hr
      · exact (dc_bind (dc_s2 hag) (fun _ => dc_pure)) _ _ _ hr
      · exact (dc_bind (dc_s2 hag) (fun _ => dc_pure)) _ _ _ hr
      · exact (dc_bind (dc_s2 hag) (fun _ => dc_pure)) _ _ _ hr
      · exact (dc_bind (dc_s2 hag) (fun _ => dc_pure)) _ _ _ hr
      · exact (dc_bind (dc_s2 hag) (fun _ => dc_pure)) _ _ _ hr
      · exact (dc_bind (dc_s2 hag) (fun _ => dc_pure)) _ _ _ hr
      · exact (dc_bind (dc_s2 hag) (fun _ => dc_pure)) _ _ _ hr
      · exact (dc_bind (dc_s2 hag) (fun _ => dc_pure)) _ _ _ hr
      · exact (dc_bind (dc_s2 hag) (fun _ => dc_pure)) _ _ _ hr
      · exact dc_pure _ _ _ hr
      · exact dc_pure _ _ _ hr
      · exact dc_pure _ _ _ hr
      · exact dc_pure _ _ _ hr
      · exact (dc_bind (dc_u2 hag) (fun _ => dc_pure)) _ _ _ hr
      · exact (dc_bind (dc_u2 hag) (fun _ => dc_pure)) _ _ _ hr
      · exact (dc_bind (dc_u2 hag) (fun _ => dc_pure)) _ _ _ hr
      · exact (dc_bind (dc_u2 hag) (fun _ => dc_pure)) _ _ _ hr
      · exact (dc_bind (dc_u2 hag) (fun _ => dc_pure)) _ _ _ hr
      · exact (dc_bind (dc_u2 hag) (fun _ => dc_pure)) _ _ _ hr
      · exact dc_pure _ _ _ hr
      · exact (dc_bind (dc_s2 hag) (fun _ => dc_pure)) _ _ _ hr
      · exact (dc_bind (dc_s2 hag) (fun _ => dc_pure)) _ _ _ hr
    unfold decode at h ⊢
    cases h9 : (Decoder.instr p).runAt B p with
    | error z => rw [h9] at h; cases h
    | ok z =>
      rw [h9] at h
      rw [key z.1 z.2 h9]
      cases h
      show Except.ok (z.1, a + z.2 - (a + p)) = Except.ok (z.1, z.2 - p)
      rw [Nat.add_sub_add_left]
  · exfalso
    rw [dif_neg hp] at hop
    rw [← hop] at hin
    revert hin; decide
theorem dc_row {A B : ByteArray} {a p n : Nat} {ins : Instr} (hag : dc_Ag A B a) (h : (if h : p < B.size then B[p].toNat else 0) ∈ dc_ops ∧ decode B p = .ok (ins, n)) : decode A (a + p) = .ok (ins, n) := dc_shift hag rfl h.1 h.2
theorem dc_next {A : ByteArray} {pre b b2 post : List UInt8} (h : A.data.toList = pre ++ (b ++ (b2 ++ post))) : A.data.toList = (pre ++ b) ++ (b2 ++ post) := h.trans (List.append_assoc pre b (b2 ++ post)).symm
theorem dc_two {A : ByteArray} {pre b b2 post : List UInt8} (h : A.data.toList = pre ++ (b ++ (b2 ++ post))) : A.data.toList = pre ++ ((b ++ b2) ++ post) := by rw [h, List.append_assoc]
theorem dc_ag {A : ByteArray} {pre b post : List UInt8} {s : Nat} (h : A.data.toList = pre ++ (b ++ post)) (hs : pre.length = s) : dc_Ag A ⟨b.toArray⟩ s := by
  subst hs
  intro p hp
  have hp1 : p < b.length := hp
  have hl : A.size = A.data.toList.length := rfl
  have h2 : pre.length + p < A.size := by rw [hl, h]; simp; omega
  refine ⟨h2, ?_⟩
  show A.data[pre.length + p] = b.toArray[p]
  have e : A.data.toList[pre.length + p]? = b[p]? := by
    rw [h, List.getElem?_append_right (Nat.le_add_right _ _), Nat.add_sub_cancel_left, List.getElem?_append_left hp1]
  have e1 : A.data.toList[pre.length + p]? = some A.data[pre.length + p] := by
    rw [List.getElem?_eq_getElem (by rw [← hl]; exact h2)]; rfl
  have e2 : b[p]? = some b.toArray[p] := by
    rw [List.getElem?_eq_getElem hp1]; rfl
  rw [e1, e2] at e
  exact Option.some.inj e
