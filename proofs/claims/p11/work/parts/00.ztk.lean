/-! decoding by the opcode: the bytes at a place are looked at once -/
section DK
theorem dk_u1 {c : ByteArray} {p : Nat} {b : UInt8} {l : List UInt8} (h : c.data.toList.drop p = b :: l) : (Jvm.ClassFile.Reader.u1 : Jvm.ClassFile.Decoder Nat) c p = .ok (b.toNat, p + 1) := by
  have h2 : p < c.data.toList.length := by
    have : (c.data.toList.drop p).length = l.length + 1 := by rw [h]; rfl
    rw [List.length_drop] at this; omega
  have hs : p < c.size := by rw [← ByteArray.size_data, ← Array.length_toList]; exact h2
  have hg : c[p] = b := by
    show c.data[p] = b
    have e : c.data.toList[p] = b := by
      have : (c.data.toList.drop p)[0]? = some b := by rw [h]; rfl
      rw [List.getElem?_drop, Nat.add_zero, List.getElem?_eq_getElem h2] at this
      exact Option.some.inj this
    exact e
  show (dite (p < c.size) (fun h => ((do set (p + 1); Pure.pure c[p].toNat) : Jvm.ClassFile.Decoder Nat)) (fun _ => throw (Jvm.ClassFile.HasTruncated.truncated p))) c p = _
  rw [dif_pos hs]
  show Except.ok (c[p].toNat, p + 1) = _
  rw [hg]
theorem dk_bind {α β : Type} {r : Jvm.ClassFile.Decoder α} {k : α → Jvm.ClassFile.Decoder β} {c : ByteArray} {p p' : Nat} {a : α} (h : r c p = .ok (a, p')) : (r >>= k) c p = k a c p' := by
  show Except.bind (r c p) (fun x => k x.1 c x.2) = _
  rw [h]; rfl
theorem dk_t {L : List UInt8} {p : Nat} {x : UInt8} {l : List UInt8} (h : L.drop p = x :: l) : L.drop (p + 1) = l := by
  rw [← List.drop_drop, h]; rfl
theorem dk_u2 {c : ByteArray} {p : Nat} {a b : UInt8} {l : List UInt8} (h : c.data.toList.drop p = a :: b :: l) : (Jvm.ClassFile.Reader.u2 : Jvm.ClassFile.Decoder Nat) c p = .ok (a.toNat * 256 + b.toNat, p + 2) := by
  unfold Jvm.ClassFile.Reader.u2
  rw [dk_bind (dk_u1 h), dk_bind (dk_u1 (dk_t h))]; rfl
theorem dk_map {α β : Type} {r : Jvm.ClassFile.Decoder α} {k : α → β} {c : ByteArray} {p p' : Nat} {a : α} (h : r c p = .ok (a, p')) : (k <$> r) c p = .ok (k a, p') := by
  show Except.bind (r c p) (fun x => .ok (k x.1, x.2)) = _
  rw [h]; rfl
theorem dk_s1 {c : ByteArray} {p : Nat} {b : UInt8} {l : List UInt8} (h : c.data.toList.drop p = b :: l) : (Jvm.ClassFile.Reader.s1 : Jvm.ClassFile.Decoder Int) c p = .ok (Jvm.ClassFile.Reader.signed 8 b.toNat, p + 1) := dk_map (dk_u1 h)
theorem dk_s2 {c : ByteArray} {p : Nat} {a b : UInt8} {l : List UInt8} (h : c.data.toList.drop p = a :: b :: l) : (Jvm.ClassFile.Reader.s2 : Jvm.ClassFile.Decoder Int) c p = .ok (Jvm.ClassFile.Reader.signed 16 (a.toNat * 256 + b.toNat), p + 2) := dk_map (dk_u2 h)
theorem dk_e {c : ByteArray} {p n : Nat} {i : Jvm.ClassFile.Instr} (h : (Jvm.ClassFile.Decoder.instr p) c p = .ok (i, p + n)) : decode c p = .ok (i, n) := by
  show Except.bind ((Jvm.ClassFile.Decoder.instr p) c p) (fun x => .ok (x.1, x.2 - p)) = _
  rw [h]
  show Except.ok (i, p + n - p) = _
  rw [Nat.add_sub_cancel_left]
/-- what is there -/
def dk1 (c : ByteArray) (p o : Nat) : Bool := match c.data.toList.drop p with | x :: _ => Nat.beq x.toNat o | _ => false
def dk2 (c : ByteArray) (p o n : Nat) : Bool := match c.data.toList.drop p with | x :: a :: _ => Nat.beq x.toNat o && Nat.beq a.toNat n | _ => false
def dk3 (c : ByteArray) (p o n : Nat) : Bool := match c.data.toList.drop p with | x :: a :: b :: _ => Nat.beq x.toNat o && Nat.beq (a.toNat * 256 + b.toNat) n | _ => false
/-- a signed number of m values by its residue -/
def dkS (m n : Nat) : Int := if n < m / 2 then (n : Int) else (n : Int) - (m : Int)
theorem dk1_e {c : ByteArray} {p o : Nat} (h : dk1 c p o = true) : ∃ (x : UInt8) (l : List UInt8), c.data.toList.drop p = x :: l ∧ x.toNat = o := by
  unfold dk1 at h
  split at h
  · rename_i x l e; exact ⟨x, l, e, Nat.eq_of_beq_eq_true h⟩
  · exact absurd h (by decide)
theorem dk2_e {c : ByteArray} {p o n : Nat} (h : dk2 c p o n = true) : ∃ (x a : UInt8) (l : List UInt8), c.data.toList.drop p = x :: a :: l ∧ x.toNat = o ∧ a.toNat = n := by
  unfold dk2 at h
  split at h
  · rename_i x a l e
    have h := Bool.and_eq_true_iff.mp h
    exact ⟨x, a, l, e, Nat.eq_of_beq_eq_true h.1, Nat.eq_of_beq_eq_true h.2⟩
  · exact absurd h (by decide)
theorem dk3_e {c : ByteArray} {p o n : Nat} (h : dk3 c p o n = true) : ∃ (x a b : UInt8) (l : List UInt8), c.data.toList.drop p = x :: a :: b :: l ∧ x.toNat = o ∧ a.toNat * 256 + b.toNat = n := by
  unfold dk3 at h
  split at h
  · rename_i x a b l e
    have h := Bool.and_eq_true_iff.mp h
    exact ⟨x, a, b, l, e, Nat.eq_of_beq_eq_true h.1, Nat.eq_of_beq_eq_true h.2⟩
  · exact absurd h (by decide)
set_option maxRecDepth 20000 in
theorem dk_1 {c : ByteArray} {p : Nat} (h : dk1 c p 1 = true) : decode c p = .ok (.aconst_null, 1) := by
  obtain ⟨x, l, e, q⟩ := dk1_e h
  exact dk_e ((dk_bind (dk_u1 e)).trans (by rw [q]; rfl))
set_option maxRecDepth 20000 in
theorem dk_2 {c : ByteArray} {p : Nat} (h : dk1 c p 2 = true) : decode c p = .ok (.iconst (-1), 1) := by
  obtain ⟨x, l, e, q⟩ := dk1_e h
  exact dk_e ((dk_bind (dk_u1 e)).trans (by rw [q]; rfl))
set_option maxRecDepth 20000 in
theorem dk_3 {c : ByteArray} {p : Nat} (h : dk1 c p 3 = true) : decode c p = .ok (.iconst 0, 1) := by
  obtain ⟨x, l, e, q⟩ := dk1_e h
  exact dk_e ((dk_bind (dk_u1 e)).trans (by rw [q]; rfl))
set_option maxRecDepth 20000 in
theorem dk_4 {c : ByteArray} {p : Nat} (h : dk1 c p 4 = true) : decode c p = .ok (.iconst 1, 1) := by
  obtain ⟨x, l, e, q⟩ := dk1_e h
  exact dk_e ((dk_bind (dk_u1 e)).trans (by rw [q]; rfl))
set_option maxRecDepth 20000 in
theorem dk_5 {c : ByteArray} {p : Nat} (h : dk1 c p 5 = true) : decode c p = .ok (.iconst 2, 1) := by
  obtain ⟨x, l, e, q⟩ := dk1_e h
  exact dk_e ((dk_bind (dk_u1 e)).trans (by rw [q]; rfl))
set_option maxRecDepth 20000 in
theorem dk_6 {c : ByteArray} {p : Nat} (h : dk1 c p 6 = true) : decode c p = .ok (.iconst 3, 1) := by
  obtain ⟨x, l, e, q⟩ := dk1_e h
  exact dk_e ((dk_bind (dk_u1 e)).trans (by rw [q]; rfl))
set_option maxRecDepth 20000 in
theorem dk_7 {c : ByteArray} {p : Nat} (h : dk1 c p 7 = true) : decode c p = .ok (.iconst 4, 1) := by
  obtain ⟨x, l, e, q⟩ := dk1_e h
  exact dk_e ((dk_bind (dk_u1 e)).trans (by rw [q]; rfl))
set_option maxRecDepth 20000 in
theorem dk_8 {c : ByteArray} {p : Nat} (h : dk1 c p 8 = true) : decode c p = .ok (.iconst 5, 1) := by
  obtain ⟨x, l, e, q⟩ := dk1_e h
  exact dk_e ((dk_bind (dk_u1 e)).trans (by rw [q]; rfl))
set_option maxRecDepth 20000 in
theorem dk_9 {c : ByteArray} {p : Nat} (h : dk1 c p 9 = true) : decode c p = .ok (.lconst 0, 1) := by
  obtain ⟨x, l, e, q⟩ := dk1_e h
  exact dk_e ((dk_bind (dk_u1 e)).trans (by rw [q]; rfl))
set_option maxRecDepth 20000 in
theorem dk_10 {c : ByteArray} {p : Nat} (h : dk1 c p 10 = true) : decode c p = .ok (.lconst 1, 1) := by
  obtain ⟨x, l, e, q⟩ := dk1_e h
  exact dk_e ((dk_bind (dk_u1 e)).trans (by rw [q]; rfl))
set_option maxRecDepth 20000 in
theorem dk_26 {c : ByteArray} {p : Nat} (h : dk1 c p 26 = true) : decode c p = .ok (.iload_n 0, 1) := by
  obtain ⟨x, l, e, q⟩ := dk1_e h
  exact dk_e ((dk_bind (dk_u1 e)).trans (by rw [q]; rfl))
set_option maxRecDepth 20000 in
theorem dk_27 {c : ByteArray} {p : Nat} (h : dk1 c p 27 = true) : decode c p = .ok (.iload_n 1, 1) := by
  obtain ⟨x, l, e, q⟩ := dk1_e h
  exact dk_e ((dk_bind (dk_u1 e)).trans (by rw [q]; rfl))
set_option maxRecDepth 20000 in
theorem dk_28 {c : ByteArray} {p : Nat} (h : dk1 c p 28 = true) : decode c p = .ok (.iload_n 2, 1) := by
  obtain ⟨x, l, e, q⟩ := dk1_e h
  exact dk_e ((dk_bind (dk_u1 e)).trans (by rw [q]; rfl))
set_option maxRecDepth 20000 in
theorem dk_29 {c : ByteArray} {p : Nat} (h : dk1 c p 29 = true) : decode c p = .ok (.iload_n 3, 1) := by
  obtain ⟨x, l, e, q⟩ := dk1_e h
  exact dk_e ((dk_bind (dk_u1 e)).trans (by rw [q]; rfl))
set_option maxRecDepth 20000 in
theorem dk_30 {c : ByteArray} {p : Nat} (h : dk1 c p 30 = true) : decode c p = .ok (.lload_n 0, 1) := by
  obtain ⟨x, l, e, q⟩ := dk1_e h
  exact dk_e ((dk_bind (dk_u1 e)).trans (by rw [q]; rfl))
set_option maxRecDepth 20000 in
theorem dk_31 {c : ByteArray} {p : Nat} (h : dk1 c p 31 = true) : decode c p = .ok (.lload_n 1, 1) := by
  obtain ⟨x, l, e, q⟩ := dk1_e h
  exact dk_e ((dk_bind (dk_u1 e)).trans (by rw [q]; rfl))
set_option maxRecDepth 20000 in
theorem dk_32 {c : ByteArray} {p : Nat} (h : dk1 c p 32 = true) : decode c p = .ok (.lload_n 2, 1) := by
  obtain ⟨x, l, e, q⟩ := dk1_e h
  exact dk_e ((dk_bind (dk_u1 e)).trans (by rw [q]; rfl))
set_option maxRecDepth 20000 in
theorem dk_33 {c : ByteArray} {p : Nat} (h : dk1 c p 33 = true) : decode c p = .ok (.lload_n 3, 1) := by
  obtain ⟨x, l, e, q⟩ := dk1_e h
  exact dk_e ((dk_bind (dk_u1 e)).trans (by rw [q]; rfl))
set_option maxRecDepth 20000 in
theorem dk_42 {c : ByteArray} {p : Nat} (h : dk1 c p 42 = true) : decode c p = .ok (.aload_n 0, 1) := by
  obtain ⟨x, l, e, q⟩ := dk1_e h
  exact dk_e ((dk_bind (dk_u1 e)).trans (by rw [q]; rfl))
set_option maxRecDepth 20000 in
theorem dk_43 {c : ByteArray} {p : Nat} (h : dk1 c p 43 = true) : decode c p = .ok (.aload_n 1, 1) := by
  obtain ⟨x, l, e, q⟩ := dk1_e h
  exact dk_e ((dk_bind (dk_u1 e)).trans (by rw [q]; rfl))
set_option maxRecDepth 20000 in
theorem dk_44 {c : ByteArray} {p : Nat} (h : dk1 c p 44 = true) : decode c p = .ok (.aload_n 2, 1) := by
  obtain ⟨x, l, e, q⟩ := dk1_e h
  exact dk_e ((dk_bind (dk_u1 e)).trans (by rw [q]; rfl))
set_option maxRecDepth 20000 in
theorem dk_45 {c : ByteArray} {p : Nat} (h : dk1 c p 45 = true) : decode c p = .ok (.aload_n 3, 1) := by
  obtain ⟨x, l, e, q⟩ := dk1_e h
  exact dk_e ((dk_bind (dk_u1 e)).trans (by rw [q]; rfl))
set_option maxRecDepth 20000 in
theorem dk_46 {c : ByteArray} {p : Nat} (h : dk1 c p 46 = true) : decode c p = .ok (.iaload, 1) := by
  obtain ⟨x, l, e, q⟩ := dk1_e h
  exact dk_e ((dk_bind (dk_u1 e)).trans (by rw [q]; rfl))
set_option maxRecDepth 20000 in
theorem dk_47 {c : ByteArray} {p : Nat} (h : dk1 c p 47 = true) : decode c p = .ok (.laload, 1) := by
  obtain ⟨x, l, e, q⟩ := dk1_e h
  exact dk_e ((dk_bind (dk_u1 e)).trans (by rw [q]; rfl))
set_option maxRecDepth 20000 in
theorem dk_50 {c : ByteArray} {p : Nat} (h : dk1 c p 50 = true) : decode c p = .ok (.aaload, 1) := by
  obtain ⟨x, l, e, q⟩ := dk1_e h
  exact dk_e ((dk_bind (dk_u1 e)).trans (by rw [q]; rfl))
set_option maxRecDepth 20000 in
theorem dk_51 {c : ByteArray} {p : Nat} (h : dk1 c p 51 = true) : decode c p = .ok (.baload, 1) := by
  obtain ⟨x, l, e, q⟩ := dk1_e h
  exact dk_e ((dk_bind (dk_u1 e)).trans (by rw [q]; rfl))
set_option maxRecDepth 20000 in
theorem dk_59 {c : ByteArray} {p : Nat} (h : dk1 c p 59 = true) : decode c p = .ok (.istore_n 0, 1) := by
  obtain ⟨x, l, e, q⟩ := dk1_e h
  exact dk_e ((dk_bind (dk_u1 e)).trans (by rw [q]; rfl))
set_option maxRecDepth 20000 in
theorem dk_60 {c : ByteArray} {p : Nat} (h : dk1 c p 60 = true) : decode c p = .ok (.istore_n 1, 1) := by
  obtain ⟨x, l, e, q⟩ := dk1_e h
  exact dk_e ((dk_bind (dk_u1 e)).trans (by rw [q]; rfl))
set_option maxRecDepth 20000 in
theorem dk_61 {c : ByteArray} {p : Nat} (h : dk1 c p 61 = true) : decode c p = .ok (.istore_n 2, 1) := by
  obtain ⟨x, l, e, q⟩ := dk1_e h
  exact dk_e ((dk_bind (dk_u1 e)).trans (by rw [q]; rfl))
set_option maxRecDepth 20000 in
theorem dk_62 {c : ByteArray} {p : Nat} (h : dk1 c p 62 = true) : decode c p = .ok (.istore_n 3, 1) := by
  obtain ⟨x, l, e, q⟩ := dk1_e h
  exact dk_e ((dk_bind (dk_u1 e)).trans (by rw [q]; rfl))
set_option maxRecDepth 20000 in
theorem dk_63 {c : ByteArray} {p : Nat} (h : dk1 c p 63 = true) : decode c p = .ok (.lstore_n 0, 1) := by
  obtain ⟨x, l, e, q⟩ := dk1_e h
  exact dk_e ((dk_bind (dk_u1 e)).trans (by rw [q]; rfl))
set_option maxRecDepth 20000 in
theorem dk_64 {c : ByteArray} {p : Nat} (h : dk1 c p 64 = true) : decode c p = .ok (.lstore_n 1, 1) := by
  obtain ⟨x, l, e, q⟩ := dk1_e h
  exact dk_e ((dk_bind (dk_u1 e)).trans (by rw [q]; rfl))
set_option maxRecDepth 20000 in
theorem dk_65 {c : ByteArray} {p : Nat} (h : dk1 c p 65 = true) : decode c p = .ok (.lstore_n 2, 1) := by
  obtain ⟨x, l, e, q⟩ := dk1_e h
  exact dk_e ((dk_bind (dk_u1 e)).trans (by rw [q]; rfl))
set_option maxRecDepth 20000 in
theorem dk_66 {c : ByteArray} {p : Nat} (h : dk1 c p 66 = true) : decode c p = .ok (.lstore_n 3, 1) := by
  obtain ⟨x, l, e, q⟩ := dk1_e h
  exact dk_e ((dk_bind (dk_u1 e)).trans (by rw [q]; rfl))
set_option maxRecDepth 20000 in
theorem dk_75 {c : ByteArray} {p : Nat} (h : dk1 c p 75 = true) : decode c p = .ok (.astore_n 0, 1) := by
  obtain ⟨x, l, e, q⟩ := dk1_e h
  exact dk_e ((dk_bind (dk_u1 e)).trans (by rw [q]; rfl))
set_option maxRecDepth 20000 in
theorem dk_76 {c : ByteArray} {p : Nat} (h : dk1 c p 76 = true) : decode c p = .ok (.astore_n 1, 1) := by
  obtain ⟨x, l, e, q⟩ := dk1_e h
  exact dk_e ((dk_bind (dk_u1 e)).trans (by rw [q]; rfl))
set_option maxRecDepth 20000 in
theorem dk_77 {c : ByteArray} {p : Nat} (h : dk1 c p 77 = true) : decode c p = .ok (.astore_n 2, 1) := by
  obtain ⟨x, l, e, q⟩ := dk1_e h
  exact dk_e ((dk_bind (dk_u1 e)).trans (by rw [q]; rfl))
set_option maxRecDepth 20000 in
theorem dk_78 {c : ByteArray} {p : Nat} (h : dk1 c p 78 = true) : decode c p = .ok (.astore_n 3, 1) := by
  obtain ⟨x, l, e, q⟩ := dk1_e h
  exact dk_e ((dk_bind (dk_u1 e)).trans (by rw [q]; rfl))
set_option maxRecDepth 20000 in
theorem dk_79 {c : ByteArray} {p : Nat} (h : dk1 c p 79 = true) : decode c p = .ok (.iastore, 1) := by
  obtain ⟨x, l, e, q⟩ := dk1_e h
  exact dk_e ((dk_bind (dk_u1 e)).trans (by rw [q]; rfl))
set_option maxRecDepth 20000 in
theorem dk_80 {c : ByteArray} {p : Nat} (h : dk1 c p 80 = true) : decode c p = .ok (.lastore, 1) := by
  obtain ⟨x, l, e, q⟩ := dk1_e h
  exact dk_e ((dk_bind (dk_u1 e)).trans (by rw [q]; rfl))
set_option maxRecDepth 20000 in
theorem dk_83 {c : ByteArray} {p : Nat} (h : dk1 c p 83 = true) : decode c p = .ok (.aastore, 1) := by
  obtain ⟨x, l, e, q⟩ := dk1_e h
  exact dk_e ((dk_bind (dk_u1 e)).trans (by rw [q]; rfl))
set_option maxRecDepth 20000 in
theorem dk_84 {c : ByteArray} {p : Nat} (h : dk1 c p 84 = true) : decode c p = .ok (.bastore, 1) := by
  obtain ⟨x, l, e, q⟩ := dk1_e h
  exact dk_e ((dk_bind (dk_u1 e)).trans (by rw [q]; rfl))
set_option maxRecDepth 20000 in
theorem dk_87 {c : ByteArray} {p : Nat} (h : dk1 c p 87 = true) : decode c p = .ok (.pop, 1) := by
  obtain ⟨x, l, e, q⟩ := dk1_e h
  exact dk_e ((dk_bind (dk_u1 e)).trans (by rw [q]; rfl))
set_option maxRecDepth 20000 in
theorem dk_88 {c : ByteArray} {p : Nat} (h : dk1 c p 88 = true) : decode c p = .ok (.pop2, 1) := by
  obtain ⟨x, l, e, q⟩ := dk1_e h
  exact dk_e ((dk_bind (dk_u1 e)).trans (by rw [q]; rfl))
set_option maxRecDepth 20000 in
theorem dk_89 {c : ByteArray} {p : Nat} (h : dk1 c p 89 = true) : decode c p = .ok (.dup, 1) := by
  obtain ⟨x, l, e, q⟩ := dk1_e h
  exact dk_e ((dk_bind (dk_u1 e)).trans (by rw [q]; rfl))
set_option maxRecDepth 20000 in
theorem dk_90 {c : ByteArray} {p : Nat} (h : dk1 c p 90 = true) : decode c p = .ok (.dup_x1, 1) := by
  obtain ⟨x, l, e, q⟩ := dk1_e h
  exact dk_e ((dk_bind (dk_u1 e)).trans (by rw [q]; rfl))
set_option maxRecDepth 20000 in
theorem dk_91 {c : ByteArray} {p : Nat} (h : dk1 c p 91 = true) : decode c p = .ok (.dup_x2, 1) := by
  obtain ⟨x, l, e, q⟩ := dk1_e h
  exact dk_e ((dk_bind (dk_u1 e)).trans (by rw [q]; rfl))
set_option maxRecDepth 20000 in
theorem dk_92 {c : ByteArray} {p : Nat} (h : dk1 c p 92 = true) : decode c p = .ok (.dup2, 1) := by
  obtain ⟨x, l, e, q⟩ := dk1_e h
  exact dk_e ((dk_bind (dk_u1 e)).trans (by rw [q]; rfl))
set_option maxRecDepth 20000 in
theorem dk_93 {c : ByteArray} {p : Nat} (h : dk1 c p 93 = true) : decode c p = .ok (.dup2_x1, 1) := by
  obtain ⟨x, l, e, q⟩ := dk1_e h
  exact dk_e ((dk_bind (dk_u1 e)).trans (by rw [q]; rfl))
set_option maxRecDepth 20000 in
theorem dk_94 {c : ByteArray} {p : Nat} (h : dk1 c p 94 = true) : decode c p = .ok (.dup2_x2, 1) := by
  obtain ⟨x, l, e, q⟩ := dk1_e h
  exact dk_e ((dk_bind (dk_u1 e)).trans (by rw [q]; rfl))
set_option maxRecDepth 20000 in
theorem dk_96 {c : ByteArray} {p : Nat} (h : dk1 c p 96 = true) : decode c p = .ok (.iadd, 1) := by
  obtain ⟨x, l, e, q⟩ := dk1_e h
  exact dk_e ((dk_bind (dk_u1 e)).trans (by rw [q]; rfl))
set_option maxRecDepth 20000 in
theorem dk_97 {c : ByteArray} {p : Nat} (h : dk1 c p 97 = true) : decode c p = .ok (.ladd, 1) := by
  obtain ⟨x, l, e, q⟩ := dk1_e h
  exact dk_e ((dk_bind (dk_u1 e)).trans (by rw [q]; rfl))
set_option maxRecDepth 20000 in
theorem dk_100 {c : ByteArray} {p : Nat} (h : dk1 c p 100 = true) : decode c p = .ok (.isub, 1) := by
  obtain ⟨x, l, e, q⟩ := dk1_e h
  exact dk_e ((dk_bind (dk_u1 e)).trans (by rw [q]; rfl))
set_option maxRecDepth 20000 in
theorem dk_101 {c : ByteArray} {p : Nat} (h : dk1 c p 101 = true) : decode c p = .ok (.lsub, 1) := by
  obtain ⟨x, l, e, q⟩ := dk1_e h
  exact dk_e ((dk_bind (dk_u1 e)).trans (by rw [q]; rfl))
set_option maxRecDepth 20000 in
theorem dk_104 {c : ByteArray} {p : Nat} (h : dk1 c p 104 = true) : decode c p = .ok (.imul, 1) := by
  obtain ⟨x, l, e, q⟩ := dk1_e h
  exact dk_e ((dk_bind (dk_u1 e)).trans (by rw [q]; rfl))
set_option maxRecDepth 20000 in
theorem dk_105 {c : ByteArray} {p : Nat} (h : dk1 c p 105 = true) : decode c p = .ok (.lmul, 1) := by
  obtain ⟨x, l, e, q⟩ := dk1_e h
  exact dk_e ((dk_bind (dk_u1 e)).trans (by rw [q]; rfl))
set_option maxRecDepth 20000 in
theorem dk_108 {c : ByteArray} {p : Nat} (h : dk1 c p 108 = true) : decode c p = .ok (.idiv, 1) := by
  obtain ⟨x, l, e, q⟩ := dk1_e h
  exact dk_e ((dk_bind (dk_u1 e)).trans (by rw [q]; rfl))
set_option maxRecDepth 20000 in
theorem dk_109 {c : ByteArray} {p : Nat} (h : dk1 c p 109 = true) : decode c p = .ok (.ldiv, 1) := by
  obtain ⟨x, l, e, q⟩ := dk1_e h
  exact dk_e ((dk_bind (dk_u1 e)).trans (by rw [q]; rfl))
set_option maxRecDepth 20000 in
theorem dk_112 {c : ByteArray} {p : Nat} (h : dk1 c p 112 = true) : decode c p = .ok (.irem, 1) := by
  obtain ⟨x, l, e, q⟩ := dk1_e h
  exact dk_e ((dk_bind (dk_u1 e)).trans (by rw [q]; rfl))
set_option maxRecDepth 20000 in
theorem dk_113 {c : ByteArray} {p : Nat} (h : dk1 c p 113 = true) : decode c p = .ok (.lrem, 1) := by
  obtain ⟨x, l, e, q⟩ := dk1_e h
  exact dk_e ((dk_bind (dk_u1 e)).trans (by rw [q]; rfl))
set_option maxRecDepth 20000 in
theorem dk_116 {c : ByteArray} {p : Nat} (h : dk1 c p 116 = true) : decode c p = .ok (.ineg, 1) := by
  obtain ⟨x, l, e, q⟩ := dk1_e h
  exact dk_e ((dk_bind (dk_u1 e)).trans (by rw [q]; rfl))
set_option maxRecDepth 20000 in
theorem dk_117 {c : ByteArray} {p : Nat} (h : dk1 c p 117 = true) : decode c p = .ok (.lneg, 1) := by
  obtain ⟨x, l, e, q⟩ := dk1_e h
  exact dk_e ((dk_bind (dk_u1 e)).trans (by rw [q]; rfl))
set_option maxRecDepth 20000 in
theorem dk_120 {c : ByteArray} {p : Nat} (h : dk1 c p 120 = true) : decode c p = .ok (.ishl, 1) := by
  obtain ⟨x, l, e, q⟩ := dk1_e h
  exact dk_e ((dk_bind (dk_u1 e)).trans (by rw [q]; rfl))
set_option maxRecDepth 20000 in
theorem dk_121 {c : ByteArray} {p : Nat} (h : dk1 c p 121 = true) : decode c p = .ok (.lshl, 1) := by
  obtain ⟨x, l, e, q⟩ := dk1_e h
  exact dk_e ((dk_bind (dk_u1 e)).trans (by rw [q]; rfl))
set_option maxRecDepth 20000 in
theorem dk_122 {c : ByteArray} {p : Nat} (h : dk1 c p 122 = true) : decode c p = .ok (.ishr, 1) := by
  obtain ⟨x, l, e, q⟩ := dk1_e h
  exact dk_e ((dk_bind (dk_u1 e)).trans (by rw [q]; rfl))
set_option maxRecDepth 20000 in
theorem dk_123 {c : ByteArray} {p : Nat} (h : dk1 c p 123 = true) : decode c p = .ok (.lshr, 1) := by
  obtain ⟨x, l, e, q⟩ := dk1_e h
  exact dk_e ((dk_bind (dk_u1 e)).trans (by rw [q]; rfl))
set_option maxRecDepth 20000 in
theorem dk_124 {c : ByteArray} {p : Nat} (h : dk1 c p 124 = true) : decode c p = .ok (.iushr, 1) := by
  obtain ⟨x, l, e, q⟩ := dk1_e h
  exact dk_e ((dk_bind (dk_u1 e)).trans (by rw [q]; rfl))
set_option maxRecDepth 20000 in
theorem dk_125 {c : ByteArray} {p : Nat} (h : dk1 c p 125 = true) : decode c p = .ok (.lushr, 1) := by
  obtain ⟨x, l, e, q⟩ := dk1_e h
  exact dk_e ((dk_bind (dk_u1 e)).trans (by rw [q]; rfl))
set_option maxRecDepth 20000 in
theorem dk_126 {c : ByteArray} {p : Nat} (h : dk1 c p 126 = true) : decode c p = .ok (.iand, 1) := by
  obtain ⟨x, l, e, q⟩ := dk1_e h
  exact dk_e ((dk_bind (dk_u1 e)).trans (by rw [q]; rfl))
set_option maxRecDepth 20000 in
theorem dk_127 {c : ByteArray} {p : Nat} (h : dk1 c p 127 = true) : decode c p = .ok (.land, 1) := by
  obtain ⟨x, l, e, q⟩ := dk1_e h
  exact dk_e ((dk_bind (dk_u1 e)).trans (by rw [q]; rfl))
set_option maxRecDepth 20000 in
theorem dk_128 {c : ByteArray} {p : Nat} (h : dk1 c p 128 = true) : decode c p = .ok (.ior, 1) := by
  obtain ⟨x, l, e, q⟩ := dk1_e h
  exact dk_e ((dk_bind (dk_u1 e)).trans (by rw [q]; rfl))
set_option maxRecDepth 20000 in
theorem dk_129 {c : ByteArray} {p : Nat} (h : dk1 c p 129 = true) : decode c p = .ok (.lor, 1) := by
  obtain ⟨x, l, e, q⟩ := dk1_e h
  exact dk_e ((dk_bind (dk_u1 e)).trans (by rw [q]; rfl))
set_option maxRecDepth 20000 in
theorem dk_130 {c : ByteArray} {p : Nat} (h : dk1 c p 130 = true) : decode c p = .ok (.ixor, 1) := by
  obtain ⟨x, l, e, q⟩ := dk1_e h
  exact dk_e ((dk_bind (dk_u1 e)).trans (by rw [q]; rfl))
set_option maxRecDepth 20000 in
theorem dk_131 {c : ByteArray} {p : Nat} (h : dk1 c p 131 = true) : decode c p = .ok (.lxor, 1) := by
  obtain ⟨x, l, e, q⟩ := dk1_e h
  exact dk_e ((dk_bind (dk_u1 e)).trans (by rw [q]; rfl))
set_option maxRecDepth 20000 in
theorem dk_133 {c : ByteArray} {p : Nat} (h : dk1 c p 133 = true) : decode c p = .ok (.i2l, 1) := by
  obtain ⟨x, l, e, q⟩ := dk1_e h
  exact dk_e ((dk_bind (dk_u1 e)).trans (by rw [q]; rfl))
set_option maxRecDepth 20000 in
theorem dk_136 {c : ByteArray} {p : Nat} (h : dk1 c p 136 = true) : decode c p = .ok (.l2i, 1) := by
  obtain ⟨x, l, e, q⟩ := dk1_e h
  exact dk_e ((dk_bind (dk_u1 e)).trans (by rw [q]; rfl))
set_option maxRecDepth 20000 in
theorem dk_145 {c : ByteArray} {p : Nat} (h : dk1 c p 145 = true) : decode c p = .ok (.i2b, 1) := by
  obtain ⟨x, l, e, q⟩ := dk1_e h
  exact dk_e ((dk_bind (dk_u1 e)).trans (by rw [q]; rfl))
set_option maxRecDepth 20000 in
theorem dk_146 {c : ByteArray} {p : Nat} (h : dk1 c p 146 = true) : decode c p = .ok (.i2c, 1) := by
  obtain ⟨x, l, e, q⟩ := dk1_e h
  exact dk_e ((dk_bind (dk_u1 e)).trans (by rw [q]; rfl))
set_option maxRecDepth 20000 in
theorem dk_147 {c : ByteArray} {p : Nat} (h : dk1 c p 147 = true) : decode c p = .ok (.i2s, 1) := by
  obtain ⟨x, l, e, q⟩ := dk1_e h
  exact dk_e ((dk_bind (dk_u1 e)).trans (by rw [q]; rfl))
set_option maxRecDepth 20000 in
theorem dk_148 {c : ByteArray} {p : Nat} (h : dk1 c p 148 = true) : decode c p = .ok (.lcmp, 1) := by
  obtain ⟨x, l, e, q⟩ := dk1_e h
  exact dk_e ((dk_bind (dk_u1 e)).trans (by rw [q]; rfl))
set_option maxRecDepth 20000 in
theorem dk_172 {c : ByteArray} {p : Nat} (h : dk1 c p 172 = true) : decode c p = .ok (.ireturn, 1) := by
  obtain ⟨x, l, e, q⟩ := dk1_e h
  exact dk_e ((dk_bind (dk_u1 e)).trans (by rw [q]; rfl))
set_option maxRecDepth 20000 in
theorem dk_173 {c : ByteArray} {p : Nat} (h : dk1 c p 173 = true) : decode c p = .ok (.lreturn, 1) := by
  obtain ⟨x, l, e, q⟩ := dk1_e h
  exact dk_e ((dk_bind (dk_u1 e)).trans (by rw [q]; rfl))
set_option maxRecDepth 20000 in
theorem dk_176 {c : ByteArray} {p : Nat} (h : dk1 c p 176 = true) : decode c p = .ok (.areturn, 1) := by
  obtain ⟨x, l, e, q⟩ := dk1_e h
  exact dk_e ((dk_bind (dk_u1 e)).trans (by rw [q]; rfl))
set_option maxRecDepth 20000 in
theorem dk_177 {c : ByteArray} {p : Nat} (h : dk1 c p 177 = true) : decode c p = .ok (.return_, 1) := by
  obtain ⟨x, l, e, q⟩ := dk1_e h
  exact dk_e ((dk_bind (dk_u1 e)).trans (by rw [q]; rfl))
set_option maxRecDepth 20000 in
theorem dk_190 {c : ByteArray} {p : Nat} (h : dk1 c p 190 = true) : decode c p = .ok (.arraylength, 1) := by
  obtain ⟨x, l, e, q⟩ := dk1_e h
  exact dk_e ((dk_bind (dk_u1 e)).trans (by rw [q]; rfl))
set_option maxRecDepth 20000 in
theorem dk_191 {c : ByteArray} {p : Nat} (h : dk1 c p 191 = true) : decode c p = .ok (.athrow, 1) := by
  obtain ⟨x, l, e, q⟩ := dk1_e h
  exact dk_e ((dk_bind (dk_u1 e)).trans (by rw [q]; rfl))
set_option maxRecDepth 20000 in
theorem dk_18 {c : ByteArray} {p : Nat} (n : Nat) (h : dk2 c p 18 n = true) : decode c p = .ok (.ldc n, 2) := by
  obtain ⟨x, a, l, e, q, r⟩ := dk2_e h
  subst r
  exact dk_e ((dk_bind (dk_u1 e)).trans (by rw [q]; exact dk_bind (dk_u1 (dk_t e))))
set_option maxRecDepth 20000 in
theorem dk_21 {c : ByteArray} {p : Nat} (n : Nat) (h : dk2 c p 21 n = true) : decode c p = .ok (.iload n, 2) := by
  obtain ⟨x, a, l, e, q, r⟩ := dk2_e h
  subst r
  exact dk_e ((dk_bind (dk_u1 e)).trans (by rw [q]; exact dk_bind (dk_u1 (dk_t e))))
set_option maxRecDepth 20000 in
theorem dk_22 {c : ByteArray} {p : Nat} (n : Nat) (h : dk2 c p 22 n = true) : decode c p = .ok (.lload n, 2) := by
  obtain ⟨x, a, l, e, q, r⟩ := dk2_e h
  subst r
  exact dk_e ((dk_bind (dk_u1 e)).trans (by rw [q]; exact dk_bind (dk_u1 (dk_t e))))
set_option maxRecDepth 20000 in
theorem dk_25 {c : ByteArray} {p : Nat} (n : Nat) (h : dk2 c p 25 n = true) : decode c p = .ok (.aload n, 2) := by
  obtain ⟨x, a, l, e, q, r⟩ := dk2_e h
  subst r
  exact dk_e ((dk_bind (dk_u1 e)).trans (by rw [q]; exact dk_bind (dk_u1 (dk_t e))))
set_option maxRecDepth 20000 in
theorem dk_54 {c : ByteArray} {p : Nat} (n : Nat) (h : dk2 c p 54 n = true) : decode c p = .ok (.istore n, 2) := by
  obtain ⟨x, a, l, e, q, r⟩ := dk2_e h
  subst r
  exact dk_e ((dk_bind (dk_u1 e)).trans (by rw [q]; exact dk_bind (dk_u1 (dk_t e))))
set_option maxRecDepth 20000 in
theorem dk_55 {c : ByteArray} {p : Nat} (n : Nat) (h : dk2 c p 55 n = true) : decode c p = .ok (.lstore n, 2) := by
  obtain ⟨x, a, l, e, q, r⟩ := dk2_e h
  subst r
  exact dk_e ((dk_bind (dk_u1 e)).trans (by rw [q]; exact dk_bind (dk_u1 (dk_t e))))
set_option maxRecDepth 20000 in
theorem dk_58 {c : ByteArray} {p : Nat} (n : Nat) (h : dk2 c p 58 n = true) : decode c p = .ok (.astore n, 2) := by
  obtain ⟨x, a, l, e, q, r⟩ := dk2_e h
  subst r
  exact dk_e ((dk_bind (dk_u1 e)).trans (by rw [q]; exact dk_bind (dk_u1 (dk_t e))))
set_option maxRecDepth 20000 in
theorem dk_16 {c : ByteArray} {p : Nat} (n : Nat) {v : Int} (h : dk2 c p 16 n = true) (hv : Jvm.ClassFile.Reader.signed 8 n = v) : decode c p = .ok (.bipush v, 2) := by
  obtain ⟨x, a, l, e, q, r⟩ := dk2_e h
  subst r hv
  exact dk_e ((dk_bind (dk_u1 e)).trans (by rw [q]; exact dk_bind (dk_s1 (dk_t e))))
set_option maxRecDepth 20000 in
theorem dk_19 {c : ByteArray} {p : Nat} (n : Nat) (h : dk3 c p 19 n = true) : decode c p = .ok (.ldc_w n, 3) := by
  obtain ⟨x, a, b, l, e, q, r⟩ := dk3_e h
  subst r
  exact dk_e ((dk_bind (dk_u1 e)).trans (by rw [q]; exact dk_bind (dk_u2 (dk_t e))))
set_option maxRecDepth 20000 in
theorem dk_20 {c : ByteArray} {p : Nat} (n : Nat) (h : dk3 c p 20 n = true) : decode c p = .ok (.ldc2_w n, 3) := by
  obtain ⟨x, a, b, l, e, q, r⟩ := dk3_e h
  subst r
  exact dk_e ((dk_bind (dk_u1 e)).trans (by rw [q]; exact dk_bind (dk_u2 (dk_t e))))
set_option maxRecDepth 20000 in
theorem dk_178 {c : ByteArray} {p : Nat} (n : Nat) (h : dk3 c p 178 n = true) : decode c p = .ok (.getstatic n, 3) := by
  obtain ⟨x, a, b, l, e, q, r⟩ := dk3_e h
  subst r
  exact dk_e ((dk_bind (dk_u1 e)).trans (by rw [q]; exact dk_bind (dk_u2 (dk_t e))))
set_option maxRecDepth 20000 in
theorem dk_179 {c : ByteArray} {p : Nat} (n : Nat) (h : dk3 c p 179 n = true) : decode c p = .ok (.putstatic n, 3) := by
  obtain ⟨x, a, b, l, e, q, r⟩ := dk3_e h
  subst r
  exact dk_e ((dk_bind (dk_u1 e)).trans (by rw [q]; exact dk_bind (dk_u2 (dk_t e))))
set_option maxRecDepth 20000 in
theorem dk_180 {c : ByteArray} {p : Nat} (n : Nat) (h : dk3 c p 180 n = true) : decode c p = .ok (.getfield n, 3) := by
  obtain ⟨x, a, b, l, e, q, r⟩ := dk3_e h
  subst r
  exact dk_e ((dk_bind (dk_u1 e)).trans (by rw [q]; exact dk_bind (dk_u2 (dk_t e))))
set_option maxRecDepth 20000 in
theorem dk_181 {c : ByteArray} {p : Nat} (n : Nat) (h : dk3 c p 181 n = true) : decode c p = .ok (.putfield n, 3) := by
  obtain ⟨x, a, b, l, e, q, r⟩ := dk3_e h
  subst r
  exact dk_e ((dk_bind (dk_u1 e)).trans (by rw [q]; exact dk_bind (dk_u2 (dk_t e))))
set_option maxRecDepth 20000 in
theorem dk_182 {c : ByteArray} {p : Nat} (n : Nat) (h : dk3 c p 182 n = true) : decode c p = .ok (.invokevirtual n, 3) := by
  obtain ⟨x, a, b, l, e, q, r⟩ := dk3_e h
  subst r
  exact dk_e ((dk_bind (dk_u1 e)).trans (by rw [q]; exact dk_bind (dk_u2 (dk_t e))))
set_option maxRecDepth 20000 in
theorem dk_183 {c : ByteArray} {p : Nat} (n : Nat) (h : dk3 c p 183 n = true) : decode c p = .ok (.invokespecial n, 3) := by
  obtain ⟨x, a, b, l, e, q, r⟩ := dk3_e h
  subst r
  exact dk_e ((dk_bind (dk_u1 e)).trans (by rw [q]; exact dk_bind (dk_u2 (dk_t e))))
set_option maxRecDepth 20000 in
theorem dk_184 {c : ByteArray} {p : Nat} (n : Nat) (h : dk3 c p 184 n = true) : decode c p = .ok (.invokestatic n, 3) := by
  obtain ⟨x, a, b, l, e, q, r⟩ := dk3_e h
  subst r
  exact dk_e ((dk_bind (dk_u1 e)).trans (by rw [q]; exact dk_bind (dk_u2 (dk_t e))))
set_option maxRecDepth 20000 in
theorem dk_187 {c : ByteArray} {p : Nat} (n : Nat) (h : dk3 c p 187 n = true) : decode c p = .ok (.new n, 3) := by
  obtain ⟨x, a, b, l, e, q, r⟩ := dk3_e h
  subst r
  exact dk_e ((dk_bind (dk_u1 e)).trans (by rw [q]; exact dk_bind (dk_u2 (dk_t e))))
set_option maxRecDepth 20000 in
theorem dk_189 {c : ByteArray} {p : Nat} (n : Nat) (h : dk3 c p 189 n = true) : decode c p = .ok (.anewarray n, 3) := by
  obtain ⟨x, a, b, l, e, q, r⟩ := dk3_e h
  subst r
  exact dk_e ((dk_bind (dk_u1 e)).trans (by rw [q]; exact dk_bind (dk_u2 (dk_t e))))
set_option maxRecDepth 20000 in
theorem dk_192 {c : ByteArray} {p : Nat} (n : Nat) (h : dk3 c p 192 n = true) : decode c p = .ok (.checkcast n, 3) := by
  obtain ⟨x, a, b, l, e, q, r⟩ := dk3_e h
  subst r
  exact dk_e ((dk_bind (dk_u1 e)).trans (by rw [q]; exact dk_bind (dk_u2 (dk_t e))))
set_option maxRecDepth 20000 in
theorem dk_193 {c : ByteArray} {p : Nat} (n : Nat) (h : dk3 c p 193 n = true) : decode c p = .ok (.instanceof n, 3) := by
  obtain ⟨x, a, b, l, e, q, r⟩ := dk3_e h
  subst r
  exact dk_e ((dk_bind (dk_u1 e)).trans (by rw [q]; exact dk_bind (dk_u2 (dk_t e))))
set_option maxRecDepth 20000 in
theorem dk_17 {c : ByteArray} {p : Nat} (n : Nat) {v : Int} (h : dk3 c p 17 n = true) (hv : Jvm.ClassFile.Reader.signed 16 n = v) : decode c p = .ok (.sipush v, 3) := by
  obtain ⟨x, a, b, l, e, q, r⟩ := dk3_e h
  subst r hv
  exact dk_e ((dk_bind (dk_u1 e)).trans (by rw [q]; exact dk_bind (dk_s2 (dk_t e))))
set_option maxRecDepth 20000 in
theorem dk_153 {c : ByteArray} {p : Nat} (n : Nat) {v : Int} (h : dk3 c p 153 n = true) (hv : Jvm.ClassFile.Reader.signed 16 n = v) : decode c p = .ok (.ifCond .eq v, 3) := by
  obtain ⟨x, a, b, l, e, q, r⟩ := dk3_e h
  subst r hv
  exact dk_e ((dk_bind (dk_u1 e)).trans (by rw [q]; exact dk_bind (dk_s2 (dk_t e))))
set_option maxRecDepth 20000 in
theorem dk_154 {c : ByteArray} {p : Nat} (n : Nat) {v : Int} (h : dk3 c p 154 n = true) (hv : Jvm.ClassFile.Reader.signed 16 n = v) : decode c p = .ok (.ifCond .ne v, 3) := by
  obtain ⟨x, a, b, l, e, q, r⟩ := dk3_e h
  subst r hv
  exact dk_e ((dk_bind (dk_u1 e)).trans (by rw [q]; exact dk_bind (dk_s2 (dk_t e))))
set_option maxRecDepth 20000 in
theorem dk_155 {c : ByteArray} {p : Nat} (n : Nat) {v : Int} (h : dk3 c p 155 n = true) (hv : Jvm.ClassFile.Reader.signed 16 n = v) : decode c p = .ok (.ifCond .lt v, 3) := by
  obtain ⟨x, a, b, l, e, q, r⟩ := dk3_e h
  subst r hv
  exact dk_e ((dk_bind (dk_u1 e)).trans (by rw [q]; exact dk_bind (dk_s2 (dk_t e))))
set_option maxRecDepth 20000 in
theorem dk_156 {c : ByteArray} {p : Nat} (n : Nat) {v : Int} (h : dk3 c p 156 n = true) (hv : Jvm.ClassFile.Reader.signed 16 n = v) : decode c p = .ok (.ifCond .ge v, 3) := by
  obtain ⟨x, a, b, l, e, q, r⟩ := dk3_e h
  subst r hv
  exact dk_e ((dk_bind (dk_u1 e)).trans (by rw [q]; exact dk_bind (dk_s2 (dk_t e))))
set_option maxRecDepth 20000 in
theorem dk_157 {c : ByteArray} {p : Nat} (n : Nat) {v : Int} (h : dk3 c p 157 n = true) (hv : Jvm.ClassFile.Reader.signed 16 n = v) : decode c p = .ok (.ifCond .gt v, 3) := by
  obtain ⟨x, a, b, l, e, q, r⟩ := dk3_e h
  subst r hv
  exact dk_e ((dk_bind (dk_u1 e)).trans (by rw [q]; exact dk_bind (dk_s2 (dk_t e))))
set_option maxRecDepth 20000 in
theorem dk_158 {c : ByteArray} {p : Nat} (n : Nat) {v : Int} (h : dk3 c p 158 n = true) (hv : Jvm.ClassFile.Reader.signed 16 n = v) : decode c p = .ok (.ifCond .le v, 3) := by
  obtain ⟨x, a, b, l, e, q, r⟩ := dk3_e h
  subst r hv
  exact dk_e ((dk_bind (dk_u1 e)).trans (by rw [q]; exact dk_bind (dk_s2 (dk_t e))))
set_option maxRecDepth 20000 in
theorem dk_159 {c : ByteArray} {p : Nat} (n : Nat) {v : Int} (h : dk3 c p 159 n = true) (hv : Jvm.ClassFile.Reader.signed 16 n = v) : decode c p = .ok (.if_icmp .eq v, 3) := by
  obtain ⟨x, a, b, l, e, q, r⟩ := dk3_e h
  subst r hv
  exact dk_e ((dk_bind (dk_u1 e)).trans (by rw [q]; exact dk_bind (dk_s2 (dk_t e))))
set_option maxRecDepth 20000 in
theorem dk_160 {c : ByteArray} {p : Nat} (n : Nat) {v : Int} (h : dk3 c p 160 n = true) (hv : Jvm.ClassFile.Reader.signed 16 n = v) : decode c p = .ok (.if_icmp .ne v, 3) := by
  obtain ⟨x, a, b, l, e, q, r⟩ := dk3_e h
  subst r hv
  exact dk_e ((dk_bind (dk_u1 e)).trans (by rw [q]; exact dk_bind (dk_s2 (dk_t e))))
set_option maxRecDepth 20000 in
theorem dk_161 {c : ByteArray} {p : Nat} (n : Nat) {v : Int} (h : dk3 c p 161 n = true) (hv : Jvm.ClassFile.Reader.signed 16 n = v) : decode c p = .ok (.if_icmp .lt v, 3) := by
  obtain ⟨x, a, b, l, e, q, r⟩ := dk3_e h
  subst r hv
  exact dk_e ((dk_bind (dk_u1 e)).trans (by rw [q]; exact dk_bind (dk_s2 (dk_t e))))
set_option maxRecDepth 20000 in
theorem dk_162 {c : ByteArray} {p : Nat} (n : Nat) {v : Int} (h : dk3 c p 162 n = true) (hv : Jvm.ClassFile.Reader.signed 16 n = v) : decode c p = .ok (.if_icmp .ge v, 3) := by
  obtain ⟨x, a, b, l, e, q, r⟩ := dk3_e h
  subst r hv
  exact dk_e ((dk_bind (dk_u1 e)).trans (by rw [q]; exact dk_bind (dk_s2 (dk_t e))))
set_option maxRecDepth 20000 in
theorem dk_163 {c : ByteArray} {p : Nat} (n : Nat) {v : Int} (h : dk3 c p 163 n = true) (hv : Jvm.ClassFile.Reader.signed 16 n = v) : decode c p = .ok (.if_icmp .gt v, 3) := by
  obtain ⟨x, a, b, l, e, q, r⟩ := dk3_e h
  subst r hv
  exact dk_e ((dk_bind (dk_u1 e)).trans (by rw [q]; exact dk_bind (dk_s2 (dk_t e))))
set_option maxRecDepth 20000 in
theorem dk_164 {c : ByteArray} {p : Nat} (n : Nat) {v : Int} (h : dk3 c p 164 n = true) (hv : Jvm.ClassFile.Reader.signed 16 n = v) : decode c p = .ok (.if_icmp .le v, 3) := by
  obtain ⟨x, a, b, l, e, q, r⟩ := dk3_e h
  subst r hv
  exact dk_e ((dk_bind (dk_u1 e)).trans (by rw [q]; exact dk_bind (dk_s2 (dk_t e))))
set_option maxRecDepth 20000 in
theorem dk_165 {c : ByteArray} {p : Nat} (n : Nat) {v : Int} (h : dk3 c p 165 n = true) (hv : Jvm.ClassFile.Reader.signed 16 n = v) : decode c p = .ok (.if_acmp .eq v, 3) := by
  obtain ⟨x, a, b, l, e, q, r⟩ := dk3_e h
  subst r hv
  exact dk_e ((dk_bind (dk_u1 e)).trans (by rw [q]; exact dk_bind (dk_s2 (dk_t e))))
set_option maxRecDepth 20000 in
theorem dk_166 {c : ByteArray} {p : Nat} (n : Nat) {v : Int} (h : dk3 c p 166 n = true) (hv : Jvm.ClassFile.Reader.signed 16 n = v) : decode c p = .ok (.if_acmp .ne v, 3) := by
  obtain ⟨x, a, b, l, e, q, r⟩ := dk3_e h
  subst r hv
  exact dk_e ((dk_bind (dk_u1 e)).trans (by rw [q]; exact dk_bind (dk_s2 (dk_t e))))
set_option maxRecDepth 20000 in
theorem dk_167 {c : ByteArray} {p : Nat} (n : Nat) {v : Int} (h : dk3 c p 167 n = true) (hv : Jvm.ClassFile.Reader.signed 16 n = v) : decode c p = .ok (.goto v, 3) := by
  obtain ⟨x, a, b, l, e, q, r⟩ := dk3_e h
  subst r hv
  exact dk_e ((dk_bind (dk_u1 e)).trans (by rw [q]; exact dk_bind (dk_s2 (dk_t e))))
set_option maxRecDepth 20000 in
theorem dk_198 {c : ByteArray} {p : Nat} (n : Nat) {v : Int} (h : dk3 c p 198 n = true) (hv : Jvm.ClassFile.Reader.signed 16 n = v) : decode c p = .ok (.ifnull v, 3) := by
  obtain ⟨x, a, b, l, e, q, r⟩ := dk3_e h
  subst r hv
  exact dk_e ((dk_bind (dk_u1 e)).trans (by rw [q]; exact dk_bind (dk_s2 (dk_t e))))
set_option maxRecDepth 20000 in
theorem dk_199 {c : ByteArray} {p : Nat} (n : Nat) {v : Int} (h : dk3 c p 199 n = true) (hv : Jvm.ClassFile.Reader.signed 16 n = v) : decode c p = .ok (.ifnonnull v, 3) := by
  obtain ⟨x, a, b, l, e, q, r⟩ := dk3_e h
  subst r hv
  exact dk_e ((dk_bind (dk_u1 e)).trans (by rw [q]; exact dk_bind (dk_s2 (dk_t e))))
set_option maxRecDepth 20000 in
theorem dk_132 {c : ByteArray} {p : Nat} (m n : Nat) {v : Int} (h : dk3 c p 132 (m * 256 + n) = true) (hm : n < 256) (hv : Jvm.ClassFile.Reader.signed 8 n = v) : decode c p = .ok (.iinc m v, 3) := by
  obtain ⟨x, a, b, l, e, q, r⟩ := dk3_e h
  have ha := a.toNat_lt
  have hb := b.toNat_lt
  have e1 : a.toNat = m := by omega
  have e2 : b.toNat = n := by omega
  subst e1 e2 hv
  refine dk_e ((dk_bind (dk_u1 e)).trans ?_)
  rw [q]
  exact (dk_bind (dk_u1 (dk_t e))).trans (dk_bind (dk_s1 (dk_t (dk_t e))))
end DK
